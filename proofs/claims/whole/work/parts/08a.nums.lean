/-! numbers: literals, bounds; a row of 56 numbers read off a ledger -/
theorem zl_le {a m : Nat} (ha : a < 2 ^ 31) (hm : m < 2 ^ 31) : (nI a ≤ (no_index (OfNat.ofNat m) : Int32)) ↔ a ≤ m := nI_leI ha hm
theorem zl_lt {a m : Nat} (ha : a < 2 ^ 31) (hm : m < 2 ^ 31) : (nI a < (no_index (OfNat.ofNat m) : Int32)) ↔ a < m := nI_ltI ha hm
theorem zr_le {a m : Nat} (ha : a < 2 ^ 31) (hm : m < 2 ^ 31) : ((no_index (OfNat.ofNat m) : Int32) ≤ nI a) ↔ m ≤ a := nI_leI hm ha
theorem zr_lt {a m : Nat} (ha : a < 2 ^ 31) (hm : m < 2 ^ 31) : ((no_index (OfNat.ofNat m) : Int32) < nI a) ↔ m < a := nI_ltI hm ha
theorem zl_eq {a m : Nat} (ha : a < 2 ^ 31) (hm : m < 2 ^ 31) : (nI a = (no_index (OfNat.ofNat m) : Int32)) ↔ a = m := nI_eq ha hm
theorem zr_eq {a m : Nat} (ha : a < 2 ^ 31) (hm : m < 2 ^ 31) : ((no_index (OfNat.ofNat m) : Int32) = nI a) ↔ m = a := nI_eq hm ha
theorem z_in {a n : Nat} (ha : a < 2 ^ 31) (hn : n < 2 ^ 31) : vp_in (nI a) n ↔ a < n := by
  rw [vp_in_iff, nI_toInt ha]; omega
theorem ifT {c A B : Prop} [Decidable c] (h : c) (a : A) : if c then A else B := by rw [if_pos h]; exact a
theorem ifF {c A B : Prop} [Decidable c] (h : ¬ c) (b : B) : if c then A else B := by rw [if_neg h]; exact b
theorem gI_at (G : GS) (p k : Nat) (x : Int32) : (gI G p k x).1 p = upd (G.1 p) k x := if_pos rfl
theorem gI_ne (G : GS) {p q : Nat} (k : Nat) (x : Int32) (h : q ≠ p) : (gI G p k x).1 q = G.1 q := if_neg h
theorem gI_2 (G : GS) (p k : Nat) (x : Int32) : (gI G p k x).2 = G.2 := rfl
theorem gA_at (G : GS) (p : Nat) (f : Nat → Int32) : (gA G p f).1 p = f := if_pos rfl
theorem gA_ne (G : GS) {p q : Nat} (f : Nat → Int32) (h : q ≠ p) : (gA G p f).1 q = G.1 q := if_neg h
theorem gA_2 (G : GS) (p : Nat) (f : Nat → Int32) : (gA G p f).2 = G.2 := rfl
theorem gL_1 (G : GS) (k : Nat) (x : Int64) : (gL G k x).1 = G.1 := rfl
theorem gD_1 (G : GS) (k : Nat) (x : UInt64) : (gD G k x).1 = G.1 := rfl
theorem upd_at (f : Nat → Int32) (k : Nat) (x : Int32) : upd f k x k = x := if_pos rfl
theorem upd_ne (f : Nat → Int32) {k j : Nat} (x : Int32) (h : j ≠ k) : upd f k x j = f j := if_neg h
/-- the ledger at place b as a row: 0 vaults, 1 day, 2 rates, 5 in, 8 out, 11 minted, redeemed, evaporated, audits, sound, then eight a vault: flies of three kinds, crumbs, dew, wings, stickiness, frozen -/
def lg (M : Nat → Nat → Int32) (b : Nat) : Nat → Int32 := fun k =>
  if k < 2 then M b (4 + k)
  else if k < 5 then M (b + 2) (k - 2)
  else if k < 8 then M (b + 3) (k - 5)
  else if k < 11 then M (b + 4) (k - 8)
  else if k < 16 then M b (k - 5)
  else if k < 56 then (if (k - 16) % 8 < 3 then M (b + 1 + 4 + (k - 16) / 8 + 5) ((k - 16) % 8) else M (b + 1 + 4 + (k - 16) / 8) ((k - 16) % 8 - 2))
  else 0
theorem lg_0 (M : Nat → Nat → Int32) (b : Nat) : lg M b 0 = M b 4 := rfl
theorem lg_1 (M : Nat → Nat → Int32) (b : Nat) : lg M b 1 = M b 5 := rfl
theorem lg_r (M : Nat → Nat → Int32) (b : Nat) {k : Nat} (h : k < 3) : lg M b (2 + k) = M (b + 2) k := by
  unfold lg
  rw [if_neg (by omega), if_pos (by omega), Nat.add_sub_cancel_left]
theorem lg_i (M : Nat → Nat → Int32) (b : Nat) {k : Nat} (h : k < 3) : lg M b (5 + k) = M (b + 3) k := by
  unfold lg
  rw [if_neg (by omega), if_neg (by omega), if_pos (by omega), Nat.add_sub_cancel_left]
theorem lg_o (M : Nat → Nat → Int32) (b : Nat) {k : Nat} (h : k < 3) : lg M b (8 + k) = M (b + 4) k := by
  unfold lg
  rw [if_neg (by omega), if_neg (by omega), if_neg (by omega), if_pos (by omega), Nat.add_sub_cancel_left]
theorem lg_t (M : Nat → Nat → Int32) (b : Nat) {k : Nat} (h : k < 5) : lg M b (11 + k) = M b (6 + k) := by
  unfold lg
  rw [if_neg (by omega), if_neg (by omega), if_neg (by omega), if_neg (by omega), if_pos (by omega), show 11 + k - 5 = 6 + k by omega]
theorem lg_h (M : Nat → Nat → Int32) (b : Nat) {v k : Nat} (hv : v < 5) (h : k < 3) : lg M b (16 + 8 * v + k) = M (b + 1 + 4 + v + 5) k := by
  unfold lg
  rw [if_neg (by omega), if_neg (by omega), if_neg (by omega), if_neg (by omega), if_neg (by omega), if_pos (by omega), show (16 + 8 * v + k - 16) % 8 = k by omega, show (16 + 8 * v + k - 16) / 8 = v by omega, if_pos h]
theorem lg_v (M : Nat → Nat → Int32) (b : Nat) {v j : Nat} (hv : v < 5) (h0 : 1 ≤ j) (h : j < 6) : lg M b (16 + 8 * v + (j + 2)) = M (b + 1 + 4 + v) j := by
  unfold lg
  rw [if_neg (by omega), if_neg (by omega), if_neg (by omega), if_neg (by omega), if_neg (by omega), if_pos (by omega), show (16 + 8 * v + (j + 2) - 16) % 8 = j + 2 by omega, show (16 + 8 * v + (j + 2) - 16) / 8 = v by omega, if_neg (by omega), Nat.add_sub_cancel]
theorem lg_top (M : Nat → Nat → Int32) (b : Nat) {k : Nat} (h : 56 ≤ k) : lg M b k = 0 := by
  unfold lg
  rw [if_neg (by omega), if_neg (by omega), if_neg (by omega), if_neg (by omega), if_neg (by omega), if_neg (by omega)]
/-- every place below 56 is one of these -/
theorem ix_cases {P : Nat → Prop} (h0 : P 0) (h1 : P 1) (hr : ∀ k, k < 3 → P (2 + k)) (hi : ∀ k, k < 3 → P (5 + k)) (ho : ∀ k, k < 3 → P (8 + k)) (ht : ∀ k, k < 5 → P (11 + k)) (hh : ∀ v k, v < 5 → k < 3 → P (16 + 8 * v + k)) (hv : ∀ v j, v < 5 → 1 ≤ j → j < 6 → P (16 + 8 * v + (j + 2))) : ∀ k, k < 56 → P k := by
  intro k hk
  by_cases c0 : k = 0
  · subst c0; exact h0
  by_cases c1 : k = 1
  · subst c1; exact h1
  by_cases c2 : k < 5
  · have := hr (k - 2) (by omega); rwa [show 2 + (k - 2) = k by omega] at this
  by_cases c3 : k < 8
  · have := hi (k - 5) (by omega); rwa [show 5 + (k - 5) = k by omega] at this
  by_cases c4 : k < 11
  · have := ho (k - 8) (by omega); rwa [show 8 + (k - 8) = k by omega] at this
  by_cases c5 : k < 16
  · have := ht (k - 11) (by omega); rwa [show 11 + (k - 11) = k by omega] at this
  by_cases c6 : (k - 16) % 8 < 3
  · have := hh ((k - 16) / 8) ((k - 16) % 8) (by omega) c6; rwa [show 16 + 8 * ((k - 16) / 8) + (k - 16) % 8 = k by omega] at this
  · have := hv ((k - 16) / 8) ((k - 16) % 8 - 2) (by omega) (by omega) (by omega); rwa [show 16 + 8 * ((k - 16) / 8) + ((k - 16) % 8 - 2 + 2) = k by omega] at this
theorem lg_ext {M M' : Nat → Nat → Int32} {b : Nat} {f : Nat → Int32} (hz : ∀ k, 56 ≤ k → f k = 0) (h : ∀ k, k < 56 → lg M' b k = f k) : lg M' b = f := by
  funext k
  by_cases hk : k < 56
  · exact h k hk
  · rw [lg_top _ _ (by omega), hz k (by omega)]
theorem lg_upd_top (M : Nat → Nat → Int32) (b i : Nat) (x : Int32) (hi : i < 56) : ∀ k, 56 ≤ k → upd (lg M b) i x k = 0 := fun k hk => by rw [upd_ne _ _ (by omega), lg_top _ _ hk]
/-- two memories that agree on a ledger's fifteen places -/
theorem lg_same {M M' : Nat → Nat → Int32} {b : Nat} (h : ∀ q, b ≤ q → q < b + 15 → M' q = M q) : lg M' b = lg M b := by
  refine lg_ext (M := M) (fun k hk => lg_top _ _ hk) (ix_cases ?_ ?_ ?_ ?_ ?_ ?_ ?_ ?_)
  · rw [lg_0, lg_0, h b (by omega) (by omega)]
  · rw [lg_1, lg_1, h b (by omega) (by omega)]
  · intro k hk; rw [lg_r _ _ hk, lg_r _ _ hk, h _ (by omega) (by omega)]
  · intro k hk; rw [lg_i _ _ hk, lg_i _ _ hk, h _ (by omega) (by omega)]
  · intro k hk; rw [lg_o _ _ hk, lg_o _ _ hk, h _ (by omega) (by omega)]
  · intro k hk; rw [lg_t _ _ hk, lg_t _ _ hk, h _ (by omega) (by omega)]
  · intro v k hv hk; rw [lg_h _ _ hv hk, lg_h _ _ hv hk, h _ (by omega) (by omega)]
  · intro v j hv h0 hj; rw [lg_v _ _ hv h0 hj, lg_v _ _ hv h0 hj, h _ (by omega) (by omega)]
theorem lg_ne (G : GS) {b p k : Nat} (x : Int32) (h : p < b ∨ b + 15 ≤ p) : lg (gI G p k x).1 b = lg G.1 b :=
  lg_same (fun q h1 h2 => gI_ne G k x (by omega))
theorem lg_u0 (G : GS) (b : Nat) (x : Int32) : lg (gI G b 4 x).1 b = upd (lg G.1 b) 0 x := by
  refine lg_ext (M := G.1) (lg_upd_top _ _ _ _ (by decide)) (ix_cases ?_ ?_ ?_ ?_ ?_ ?_ ?_ ?_)
  · rw [lg_0, gI_at, upd_at, upd_at]
  · rw [lg_1, gI_at, upd_ne _ _ (by decide), upd_ne _ _ (by decide), lg_1]
  · intro k hk; rw [lg_r _ _ hk, gI_ne _ _ _ (by omega), upd_ne _ _ (by omega), lg_r _ _ hk]
  · intro k hk; rw [lg_i _ _ hk, gI_ne _ _ _ (by omega), upd_ne _ _ (by omega), lg_i _ _ hk]
  · intro k hk; rw [lg_o _ _ hk, gI_ne _ _ _ (by omega), upd_ne _ _ (by omega), lg_o _ _ hk]
  · intro k hk; rw [lg_t _ _ hk, gI_at, upd_ne _ _ (by omega), upd_ne _ _ (by omega), lg_t _ _ hk]
  · intro v k hv hk; rw [lg_h _ _ hv hk, gI_ne _ _ _ (by omega), upd_ne _ _ (by omega), lg_h _ _ hv hk]
  · intro v j hv h0 hj; rw [lg_v _ _ hv h0 hj, gI_ne _ _ _ (by omega), upd_ne _ _ (by omega), lg_v _ _ hv h0 hj]
theorem lg_u1 (G : GS) (b : Nat) (x : Int32) : lg (gI G b 5 x).1 b = upd (lg G.1 b) 1 x := by
  refine lg_ext (M := G.1) (lg_upd_top _ _ _ _ (by decide)) (ix_cases ?_ ?_ ?_ ?_ ?_ ?_ ?_ ?_)
  · rw [lg_0, gI_at, upd_ne _ _ (by decide), upd_ne _ _ (by decide), lg_0]
  · rw [lg_1, gI_at, upd_at, upd_at]
  · intro k hk; rw [lg_r _ _ hk, gI_ne _ _ _ (by omega), upd_ne _ _ (by omega), lg_r _ _ hk]
  · intro k hk; rw [lg_i _ _ hk, gI_ne _ _ _ (by omega), upd_ne _ _ (by omega), lg_i _ _ hk]
  · intro k hk; rw [lg_o _ _ hk, gI_ne _ _ _ (by omega), upd_ne _ _ (by omega), lg_o _ _ hk]
  · intro k hk; rw [lg_t _ _ hk, gI_at, upd_ne _ _ (by omega), upd_ne _ _ (by omega), lg_t _ _ hk]
  · intro v k hv hk; rw [lg_h _ _ hv hk, gI_ne _ _ _ (by omega), upd_ne _ _ (by omega), lg_h _ _ hv hk]
  · intro v j hv h0 hj; rw [lg_v _ _ hv h0 hj, gI_ne _ _ _ (by omega), upd_ne _ _ (by omega), lg_v _ _ hv h0 hj]
theorem lg_ut (G : GS) (b : Nat) {j : Nat} (hj : j < 5) (x : Int32) : lg (gI G b (6 + j) x).1 b = upd (lg G.1 b) (11 + j) x := by
  refine lg_ext (M := G.1) (lg_upd_top _ _ _ _ (by omega)) (ix_cases ?_ ?_ ?_ ?_ ?_ ?_ ?_ ?_)
  · rw [lg_0, gI_at, upd_ne _ _ (by omega), upd_ne _ _ (by omega), lg_0]
  · rw [lg_1, gI_at, upd_ne _ _ (by omega), upd_ne _ _ (by omega), lg_1]
  · intro k hk; rw [lg_r _ _ hk, gI_ne _ _ _ (by omega), upd_ne _ _ (by omega), lg_r _ _ hk]
  · intro k hk; rw [lg_i _ _ hk, gI_ne _ _ _ (by omega), upd_ne _ _ (by omega), lg_i _ _ hk]
  · intro k hk; rw [lg_o _ _ hk, gI_ne _ _ _ (by omega), upd_ne _ _ (by omega), lg_o _ _ hk]
  · intro k hk
    rw [lg_t _ _ hk, gI_at]
    by_cases c : k = j
    · subst c; rw [upd_at, upd_at]
    · rw [upd_ne _ _ (by omega), upd_ne _ _ (by omega), lg_t _ _ hk]
  · intro v k hv hk; rw [lg_h _ _ hv hk, gI_ne _ _ _ (by omega), upd_ne _ _ (by omega), lg_h _ _ hv hk]
  · intro v j2 hv h0 hj2; rw [lg_v _ _ hv h0 hj2, gI_ne _ _ _ (by omega), upd_ne _ _ (by omega), lg_v _ _ hv h0 hj2]
theorem lg_ur (G : GS) (b : Nat) {j : Nat} (hj : j < 3) (x : Int32) : lg (gI G (b + 2) j x).1 b = upd (lg G.1 b) (2 + j) x := by
  refine lg_ext (M := G.1) (lg_upd_top _ _ _ _ (by omega)) (ix_cases ?_ ?_ ?_ ?_ ?_ ?_ ?_ ?_)
  · rw [lg_0, gI_ne _ _ _ (by omega), upd_ne _ _ (by omega), lg_0]
  · rw [lg_1, gI_ne _ _ _ (by omega), upd_ne _ _ (by omega), lg_1]
  · intro k hk
    rw [lg_r _ _ hk, gI_at]
    by_cases c : k = j
    · subst c; rw [upd_at, upd_at]
    · rw [upd_ne _ _ (by omega), upd_ne _ _ (by omega), lg_r _ _ hk]
  · intro k hk; rw [lg_i _ _ hk, gI_ne _ _ _ (by omega), upd_ne _ _ (by omega), lg_i _ _ hk]
  · intro k hk; rw [lg_o _ _ hk, gI_ne _ _ _ (by omega), upd_ne _ _ (by omega), lg_o _ _ hk]
  · intro k hk; rw [lg_t _ _ hk, gI_ne _ _ _ (by omega), upd_ne _ _ (by omega), lg_t _ _ hk]
  · intro v k hv hk; rw [lg_h _ _ hv hk, gI_ne _ _ _ (by omega), upd_ne _ _ (by omega), lg_h _ _ hv hk]
  · intro v j2 hv h0 hj2; rw [lg_v _ _ hv h0 hj2, gI_ne _ _ _ (by omega), upd_ne _ _ (by omega), lg_v _ _ hv h0 hj2]
theorem lg_ui (G : GS) (b : Nat) {j : Nat} (hj : j < 3) (x : Int32) : lg (gI G (b + 3) j x).1 b = upd (lg G.1 b) (5 + j) x := by
  refine lg_ext (M := G.1) (lg_upd_top _ _ _ _ (by omega)) (ix_cases ?_ ?_ ?_ ?_ ?_ ?_ ?_ ?_)
  · rw [lg_0, gI_ne _ _ _ (by omega), upd_ne _ _ (by omega), lg_0]
  · rw [lg_1, gI_ne _ _ _ (by omega), upd_ne _ _ (by omega), lg_1]
  · intro k hk; rw [lg_r _ _ hk, gI_ne _ _ _ (by omega), upd_ne _ _ (by omega), lg_r _ _ hk]
  · intro k hk
    rw [lg_i _ _ hk, gI_at]
    by_cases c : k = j
    · subst c; rw [upd_at, upd_at]
    · rw [upd_ne _ _ (by omega), upd_ne _ _ (by omega), lg_i _ _ hk]
  · intro k hk; rw [lg_o _ _ hk, gI_ne _ _ _ (by omega), upd_ne _ _ (by omega), lg_o _ _ hk]
  · intro k hk; rw [lg_t _ _ hk, gI_ne _ _ _ (by omega), upd_ne _ _ (by omega), lg_t _ _ hk]
  · intro v k hv hk; rw [lg_h _ _ hv hk, gI_ne _ _ _ (by omega), upd_ne _ _ (by omega), lg_h _ _ hv hk]
  · intro v j2 hv h0 hj2; rw [lg_v _ _ hv h0 hj2, gI_ne _ _ _ (by omega), upd_ne _ _ (by omega), lg_v _ _ hv h0 hj2]
theorem lg_uo (G : GS) (b : Nat) {j : Nat} (hj : j < 3) (x : Int32) : lg (gI G (b + 4) j x).1 b = upd (lg G.1 b) (8 + j) x := by
  refine lg_ext (M := G.1) (lg_upd_top _ _ _ _ (by omega)) (ix_cases ?_ ?_ ?_ ?_ ?_ ?_ ?_ ?_)
  · rw [lg_0, gI_ne _ _ _ (by omega), upd_ne _ _ (by omega), lg_0]
  · rw [lg_1, gI_ne _ _ _ (by omega), upd_ne _ _ (by omega), lg_1]
  · intro k hk; rw [lg_r _ _ hk, gI_ne _ _ _ (by omega), upd_ne _ _ (by omega), lg_r _ _ hk]
  · intro k hk; rw [lg_i _ _ hk, gI_ne _ _ _ (by omega), upd_ne _ _ (by omega), lg_i _ _ hk]
  · intro k hk
    rw [lg_o _ _ hk, gI_at]
    by_cases c : k = j
    · subst c; rw [upd_at, upd_at]
    · rw [upd_ne _ _ (by omega), upd_ne _ _ (by omega), lg_o _ _ hk]
  · intro k hk; rw [lg_t _ _ hk, gI_ne _ _ _ (by omega), upd_ne _ _ (by omega), lg_t _ _ hk]
  · intro v k hv hk; rw [lg_h _ _ hv hk, gI_ne _ _ _ (by omega), upd_ne _ _ (by omega), lg_h _ _ hv hk]
  · intro v j2 hv h0 hj2; rw [lg_v _ _ hv h0 hj2, gI_ne _ _ _ (by omega), upd_ne _ _ (by omega), lg_v _ _ hv h0 hj2]
theorem lg_uh (G : GS) (b : Nat) {v j : Nat} (hv : v < 5) (hj : j < 3) (x : Int32) : lg (gI G (b + 1 + 4 + v + 5) j x).1 b = upd (lg G.1 b) (16 + 8 * v + j) x := by
  refine lg_ext (M := G.1) (lg_upd_top _ _ _ _ (by omega)) (ix_cases ?_ ?_ ?_ ?_ ?_ ?_ ?_ ?_)
  · rw [lg_0, gI_ne _ _ _ (by omega), upd_ne _ _ (by omega), lg_0]
  · rw [lg_1, gI_ne _ _ _ (by omega), upd_ne _ _ (by omega), lg_1]
  · intro k hk; rw [lg_r _ _ hk, gI_ne _ _ _ (by omega), upd_ne _ _ (by omega), lg_r _ _ hk]
  · intro k hk; rw [lg_i _ _ hk, gI_ne _ _ _ (by omega), upd_ne _ _ (by omega), lg_i _ _ hk]
  · intro k hk; rw [lg_o _ _ hk, gI_ne _ _ _ (by omega), upd_ne _ _ (by omega), lg_o _ _ hk]
  · intro k hk; rw [lg_t _ _ hk, gI_ne _ _ _ (by omega), upd_ne _ _ (by omega), lg_t _ _ hk]
  · intro v2 k hv2 hk
    rw [lg_h _ _ hv2 hk]
    by_cases c : v2 = v
    · subst c
      rw [gI_at]
      by_cases c : k = j
      · subst c; rw [upd_at, upd_at]
      · rw [upd_ne _ _ (by omega), upd_ne _ _ (by omega), lg_h _ _ hv2 hk]
    · rw [gI_ne _ _ _ (by omega), upd_ne _ _ (by omega), lg_h _ _ hv2 hk]
  · intro v2 j2 hv2 h0 hj2; rw [lg_v _ _ hv2 h0 hj2, gI_ne _ _ _ (by omega), upd_ne _ _ (by omega), lg_v _ _ hv2 h0 hj2]
theorem lg_uv (G : GS) (b : Nat) {v j : Nat} (hv : v < 5) (h0 : 1 ≤ j) (hj : j < 6) (x : Int32) : lg (gI G (b + 1 + 4 + v) j x).1 b = upd (lg G.1 b) (16 + 8 * v + (j + 2)) x := by
  refine lg_ext (M := G.1) (lg_upd_top _ _ _ _ (by omega)) (ix_cases ?_ ?_ ?_ ?_ ?_ ?_ ?_ ?_)
  · rw [lg_0, gI_ne _ _ _ (by omega), upd_ne _ _ (by omega), lg_0]
  · rw [lg_1, gI_ne _ _ _ (by omega), upd_ne _ _ (by omega), lg_1]
  · intro k hk; rw [lg_r _ _ hk, gI_ne _ _ _ (by omega), upd_ne _ _ (by omega), lg_r _ _ hk]
  · intro k hk; rw [lg_i _ _ hk, gI_ne _ _ _ (by omega), upd_ne _ _ (by omega), lg_i _ _ hk]
  · intro k hk; rw [lg_o _ _ hk, gI_ne _ _ _ (by omega), upd_ne _ _ (by omega), lg_o _ _ hk]
  · intro k hk; rw [lg_t _ _ hk, gI_ne _ _ _ (by omega), upd_ne _ _ (by omega), lg_t _ _ hk]
  · intro v2 k hv2 hk; rw [lg_h _ _ hv2 hk, gI_ne _ _ _ (by omega), upd_ne _ _ (by omega), lg_h _ _ hv2 hk]
  · intro v2 j2 hv2 h02 hj2
    rw [lg_v _ _ hv2 h02 hj2]
    by_cases c : v2 = v
    · subst c
      rw [gI_at]
      by_cases c : j2 = j
      · subst c; rw [upd_at, upd_at]
      · rw [upd_ne _ _ (by omega), upd_ne _ _ (by omega), lg_v _ _ hv2 h02 hj2]
    · rw [gI_ne _ _ _ (by omega), upd_ne _ _ (by omega), lg_v _ _ hv2 h02 hj2]
