/-! leaves of the class: what a vault and the ledger answer -/
theorem cf_n {G : GS} {n : Nat} {R : Nat → Nat} {A : Nat → Nat → Nat} (C : CR (lg G.1 0) n R A) : G.1 0 4 = nI n := C.1
theorem cf_r {G : GS} {n : Nat} {R : Nat → Nat} {A : Nat → Nat → Nat} (C : CR (lg G.1 0) n R A) : ∀ k, k < 3 → G.1 (0 + 2) k = nI (R k) := fun k h => (lg_r G.1 0 h).symm.trans (C.2.1 k h)
theorem cf_h {G : GS} {n : Nat} {R : Nat → Nat} {A : Nat → Nat → Nat} (C : CR (lg G.1 0) n R A) {v : Nat} (hv : v < 5) : ∀ k, k < 3 → G.1 (0 + 1 + 4 + v + 5) k = nI (A v k) := fun k h => (lg_h G.1 0 hv h).symm.trans (C.2.2 v k hv (by omega))
theorem cf_v {G : GS} {n : Nat} {R : Nat → Nat} {A : Nat → Nat → Nat} (C : CR (lg G.1 0) n R A) {v : Nat} (hv : v < 5) (j : Nat) (h0 : 1 ≤ j) (h : j < 6) : G.1 (0 + 1 + 4 + v) j = nI (A v (j + 2)) := (lg_v G.1 0 hv h0 h).symm.trans (C.2.2 v (j + 2) hv (by omega))
theorem cf_1 {G : GS} {n : Nat} {R : Nat → Nat} {A : Nat → Nat → Nat} (C : CR (lg G.1 0) n R A) {v : Nat} (hv : v < 5) : G.1 (0 + 1 + 4 + v) 1 = nI (A v 3) := cf_v C hv 1 (by decide) (by decide)
theorem cf_2 {G : GS} {n : Nat} {R : Nat → Nat} {A : Nat → Nat → Nat} (C : CR (lg G.1 0) n R A) {v : Nat} (hv : v < 5) : G.1 (0 + 1 + 4 + v) 2 = nI (A v 4) := cf_v C hv 2 (by decide) (by decide)
theorem cf_3 {G : GS} {n : Nat} {R : Nat → Nat} {A : Nat → Nat → Nat} (C : CR (lg G.1 0) n R A) {v : Nat} (hv : v < 5) : G.1 (0 + 1 + 4 + v) 3 = nI (A v 5) := cf_v C hv 3 (by decide) (by decide)
theorem cf_4 {G : GS} {n : Nat} {R : Nat → Nat} {A : Nat → Nat → Nat} (C : CR (lg G.1 0) n R A) {v : Nat} (hv : v < 5) : G.1 (0 + 1 + 4 + v) 4 = nI (A v 6) := cf_v C hv 4 (by decide) (by decide)
theorem cf_5 {G : GS} {n : Nat} {R : Nat → Nat} {A : Nat → Nat → Nat} (C : CR (lg G.1 0) n R A) {v : Nat} (hv : v < 5) : G.1 (0 + 1 + 4 + v) 5 = nI (A v 7) := cf_v C hv 5 (by decide) (by decide)
section LEAF
variable {G : GS} {n : Nat} {R : Nat → Nat} {A : Nat → Nat → Nat} {post : Int32 → GS → Prop} {pv : GS → Prop}
theorem legs_step {q p k m : Nat} {acc : Int32} (hk : k < 3) (hq : ln (q + 5) = 3) (hp : ln p = 3) (h : wlX7_legsAt_7 post q p m G (acc + G.1 (q + 5) k * G.1 p k) (nI (k + 1))) : wlX7_legsAt_7 post q p (m + 1) G acc (nI k) := by
  rw [wlX7_legsAt_7]
  refine ifF (nI_ge hk (by decide)) ?_
  rw [hq, hp]
  refine ⟨vp_in_nI hk (by decide), vp_in_nI hk (by decide), ?_⟩
  rintro z rfl y rfl
  rw [nI_clamp (by omega), nI_1]
  exact h
theorem s_legs {q p : Nat} {f : Nat → Nat} (h3 : G.1 q 1 = nI (f 3)) (hf : ∀ k, k < 3 → G.1 (q + 5) k = nI (f k)) (hr : ∀ k, k < 3 → G.1 p k = nI (R k)) (hq : ln (q + 5) = 3) (hp : ln p = 3) (h : post (nI (vl R f)) G) : wpX7_legsAt post q p G := by
  unfold wpX7_legsAt
  rintro z rfl
  refine ⟨3 + 1, ?_⟩
  refine legs_step (k := 0) (m := 2 + 1) (by decide) hq hp ?_
  refine legs_step (k := 1) (m := 1 + 1) (by decide) hq hp ?_
  refine legs_step (k := 2) (m := 0 + 1) (by decide) hq hp ?_
  rw [wlX7_legsAt_7, h3, hf 0 (by decide), hf 1 (by decide), hf 2 (by decide), hr 0 (by decide), hr 1 (by decide), hr 2 (by decide), pk_mul, pk_mul, pk_mul, nI_add, nI_add, nI_add]
  exact ifT (nI_le (a := 3) (b := 3) (by decide) (by decide)) h
theorem s_back {q V t : Nat} (h4 : G.1 q 4 = nI t) (hV : V ≤ 100000) (ht : t ≤ 9) (h : post (nI (V - V * t / 10)) G) : wpX7_backingOf post q (nI V) G := by
  unfold wpX7_backingOf wpX7_reserveOf
  show post (nI V - nI V * G.1 q 4 / 10) G
  rw [h4, bck_num hV ht]
  exact h
theorem s_legsV (C : CR (lg G.1 0) n R A) {v : Nat} (hv : v < 5) (h : post (nI (vl R (A v))) G) : wpX7_legsAt post (0 + 1 + 4 + v) (0 + 2) G :=
  s_legs (cf_1 C hv) (cf_h C hv) (cf_r C) (ln3 (by omega)) (ln3 (by decide)) h
theorem s_sound (C : CR (lg G.1 0) n R A) (B : NB n R A) {v : Nat} (hv : v < 5) (h : post (if bk R (A v) < A v 4 then 0 else 1) G) : wpX7_soundAt post (0 + 1 + 4 + v) (0 + 2) G := by
  have V := vl_le B hv
  have D := A_le B hv (j := 4) (by decide)
  have K := bk_le R (A v)
  unfold wpX7_soundAt
  refine s_legsV C hv ?_
  refine s_back (cf_4 C hv) (by omega) (B.2.2.1 v 6 hv (by decide)) ?_
  rw [cf_2 C hv]
  by_cases c : bk R (A v) < A v 4
  · rw [if_pos c] at h
    exact ifT (nI_lt c (by omega)) h
  · rw [if_neg c] at h
    exact ifF (nI_nlt (Nat.le_of_not_lt c) (by unfold bk at K; omega)) h
theorem mx_num {a b : Nat} (ha : a < 2 ^ 30) (hb : b < 2 ^ 30) : (if 0 < nI a - nI b then nI a - nI b else 0) = nI (a - b) := by
  by_cases c : b < a
  · rw [if_pos ((sp_gt ha hb).mpr c), pk_sub (by omega)]
  · rw [if_neg (fun h => c ((sp_gt ha hb).mp h)), Nat.sub_eq_zero_of_le (by omega)]; rfl
theorem s_free (C : CR (lg G.1 0) n R A) (B : NB n R A) {v : Nat} (hv : v < 5) (h : post (nI (bk R (A v) - A v 4)) G) : wpX7_dropsFreeAt post (0 + 1 + 4 + v) (0 + 2) G := by
  have V := vl_le B hv
  have D := A_le B hv (j := 4) (by decide)
  have K := bk_le R (A v)
  unfold wpX7_dropsFreeAt
  refine s_legsV C hv ?_
  refine s_back (cf_4 C hv) (by omega) (B.2.2.1 v 6 hv (by decide)) ?_
  rw [cf_2 C hv]
  rw [← mx_num (by omega) (by omega)] at h
  exact h
theorem s_dsub (C : CR (lg G.1 0) n R A) (B : NB n R A) {v : Nat} (hv : v < 5) (h : post (nI (A v 4 - bk R (A v))) G) : wpX7_daysBySubtraction post (0 + 1 + 4 + v) (0 + 2) G := by
  have V := vl_le B hv
  have D := A_le B hv (j := 4) (by decide)
  have K := bk_le R (A v)
  unfold wpX7_daysBySubtraction
  refine s_legsV C hv ?_
  refine s_back (cf_4 C hv) (by omega) (B.2.2.1 v 6 hv (by decide)) ?_
  rw [cf_2 C hv]
  rw [← mx_num (by omega) (by omega)] at h
  exact h
theorem dcount_loop {q p b : Nat} (hb : b < 2 ^ 30) : ∀ (d c : Nat), d < 2 ^ 30 → post (nI (c + (d - b))) G → wlX7_daysByCounting_18 post q p (d + 1) G (nI b) (nI c) (nI d) := by
  intro d
  induction d with
  | zero =>
    intro c _ h
    rw [wlX7_daysByCounting_18]
    exact ifT (nI_le (Nat.zero_le b) (by omega)) (by simpa using h)
  | succ d ih =>
    intro c hd h
    rw [wlX7_daysByCounting_18]
    by_cases g : d + 1 ≤ b
    · refine ifT (nI_le g (by omega)) ?_
      rw [Nat.sub_eq_zero_of_le g] at h
      exact h
    · refine ifF (nI_ge (by omega) (by omega)) ?_
      refine ifF (nI_nle (by omega) (by omega)) ?_
      rintro z rfl y rfl
      rw [nI_1, pk_m1]
      refine ih (c + 1) (by omega) ?_
      rw [show c + 1 + (d - b) = c + (d + 1 - b) by omega]; exact h
theorem s_dcount (C : CR (lg G.1 0) n R A) (B : NB n R A) {v : Nat} (hv : v < 5) (h : post (nI (A v 4 - bk R (A v))) G) : wpX7_daysByCounting post (0 + 1 + 4 + v) (0 + 2) G := by
  have V := vl_le B hv
  have D := A_le B hv (j := 4) (by decide)
  have K := bk_le R (A v)
  unfold wpX7_daysByCounting
  refine s_legsV C hv ?_
  refine s_back (cf_4 C hv) (by omega) (B.2.2.1 v 6 hv (by decide)) ?_
  rintro z rfl
  rw [cf_2 C hv]
  refine ⟨A v 4 + 1, dcount_loop (b := bk R (A v)) (by omega) (A v 4) 0 (by omega) ?_⟩
  rw [Nat.zero_add]; exact h
theorem s_quot {a d : Nat} (ha : a < 2 ^ 31) (h1 : 1 ≤ d) (hd : d < 2 ^ 31) (h : post (nI (a / d)) G) : wpX8_quotient post (nI a) (nI d) G := by
  unfold wpX8_quotient
  refine ifT (nI_le h1 hd) ⟨nI_ne0 h1 hd, ?_⟩
  rw [pk_div ha h1 hd]
  exact h
theorem s_mostV (C : CR (lg G.1 0) n R A) (B : NB n R A) {v k : Nat} (hv : v < 5) (hk : k < 3) (h : post (nI (vl R (A v) / R k)) G) : wpX7_mostByValue post (0 + 1 + 4 + v) (nI k) (0 + 2) G := by
  have V := vl_le B hv
  have Rk := B.2.1 k hk
  unfold wpX7_mostByValue
  refine s_legsV C hv ?_
  refine ⟨vp_in_nI (by rw [ln3 (by decide)]; exact hk) (by rw [ln3 (by decide)]; decide), ?_⟩
  rw [nI_clamp (by omega), cf_r C k hk]
  exact s_quot (by omega) Rk.1 (by omega) h
theorem s_frozen (C : CR (lg G.1 0) n R A) (B : NB n R A) {v : Nat} (hv : v < 5) (h : post (if A v 7 = 0 then 0 else 1) G) : wpX7_frozen post (0 + 1 + 4 + v) G := by
  have D := A_le B hv (j := 7) (by decide)
  unfold wpX7_frozen
  rw [cf_5 C hv]
  by_cases c : A v 7 = 0
  · rw [if_pos c] at h
    exact ifT (by rw [c]; exact nI_le (a := 0) (b := 0) (by decide) (by decide)) h
  · rw [if_neg c] at h
    exact ifF (nI_nle (by omega) (by omega)) h
theorem s_hasT (C : CR (lg G.1 0) n R A) (B : NB n R A) {v : Nat} (hv : v < n) (h : post 1 G) : wpX3_hasVault post 0 (nI v) G := by
  have := B.1
  unfold wpX3_hasVault
  refine ifF (nI_pos (by omega)) ?_
  rw [cf_n C]
  refine ifF (nI_ge hv (by omega)) ?_
  exact ifF (nI_ge (b := 5) (by omega) (by decide)) h
theorem s_hasF (C : CR (lg G.1 0) n R A) {x : Int32} (hx : x < 0 ∨ nI n ≤ x) (h : post 0 G) : wpX3_hasVault post 0 x G := by
  unfold wpX3_hasVault
  rw [cf_n C]
  by_cases c : x < 0
  · exact ifT c h
  · exact ifF c (ifT (hx.resolve_left c) h)
theorem s_inT {m lo hi : Nat} (h1 : lo ≤ m) (h2 : m ≤ hi) (hh : hi < 2 ^ 31) (h : post 1 G) : wpX3_within post (nI m) (nI lo) (nI hi) G :=
  ifF (nI_nlt h1 (by omega)) (ifF (nI_nlt h2 hh) h)
theorem s_inF {x : Int32} {lo hi : Nat} (hx : x < nI lo ∨ nI hi < x) (h : post 0 G) : wpX3_within post x (nI lo) (nI hi) G := by
  unfold wpX3_within
  by_cases c : x < nI lo
  · exact ifT c h
  · exact ifF c (ifT (hx.resolve_left c) h)
end LEAF
