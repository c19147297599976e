/-! the changes: what they do, on both sides alike -/
def Mrw (r' : Nat → Int32) (G G' : GS) : Prop := G'.1 190 = r' ∧ (∀ q, q ≠ 190 → G'.1 q = G.1 q) ∧ G'.2 = G.2
def Does (n : Nat) (R : Nat → Nat) (A : Nat → Nat → Nat) (ax am : (Int32 → GS → Prop) → GS → Prop) (vq : Int32 → Prop) : Prop :=
  ∃ (n' : Nat) (R' : Nat → Nat) (A' : Nat → Nat → Nat) (val : Int32) (fa fr : (Nat → Int32) → Nat → Int32),
    (∀ (G : GS) (post : Int32 → GS → Prop), CR (lg G.1 0) n R A → (∀ G', Lgd 0 (fa (lg G.1 0)) G G' → post val G') → ax post G) ∧
    (∀ (G : GS) (post : Int32 → GS → Prop), MR (G.1 190) n R A → (∀ G', Mrw (fr (G.1 190)) G G' → post val G') → am post G) ∧
    (∀ a r, CR a n R A → MR r n R A → TR a r → NB n' R' A' ∧ CR (fa a) n' R' A' ∧ MR (fr r) n' R' A' ∧ TR (fa a) (fr r)) ∧ vq val
theorem post_eq {post : Int32 → GS → Prop} {x y : Int32} {G : GS} (e : x = y) (h : post y G) : post x G := e ▸ h
theorem upd_comm (f : Nat → Int32) {i j : Nat} (x y : Int32) (h : i ≠ j) : upd (upd f i x) j y = upd (upd f j y) i x := by
  funext k
  by_cases c : k = i
  · subst c; rw [upd_ne _ _ h, upd_at, upd_at]
  · by_cases d : k = j
    · subst d; rw [upd_at, upd_ne _ _ c, upd_at]
    · rw [upd_ne _ _ d, upd_ne _ _ c, upd_ne _ _ c, upd_ne _ _ d]
theorem Mrw_1 (G : GS) (i : Nat) (x : Int32) : Mrw (upd (G.1 190) i x) G (gI G 190 i x) := ⟨gI_at _ _ _ _, fun q hq => gI_ne _ _ _ hq, rfl⟩
theorem Mrw_s {G G1 : GS} {r : Nat → Int32} (h : Mrw r G G1) (i : Nat) (x : Int32) : Mrw (upd r i x) G (gI G1 190 i x) := ⟨by rw [gI_at, h.1], fun q hq => by rw [gI_ne _ _ _ hq]; exact h.2.1 q hq, h.2.2⟩
theorem vin3 {k q : Nat} (hk : k < 3) (hq : q < 165) : vp_in (nI k) (ln q) := by rw [ln3 hq]; exact vp_in_nI hk (by decide)
section DOES
variable {n : Nat} {R : Nat → Nat} {A : Nat → Nat → Nat}
theorem ub_k {k : Nat} (hk : k < 3) : ub k = 99 := if_pos hk
theorem d_put (B : NB n R A) {a2 : Int32} {v k f : Nat} (hv : v < n) (hk : k < 3) (ek : kn a2 = nI k) (c : A v k + f ≤ 99) : Does n R A (fun post G => wpX3_put post 0 (nI v) a2 (nI f) G) (fun post G => wpX9_deposits post (nI v) a2 (nI f) G) (fun _ => True) := by
  have h5 := B.1
  have hv5 : v < 5 := by omega
  refine ⟨n, R, uA A v k (A v k + f), nI (A v k + f), fun a => upd (upd a (16 + 8 * v + k) (nI (A v k + f))) (5 + k) (a (5 + k) + nI f), fun a => upd (upd a (16 + 8 * v + k) (nI (A v k + f))) (5 + k) (a (5 + k) + nI f), ?_, ?_, ?_, trivial⟩
  · intro G post C h
    have e1 : G.1 (0 + 1 + 4 + v + 5) k + nI f = nI (A v k + f) := by rw [cf_h C hv5 k hk, nI_add]
    refine s_kind ?_
    rw [ek]
    refine ⟨vp_in_nI hv5 (by decide), ?_⟩
    rw [nI_clamp (show v < 2 ^ 31 by omega), nI_clamp (show k < 2 ^ 31 by omega)]
    refine ⟨vin3 hk (by omega), vin3 hk (by omega), ?_⟩
    rintro G6 rfl
    refine ⟨vin3 hk (by omega), vin3 hk (by omega), ?_⟩
    rintro G9 rfl
    refine ⟨vp_in_nI hv5 (by decide), vin3 hk (by omega), ?_⟩
    refine post_eq ?_ (h _ ⟨?_, ?_, rfl⟩)
    · simp (disch := omega) only [gI_ne, gI_at, upd_at]; exact e1
    · show lg _ 0 = upd (upd (lg G.1 0) (16 + 8 * v + k) _) (5 + k) (lg G.1 0 (5 + k) + nI f)
      rw [lg_ui _ 0 hk, lg_uh _ 0 hv5 hk, e1, gI_ne _ _ _ (by omega), lg_i _ 0 hk]
    · intro q hq; rw [gI_ne _ _ _ (by omega), gI_ne _ _ _ (by omega)]
  · intro G post M h
    have e1 : G.1 190 (16 + 8 * v + k) + nI f = nI (A v k + f) := by rw [M.2.2 v k hv (by omega), nI_add]
    refine m_kind ?_
    rw [ek]
    refine m_adds hv5 (by omega) (m_kind ?_)
    rw [ek, e1, show (5 : Int32) = nI 5 from rfl, nI_add]
    refine ⟨in56 (by omega), in56 (by omega), ?_⟩
    rintro G8 rfl
    refine m_kind ?_
    rw [ek]
    refine m_of hv5 (by omega) ?_
    rw [nI_clamp (by omega)]
    refine post_eq ?_ (h _ ?_)
    · rw [gI_at, upd_ne _ _ (by omega), gI_at, upd_at]
    · rw [gI_at, upd_ne _ _ (by omega)]
      exact Mrw_s (Mrw_1 _ _ _) _ _
  · intro a r C M T
    have t := T (5 + k) (by unfold tk; omega)
    exact ⟨NB_h B hv (by rw [ub_k hk]; exact c), CR_t (CR_h C hv5 (by omega) rfl) (by unfold tk; omega) _, MR_t (MR_h M (by omega) rfl) (by unfold tk; omega) _, TR_t (TR_m (TR_a T (ntk_h v k) _) (ntk_h v k) _) _ (by rw [t])⟩
theorem d_take (B : NB n R A) {a2 : Int32} {v k f : Nat} (hv : v < n) (hk : k < 3) (ek : kn a2 = nI k) (c : f ≤ A v k) : Does n R A (fun post G => wpX3_take post 0 (nI v) a2 (nI f) G) (fun post G => wpX9_withdraws post (nI v) a2 (nI f) G) (fun _ => True) := by
  have h5 := B.1
  have hv5 : v < 5 := by omega
  have hb := B.2.2.1 v k hv5 (by omega)
  refine ⟨n, R, uA A v k (A v k - f), nI (A v k - f), fun a => upd (upd a (16 + 8 * v + k) (nI (A v k - f))) (8 + k) (a (8 + k) + nI f), fun a => upd (upd a (16 + 8 * v + k) (nI (A v k - f))) (8 + k) (a (8 + k) + nI f), ?_, ?_, ?_, trivial⟩
  · intro G post C h
    have e1 : G.1 (0 + 1 + 4 + v + 5) k - nI f = nI (A v k - f) := by rw [cf_h C hv5 k hk, pk_sub c]
    refine s_kind ?_
    rw [ek]
    refine ⟨vp_in_nI hv5 (by decide), ?_⟩
    rw [nI_clamp (show v < 2 ^ 31 by omega), nI_clamp (show k < 2 ^ 31 by omega)]
    refine ⟨vin3 hk (by omega), vin3 hk (by omega), ?_⟩
    rintro G6 rfl
    refine ⟨vin3 hk (by omega), vin3 hk (by omega), ?_⟩
    rintro G9 rfl
    refine ⟨vp_in_nI hv5 (by decide), vin3 hk (by omega), ?_⟩
    refine post_eq ?_ (h _ ⟨?_, ?_, rfl⟩)
    · simp (disch := omega) only [gI_ne, gI_at, upd_at]; exact e1
    · show lg _ 0 = upd (upd (lg G.1 0) (16 + 8 * v + k) _) (8 + k) (lg G.1 0 (8 + k) + nI f)
      rw [lg_uo _ 0 hk, lg_uh _ 0 hv5 hk, e1, gI_ne _ _ _ (by omega), lg_o _ 0 hk]
    · intro q hq; rw [gI_ne _ _ _ (by omega), gI_ne _ _ _ (by omega)]
  · intro G post M h
    have e1 : G.1 190 (16 + 8 * v + k) + -nI f = nI (A v k - f) := by rw [M.2.2 v k hv (by omega), ngs c]
    refine m_kind ?_
    rw [ek]
    refine m_adds hv5 (by omega) (m_kind ?_)
    rw [ek, e1, show (8 : Int32) = nI 8 from rfl, nI_add]
    refine ⟨in56 (by omega), in56 (by omega), ?_⟩
    rintro G8 rfl
    refine m_kind ?_
    rw [ek]
    refine m_of hv5 (by omega) ?_
    rw [nI_clamp (by omega)]
    refine post_eq ?_ (h _ ?_)
    · rw [gI_at, upd_ne _ _ (by omega), gI_at, upd_at]
    · rw [gI_at, upd_ne _ _ (by omega)]
      exact Mrw_s (Mrw_1 _ _ _) _ _
  · intro a r C M T
    have t := T (8 + k) (by unfold tk; omega)
    exact ⟨NB_h B hv (by omega), CR_t (CR_h C hv5 (by omega) rfl) (by unfold tk; omega) _, MR_t (MR_h M (by omega) rfl) (by unfold tk; omega) _, TR_t (TR_m (TR_a T (ntk_h v k) _) (ntk_h v k) _) _ (by rw [t])⟩
theorem d_swap (B : NB n R A) {a2 a3 : Int32} {v k t f : Nat} (hv : v < n) (hk : k < 3) (ht : t < 3) (hkt : k ≠ t) (ek : kn a2 = nI k) (et : kn a3 = nI t) (f2 : f ≤ 30) (c : f ≤ A v k) (d : A v t + (f * R k + A v 3) / R t ≤ 99) : Does n R A (fun post G => wpX3_swap post 0 (nI v) a2 a3 (nI f) G) (fun post G => wpX9_exchanges post (nI v) a2 a3 (nI f) G) (fun _ => True) := by
  have h5 := B.1
  have hv5 : v < 5 := by omega
  have hb := B.2.2.1 v k hv5 (by omega)
  have hl := legs_num B hv5 hk f2
  have hRt := B.2.1 t ht
  have hm := Nat.mod_lt (f * R k + A v 3) (show 0 < R t by omega)
  generalize hL : f * R k + A v 3 = L at hl d hm
  refine ⟨n, R, uA (uA (uA A v k (A v k - f)) v t (A v t + L / R t)) v 3 (L % R t), nI (L / R t), fun a => upd (upd (upd (upd (upd a (16 + 8 * v + k) (nI (A v k - f))) (16 + 8 * v + t) (nI (A v t + L / R t))) (16 + 8 * v + 3) (nI (L % R t))) (8 + k) (a (8 + k) + nI f)) (5 + t) (a (5 + t) + nI (L / R t)), fun a => upd (upd (upd (upd (upd a (16 + 8 * v + k) (nI (A v k - f))) (16 + 8 * v + t) (nI (A v t + L / R t))) (16 + 8 * v + 3) (nI (L % R t))) (8 + k) (a (8 + k) + nI f)) (5 + t) (a (5 + t) + nI (L / R t)), ?_, ?_, ?_, trivial⟩
  · intro G post C h
    have e1 : G.1 (0 + 1 + 4 + v + 5) k - nI f = nI (A v k - f) := by rw [cf_h C hv5 k hk, pk_sub c]
    have e2 : G.1 (0 + 1 + 4 + v + 5) t + nI (L / R t) = nI (A v t + L / R t) := by rw [cf_h C hv5 t ht, nI_add]
    refine s_kind (s_kind ?_)
    rw [ek, et]
    refine ⟨vp_in_nI hv5 (by decide), vin3 hk (by omega), ?_⟩
    rw [nI_clamp (show v < 2 ^ 31 by omega), nI_clamp (show k < 2 ^ 31 by omega), nI_clamp (show t < 2 ^ 31 by omega)]
    rintro z rfl
    refine ⟨vin3 ht (by omega), ?_⟩
    rw [cf_r C k hk, cf_r C t ht, cf_1 C hv5, pk_mul, nI_add, hL]
    refine s_quot (by omega) hRt.1 (by omega) ⟨vin3 hk (by omega), vin3 hk (by omega), ?_⟩
    rintro G13 rfl
    refine ⟨vin3 ht (by omega), vin3 ht (by omega), ?_⟩
    rintro G16 rfl
    refine ⟨vin3 ht (by omega), ?_⟩
    rintro G18 rfl
    refine ⟨vin3 hk (by omega), vin3 hk (by omega), ?_⟩
    rintro G21 rfl
    refine ⟨vin3 ht (by omega), vin3 ht (by omega), ?_⟩
    rintro G24 rfl
    have e3 : nI L - nI (L / R t) * nI (R t) = nI (L % R t) := by rw [← pk_div (by omega) hRt.1 (by omega)]; exact pk_rem (by omega) hRt.1 (by omega)
    refine h _ ⟨?_, ?_, rfl⟩
    · simp (disch := omega) only [gI_ne, gI_at, upd_ne]
      rw [cf_r C t ht, e1, e2, e3]
      rw [lg_ui _ 0 ht, lg_uo _ 0 hk, lg_uv _ 0 hv5 (by decide) (by decide), lg_uh _ 0 hv5 ht, lg_uh _ 0 hv5 hk, lg_o _ 0 hk, lg_i _ 0 ht]
    · intro q hq
      simp (disch := omega) only [gI_ne]
  · intro G post M h
    have e1 : G.1 190 (16 + 8 * v + k) + -nI f = nI (A v k - f) := by rw [M.2.2 v k hv (by omega), ngs c]
    have e2 : G.1 190 (16 + 8 * v + t) + nI (L / R t) = nI (A v t + L / R t) := by rw [M.2.2 v t hv (by omega), nI_add]
    refine m_kind ?_
    rw [ek]
    unfold wpX9_legsOf
    rw [show (2 : Int32) = nI 2 from rfl, nI_add]
    refine ⟨in56 (by omega), ?_⟩
    refine m_ofN (j := 3) M B hv (by decide) (m_kind ?_)
    rw [et, nI_add, nI_clamp (by omega), nI_clamp (by omega), M.2.1 k hk, M.2.1 t ht, pk_mul, nI_add, hL]
    refine ⟨in56 (by omega), nI_ne0 hRt.1 (by omega), ?_⟩
    rintro z rfl
    refine m_kind ?_
    rw [et, nI_add, nI_clamp (by omega), M.2.1 t ht, pk_rem (by omega) hRt.1 (by omega), pk_div (by omega) hRt.1 (by omega)]
    refine ⟨in56 (by omega), nI_ne0 hRt.1 (by omega), ?_⟩
    refine m_puts (j := 3) hv5 (by decide) (m_kind ?_)
    rw [ek]
    refine m_adds hv5 (by omega) (m_kind ?_)
    rw [et]
    refine m_adds hv5 (by omega) (m_kind ?_)
    rw [ek, show (8 : Int32) = nI 8 from rfl, nI_add, nI_clamp (by omega)]
    refine ⟨in56 (by omega), in56 (by omega), ?_⟩
    rintro G25 rfl
    refine m_kind ?_
    rw [et, show (5 : Int32) = nI 5 from rfl, nI_add, nI_clamp (by omega)]
    refine ⟨in56 (by omega), in56 (by omega), ?_⟩
    rintro G30 rfl
    refine h _ ?_
    simp (disch := omega) only [gI_at, upd_ne]
    rw [e1, e2]
    rw [upd_comm (upd (G.1 190) _ _) (nI (A v t + L / R t)) (nI (L % R t)) (show 16 + 8 * v + t ≠ 16 + 8 * v + 3 by omega), upd_comm (G.1 190) (nI (A v k - f)) (nI (L % R t)) (show 16 + 8 * v + k ≠ 16 + 8 * v + 3 by omega)]
    exact Mrw_s (Mrw_s (Mrw_s (Mrw_s (Mrw_1 _ _ _) _ _) _ _) _ _) _ _
  · intro a r C M T
    have t1 := T (8 + k) (by unfold tk; omega)
    have t2 := T (5 + t) (by unfold tk; omega)
    refine ⟨NB_h (NB_h (NB_h B hv (by omega)) hv (by rw [ub_k ht]; exact d)) hv (by show _ ≤ 49; omega), CR_t (CR_t (CR_h (CR_h (CR_h C hv5 (by omega) rfl) hv5 (by omega) rfl) hv5 (by omega) rfl) (by unfold tk; omega) _) (by unfold tk; omega) _, MR_t (MR_t (MR_h (MR_h (MR_h M (by omega) rfl) (by omega) rfl) (by omega) rfl) (by unfold tk; omega) _) (by unfold tk; omega) _, ?_⟩
    exact TR_t (TR_t (TR_m (TR_m (TR_m (TR_a (TR_a (TR_a T (ntk_h v k) _) (ntk_h v t) _) (ntk_h v 3) _) (ntk_h v k) _) (ntk_h v t) _) (ntk_h v 3) _) _ (by rw [t1])) _ (by rw [t2])
theorem d_mint (B : NB n R A) {v f : Nat} (hv : v < n) (c : A v 4 + f ≤ 14949) : Does n R A (fun post G => wpX3_issue post 0 (nI v) (nI f) G) (fun post G => wpX9_mints post (nI v) (nI f) G) (fun _ => True) := by
  have h5 := B.1
  have hv5 : v < 5 := by omega
  refine ⟨n, R, uA A v 4 (A v 4 + f), nI (A v 4 + f), fun a => upd (upd a (16 + 8 * v + 4) (nI (A v 4 + f))) 11 (a 11 + nI f), fun a => upd (upd a (16 + 8 * v + 4) (nI (A v 4 + f))) 11 (a 11 + nI f), ?_, ?_, ?_, trivial⟩
  · intro G post C h
    have e1 : G.1 (0 + 1 + 4 + v) 2 + nI f = nI (A v 4 + f) := by rw [cf_2 C hv5, nI_add]
    refine ⟨vp_in_nI hv5 (by decide), ?_⟩
    rw [nI_clamp (show v < 2 ^ 31 by omega)]
    rintro G2 rfl G3 rfl
    refine ⟨vp_in_nI hv5 (by decide), ?_⟩
    refine post_eq ?_ (h _ ⟨?_, ?_, rfl⟩)
    · simp (disch := omega) only [gI_ne, gI_at, upd_at]; exact e1
    · rw [lg_ut _ 0 (j := 0) (by decide), lg_uv _ 0 hv5 (by decide) (by decide), e1, gI_ne _ _ _ (by omega)]; rfl
    · intro q hq; rw [gI_ne _ _ _ (by omega), gI_ne _ _ _ (by omega)]
  · intro G post M h
    have e1 : G.1 190 (16 + 8 * v + 4) + nI f = nI (A v 4 + f) := by rw [M.2.2 v 4 hv (by omega), nI_add]
    refine m_adds (j := 4) hv5 (by omega) ⟨in56 (i := 11) (by decide), in56 (i := 11) (by decide), ?_⟩
    rintro G4 rfl
    refine m_of (j := 4) hv5 (by omega) ?_
    show post ((gI (gI G 190 (16 + 8 * v + 4) _) 190 11 _).1 190 (16 + 8 * v + 4)) (gI (gI G 190 (16 + 8 * v + 4) _) 190 11 ((gI G 190 (16 + 8 * v + 4) _).1 190 11 + nI f))
    rw [e1]
    refine post_eq ?_ (h _ ?_)
    · rw [gI_at, upd_ne _ _ (by omega), gI_at, upd_at]
    · rw [gI_at, upd_ne _ _ (by omega)]
      exact Mrw_s (Mrw_1 _ _ _) _ _
  · intro a r C M T
    have t := T 11 (by unfold tk; omega)
    exact ⟨NB_h B hv c, CR_t (CR_h C hv5 (by omega) rfl) (by unfold tk; omega) _, MR_t (MR_h M (by omega) rfl) (by unfold tk; omega) _, TR_t (TR_m (TR_a T (ntk_h v 4) _) (ntk_h v 4) _) _ (by rw [t])⟩
theorem d_melt (B : NB n R A) {v f : Nat} (hv : v < n) (c : f ≤ A v 4) : Does n R A (fun post G => wpX3_melt post 0 (nI v) (nI f) G) (fun post G => wpX9_redeems post (nI v) (nI f) G) (fun _ => True) := by
  have h5 := B.1
  have hv5 : v < 5 := by omega
  have hb := B.2.2.1 v 4 hv5 (by omega)
  refine ⟨n, R, uA A v 4 (A v 4 - f), nI (A v 4 - f), fun a => upd (upd a (16 + 8 * v + 4) (nI (A v 4 - f))) 12 (a 12 + nI f), fun a => upd (upd a (16 + 8 * v + 4) (nI (A v 4 - f))) 12 (a 12 + nI f), ?_, ?_, ?_, trivial⟩
  · intro G post C h
    have e1 : G.1 (0 + 1 + 4 + v) 2 - nI f = nI (A v 4 - f) := by rw [cf_2 C hv5, pk_sub c]
    refine ⟨vp_in_nI hv5 (by decide), ?_⟩
    rw [nI_clamp (show v < 2 ^ 31 by omega)]
    rintro G2 rfl G3 rfl
    refine ⟨vp_in_nI hv5 (by decide), ?_⟩
    refine post_eq ?_ (h _ ⟨?_, ?_, rfl⟩)
    · simp (disch := omega) only [gI_ne, gI_at, upd_at]; exact e1
    · rw [lg_ut _ 0 (j := 1) (by decide), lg_uv _ 0 hv5 (by decide) (by decide), e1, gI_ne _ _ _ (by omega)]; rfl
    · intro q hq; rw [gI_ne _ _ _ (by omega), gI_ne _ _ _ (by omega)]
  · intro G post M h
    have e1 : G.1 190 (16 + 8 * v + 4) + -nI f = nI (A v 4 - f) := by rw [M.2.2 v 4 hv (by omega), ngs c]
    refine m_adds (j := 4) hv5 (by omega) ⟨in56 (i := 12) (by decide), in56 (i := 12) (by decide), ?_⟩
    rintro G4 rfl
    refine m_of (j := 4) hv5 (by omega) ?_
    show post ((gI (gI G 190 (16 + 8 * v + 4) _) 190 12 _).1 190 (16 + 8 * v + 4)) (gI (gI G 190 (16 + 8 * v + 4) _) 190 12 ((gI G 190 (16 + 8 * v + 4) _).1 190 12 + nI f))
    rw [e1]
    refine post_eq ?_ (h _ ?_)
    · rw [gI_at, upd_ne _ _ (by omega), gI_at, upd_at]
    · rw [gI_at, upd_ne _ _ (by omega)]
      exact Mrw_s (Mrw_1 _ _ _) _ _
  · intro a r C M T
    have t := T 12 (by unfold tk; omega)
    exact ⟨NB_h B hv (by omega), CR_t (CR_h C hv5 (by omega) rfl) (by unfold tk; omega) _, MR_t (MR_h M (by omega) rfl) (by unfold tk; omega) _, TR_t (TR_m (TR_a T (ntk_h v 4) _) (ntk_h v 4) _) _ (by rw [t])⟩
theorem d_rate (B : NB n R A) {a1 : Int32} {k f : Nat} (hk : k < 3) (ek : kn a1 = nI k) (f1 : 1 ≤ f) (f2 : f ≤ 50) : Does n R A (fun post G => wpX3_changeRate post 0 a1 (nI f) G) (fun post G => wpX9_setsRate post a1 (nI f) G) (fun _ => True) := by
  refine ⟨n, uR R k f, A, nI (R k), fun a => upd a (2 + k) (nI f), fun a => upd a (2 + k) (nI f), ?_, ?_, ?_, trivial⟩
  · intro G post C h
    refine s_kind ?_
    rw [ek]
    refine ⟨vin3 hk (by decide), ?_⟩
    rintro z rfl
    refine ⟨vin3 hk (by decide), ?_⟩
    rintro G6 rfl
    rw [nI_clamp (show k < 2 ^ 31 by omega), cf_r C k hk]
    exact h _ ⟨lg_ur G 0 hk _, fun q hq => gI_ne _ _ _ (by omega), rfl⟩
  · intro G post M h
    refine m_kind ?_
    rw [ek, show (2 : Int32) = nI 2 from rfl, nI_add, nI_clamp (by omega), M.2.1 k hk]
    refine ⟨in56 (by omega), ?_⟩
    rintro z rfl
    refine m_kind ?_
    rw [ek, nI_add, nI_clamp (by omega)]
    refine ⟨in56 (by omega), ?_⟩
    rintro G8 rfl
    exact h _ (Mrw_1 _ _ _)
  · intro a r C M T
    exact ⟨NB_r B f1 f2, CR_r C hk rfl, MR_r M hk rfl, TR_m (TR_a T (ntk_r hk) _) (ntk_r hk) _⟩
theorem d_stick (B : NB n R A) {v t : Nat} (hv : v < n) (ht : t ≤ 9) : Does n R A (fun post G => wpX3_changeStickiness post 0 (nI v) (nI t) G) (fun post G => wpX9_sticks post (nI v) (nI t) G) (fun _ => True) := by
  have h5 := B.1
  have hv5 : v < 5 := by omega
  refine ⟨n, R, uA A v 6 t, nI (A v 6), fun a => upd a (16 + 8 * v + 6) (nI t), fun a => upd a (16 + 8 * v + 6) (nI t), ?_, ?_, ?_, trivial⟩
  · intro G post C h
    refine ⟨vp_in_nI hv5 (by decide), ?_⟩
    rintro z rfl
    refine ⟨vp_in_nI hv5 (by decide), ?_⟩
    rintro G4 rfl
    rw [nI_clamp (show v < 2 ^ 31 by omega), cf_4 C hv5]
    exact h _ ⟨lg_uv G 0 hv5 (by decide) (by decide) _, fun q hq => gI_ne _ _ _ (by omega), rfl⟩
  · intro G post M h
    refine m_ofN (j := 6) M B hv (by decide) ?_
    exact m_puts (j := 6) hv5 (by decide) (h _ (Mrw_1 _ _ _))
  · intro a r C M T
    exact ⟨NB_h B hv (by show t ≤ 9; exact ht), CR_h C hv5 (by omega) rfl, MR_h M (by omega) rfl, TR_m (TR_a T (ntk_h v 6) _) (ntk_h v 6) _⟩
end DOES
