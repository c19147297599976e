/-! the changes: when they are refused, the rest -/
theorem kn_val {x : Int32} {k : Nat} (hk : k < 3) (h : kn x = nI k) : (k = 0 ∧ x = 103) ∨ (k = 1 ∧ x = 109) ∨ (k = 2 ∧ x = 104) := by
  unfold kn at h
  by_cases c0 : x = 103
  · rw [if_pos c0] at h
    have : 0 = k := (nI_eq (a := 0) (by decide) (by omega)).mp h
    exact Or.inl ⟨this.symm, c0⟩
  rw [if_neg c0] at h
  by_cases c1 : x = 109
  · rw [if_pos c1] at h
    have : 1 = k := (nI_eq (a := 1) (by decide) (by omega)).mp h
    exact Or.inr (Or.inl ⟨this.symm, c1⟩)
  rw [if_neg c1] at h
  by_cases c2 : x = 104
  · rw [if_pos c2] at h
    have : 2 = k := (nI_eq (a := 2) (by decide) (by omega)).mp h
    exact Or.inr (Or.inr ⟨this.symm, c2⟩)
  rw [if_neg c2] at h
  obtain rfl | rfl | rfl : k = 0 ∨ k = 1 ∨ k = 2 := by omega
  all_goals exact absurd h (by decide)
theorem kn_inj {x y : Int32} {k : Nat} (hk : k < 3) (h1 : kn x = nI k) (h2 : kn y = nI k) : x = y := by
  rcases kn_val hk h1 with ⟨a, b⟩ | ⟨a, b⟩ | ⟨a, b⟩ <;> rcases kn_val hk h2 with ⟨c, d⟩ | ⟨c, d⟩ | ⟨c, d⟩ <;> first | (exfalso; omega) | rw [b, d]
theorem swap141 {G : GS} {pn : Nat → GS → Prop} {q : Nat} {a b c d : Int32} (h : pn 4 G) : wbX3_refusalToSwap_141 pn q a b c d G := by
  unfold wbX3_refusalToSwap_141 wbX3_refusalToSwap_142
  exact ifT rfl h
theorem rate23 {G : GS} {pn : Nat → GS → Prop} {q : Nat} {a b : Int32} (h : pn 2 G) : wbX3_refusalToRate_23 pn q a b G := by
  unfold wbX3_refusalToRate_23 wbX3_refusalToRate_24
  exact ifT rfl h
section NOTS
variable {n : Nat} {R : Nat → Nat} {A : Nat → Nat → Nat}
theorem legs_num (B : NB n R A) {v k f : Nat} (hv : v < 5) (hk : k < 3) (f2 : f ≤ 30) : f * R k + A v 3 ≤ 1549 := by
  have := Nat.mul_le_mul f2 (B.2.1 k hk).2
  have := B.2.2.1 v 3 hv (by decide)
  simp only [ub] at this
  simp at this
  omega
theorem n_swap (B : NB n R A) (a1 a2 a3 a4 : Int32) : Nots n R A (fun pn G => wpX3_refusalToSwap pn 0 a1 a2 a3 a4 G) (fun post G => wpX9_notExchange post a1 a2 a3 a4 G) cdA [0, 1, 2, 3, 4] (∃ v k t f, v < n ∧ k < 3 ∧ t < 3 ∧ k ≠ t ∧ a1 = nI v ∧ kn a2 = nI k ∧ kn a3 = nI t ∧ 1 ≤ f ∧ f ≤ 30 ∧ a4 = nI f ∧ f ≤ A v k ∧ A v t + (f * R k + A v 3) / R t ≤ 99) := by
  have h5 := B.1
  have bad : a1 < 0 ∨ nI n ≤ a1 → Nots n R A (fun pn G => wpX3_refusalToSwap pn 0 a1 a2 a3 a4 G) (fun post G => wpX9_notExchange post a1 a2 a3 a4 G) cdA [0, 1, 2, 3, 4] (∃ v k t f, v < n ∧ k < 3 ∧ t < 3 ∧ k ≠ t ∧ a1 = nI v ∧ kn a2 = nI k ∧ kn a3 = nI t ∧ 1 ≤ f ∧ f ≤ 30 ∧ a4 = nI f ∧ f ≤ A v k ∧ A v t + (f * R k + A v 3) / R t ≤ 99) := fun h =>
    ⟨1, by decide, fun G pn C k => s_hasF C h (ifT rfl k), fun G post M k => m_isF M.1 h5 h (ifT rfl k), fun e => absurd e (by decide)⟩
  rcases pk_ix a1 (n := n) (by omega) with h | h | ⟨v, hv, rfl⟩
  · exact bad (Or.inl h)
  · exact bad (Or.inr h)
  clear bad
  have hv5 : v < 5 := by omega
  rcases kn_cases a2 with ⟨k, hk, ek⟩ | ek
  rotate_left
  · refine ⟨2, by decide, fun G pn C q => ?_, fun G post M q => ?_, fun e => absurd e (by decide)⟩
    · refine s_hasT C B hv (ifF (by decide) (s_kind (s_kind ?_)))
      rw [ek]
      exact ifT (by decide) q
    · refine m_isT M.1 h5 hv (ifF (by decide) (m_kind ?_))
      rw [ek]
      exact ifT (by decide) q
  rcases kn_cases a3 with ⟨t, ht, et⟩ | et
  rotate_left
  · refine ⟨2, by decide, fun G pn C q => ?_, fun G post M q => ?_, fun e => absurd e (by decide)⟩
    · refine s_hasT C B hv (ifF (by decide) (s_kind (s_kind ?_)))
      rw [ek, et]
      exact ifF (nI_pos (by omega)) (ifT (by decide) q)
    · refine m_isT M.1 h5 hv (ifF (by decide) (m_kind ?_))
      rw [ek]
      refine ifF (nI_pos (by omega)) (m_kind ?_)
      rw [et]
      exact ifT (by decide) q
  by_cases ekt : k = t
  · subst ekt
    have eq := kn_inj hk ek et
    subst eq
    refine ⟨2, by decide, fun G pn C q => ?_, fun G post M q => ?_, fun e => absurd e (by decide)⟩
    · refine s_hasT C B hv (ifF (by decide) (s_kind (s_kind ?_)))
      rw [ek]
      exact ifF (nI_pos (by omega)) (ifF (nI_pos (by omega)) (ifT rfl q))
    · refine m_isT M.1 h5 hv (ifF (by decide) (m_kind ?_))
      rw [ek]
      refine ifF (nI_pos (by omega)) (m_kind ?_)
      rw [ek]
      exact ifF (nI_pos (by omega)) (ifT rfl q)
  have ne : ¬ a2 = a3 := fun e => by
    subst e
    rw [ek] at et
    exact ekt ((nI_eq (by omega) (by omega)).mp et)
  have nk : ¬ nI k = nI t := fun e => ekt ((nI_eq (by omega) (by omega)).mp e)
  rcases arg_cases a4 1 30 (by decide) with ⟨f, f1, f2, rfl⟩ | h
  rotate_left
  · refine ⟨2, by decide, fun G pn C q => ?_, fun G post M q => ?_, fun e => absurd e (by decide)⟩
    · refine s_hasT C B hv (ifF (by decide) (s_kind (s_kind ?_)))
      rw [ek, et]
      exact ifF (nI_pos (by omega)) (ifF (nI_pos (by omega)) (ifF nk (s_inF (lo := 1) (hi := 30) h (ifT rfl q))))
    · refine m_isT M.1 h5 hv (ifF (by decide) (m_kind ?_))
      rw [ek]
      refine ifF (nI_pos (by omega)) (m_kind ?_)
      rw [et]
      exact ifF (nI_pos (by omega)) (ifF ne (m_inF h (ifT rfl q)))
  have h7 := A_le B (v := v) (j := 7) hv5 (by decide)
  have hk' := A_le B (v := v) (j := k) hv5 (by omega)
  have ht' := A_le B (v := v) (j := t) hv5 (by omega)
  have hl := legs_num B hv5 hk f2
  have hRt := B.2.1 t ht
  have hdv := Nat.div_le_self (f * R k + A v 3) (R t)
  have cU : ∀ (G : GS) (pn : Nat → GS → Prop), CR (lg G.1 0) n R A → (¬ A v 7 = 0 → pn 3 G) → (A v 7 = 0 → A v k < f → pn 4 G) → (A v 7 = 0 → f ≤ A v k → 99 < A v t + (f * R k + A v 3) / R t → pn 4 G) → (A v 7 = 0 → f ≤ A v k → A v t + (f * R k + A v 3) / R t ≤ 99 → pn 0 G) → wpX3_refusalToSwap pn 0 (nI v) a2 a3 (nI f) G := by
    intro G pn C h3 h4 h4' h0
    refine s_hasT C B hv (ifF (by decide) (s_kind (s_kind ?_)))
    rw [ek, et]
    refine ifF (nI_pos (by omega)) (ifF (nI_pos (by omega)) (ifF nk (s_inT (lo := 1) (hi := 30) f1 f2 (by decide) (ifF (by decide) ⟨vp_in_nI (by omega) (by decide), ?_⟩))))
    rw [nI_clamp (show v < 2 ^ 31 by omega), nI_clamp (show k < 2 ^ 31 by omega), nI_clamp (show t < 2 ^ 31 by omega)]
    refine s_frozen C B hv5 ?_
    by_cases c : A v 7 = 0
    rotate_left
    · rw [if_neg c]; exact ifF (by decide) (h3 c)
    rw [if_pos c]
    refine ifT rfl ⟨vp_in_nI (by rw [ln3 (by decide)]; exact hk) (by rw [ln3 (by decide)]; decide), vp_in_nI (by rw [ln3 (by decide)]; exact ht) (by rw [ln3 (by decide)]; decide), ?_⟩
    rw [cf_r C k hk, cf_r C t ht, cf_1 C hv5, pk_mul, nI_add]
    refine s_quot (by omega) hRt.1 (by omega) ⟨vp_in_nI (by rw [ln3 (by omega)]; exact hk) (by rw [ln3 (by omega)]; decide), ?_⟩
    rw [cf_h C hv5 k hk, cf_h C hv5 t ht, nI_add]
    by_cases d : A v k < f
    · exact ifT (nI_lt d (by omega)) (swap141 (h4 c d))
    refine ifF (nI_nlt (by omega) (by omega)) ⟨vp_in_nI (by rw [ln3 (by omega)]; exact ht) (by rw [ln3 (by omega)]; decide), ?_⟩
    by_cases g : 99 < A v t + (f * R k + A v 3) / R t
    · exact ifT (nI_lt (a := 99) g (by omega)) (swap141 (h4' c (by omega) g))
    · exact ifF (nI_nlt (a := 99) (by omega) (by decide)) (ifF (by decide) (h0 c (by omega) (by omega)))
  have mU : ∀ (G : GS) (post : Int32 → GS → Prop), MR (G.1 190) n R A → (¬ A v 7 = 0 → post 3 G) → (A v 7 = 0 → A v k < f → post 4 G) → (A v 7 = 0 → f ≤ A v k → 99 < A v t + (f * R k + A v 3) / R t → post 4 G) → (A v 7 = 0 → f ≤ A v k → A v t + (f * R k + A v 3) / R t ≤ 99 → post 0 G) → wpX9_notExchange post (nI v) a2 a3 (nI f) G := by
    intro G post M h3 h4 h4' h0
    refine m_isT M.1 h5 hv (ifF (by decide) (m_kind ?_))
    rw [ek]
    refine ifF (nI_pos (by omega)) (m_kind ?_)
    rw [et]
    refine ifF (nI_pos (by omega)) (ifF ne (m_inT (lo := 1) (hi := 30) f1 f2 (by decide) (ifF (by decide) ?_)))
    refine m_ofN (j := 7) M B hv (by decide) ?_
    by_cases c : A v 7 = 0
    rotate_left
    · exact ifF (nI_nle (by omega) (by omega)) (h3 c)
    rw [c]
    refine ifT (by decide) (m_kind ?_)
    rw [ek]
    unfold wpX9_legsOf
    rw [show (2 : Int32) = nI 2 from rfl, nI_add]
    refine ⟨in56 (by omega), ?_⟩
    refine m_ofN (j := 3) M B hv (by decide) (m_kind ?_)
    rw [et, nI_add, nI_clamp (by omega), nI_clamp (by omega), M.2.1 k hk, M.2.1 t ht, pk_mul, nI_add]
    refine ⟨in56 (by omega), nI_ne0 hRt.1 (by omega), ?_⟩
    rintro z rfl
    rw [pk_div (by omega) hRt.1 (by omega)]
    refine m_kind ?_
    rw [ek]
    refine m_ofN M B hv (by omega) ?_
    by_cases d : A v k < f
    · exact ifT (nI_lt d (by omega)) (h4 c d)
    refine ifF (nI_nlt (by omega) (by omega)) (m_kind ?_)
    rw [et]
    refine m_ofN M B hv (by omega) ?_
    rw [nI_add]
    by_cases g : 99 < A v t + (f * R k + A v 3) / R t
    · exact ifF (nI_ge (a := 99) g (by omega)) (h4' c (by omega) g)
    · exact ifT (nI_le (b := 99) (by omega) (by decide)) (h0 c (by omega) (by omega))
  by_cases c : A v 7 = 0
  rotate_left
  · exact ⟨3, by decide, fun G pn C q => cU G pn C (fun _ => q) (fun g => absurd g c) (fun g => absurd g c) (fun g => absurd g c), fun G post M q => mU G post M (fun _ => q) (fun g => absurd g c) (fun g => absurd g c) (fun g => absurd g c), fun e => absurd e (by decide)⟩
  by_cases d : A v k < f
  · exact ⟨4, by decide, fun G pn C q => cU G pn C (fun g => absurd c g) (fun _ _ => q) (fun _ g => absurd d (by omega)) (fun _ g => absurd d (by omega)), fun G post M q => mU G post M (fun g => absurd c g) (fun _ _ => q) (fun _ g => absurd d (by omega)) (fun _ g => absurd d (by omega)), fun e => absurd e (by decide)⟩
  by_cases g : 99 < A v t + (f * R k + A v 3) / R t
  · exact ⟨4, by decide, fun G pn C q => cU G pn C (fun g => absurd c g) (fun _ g => absurd g d) (fun _ _ _ => q) (fun _ _ e => absurd g (by omega)), fun G post M q => mU G post M (fun g => absurd c g) (fun _ g => absurd g d) (fun _ _ _ => q) (fun _ _ e => absurd g (by omega)), fun e => absurd e (by decide)⟩
  · exact ⟨0, by decide, fun G pn C q => cU G pn C (fun g => absurd c g) (fun _ g => absurd g d) (fun _ _ e => absurd e g) (fun _ _ _ => q), fun G post M q => mU G post M (fun g => absurd c g) (fun _ g => absurd g d) (fun _ _ e => absurd e g) (fun _ _ _ => q), fun _ => ⟨v, k, t, f, hv, hk, ht, ekt, rfl, ek, et, f1, f2, rfl, by omega, by omega⟩⟩
theorem n_mint (B : NB n R A) (a1 a2 : Int32) : Nots n R A (fun pn G => wpX3_refusalToIssue pn 0 a1 a2 G) (fun post G => wpX9_notMint post a1 a2 G) cdA [0, 1, 2, 3, 4] (∃ v f, v < n ∧ a1 = nI v ∧ 1 ≤ f ∧ f ≤ 99 ∧ a2 = nI f ∧ A v 4 + f ≤ 14949) := by
  have h5 := B.1
  have bad : a1 < 0 ∨ nI n ≤ a1 → Nots n R A (fun pn G => wpX3_refusalToIssue pn 0 a1 a2 G) (fun post G => wpX9_notMint post a1 a2 G) cdA [0, 1, 2, 3, 4] (∃ v f, v < n ∧ a1 = nI v ∧ 1 ≤ f ∧ f ≤ 99 ∧ a2 = nI f ∧ A v 4 + f ≤ 14949) := fun h =>
    ⟨1, by decide, fun G pn C k => s_hasF C h (ifT rfl k), fun G post M k => m_isF M.1 h5 h (ifT rfl k), fun e => absurd e (by decide)⟩
  rcases pk_ix a1 (n := n) (by omega) with h | h | ⟨v, hv, rfl⟩
  · exact bad (Or.inl h)
  · exact bad (Or.inr h)
  clear bad
  have hv5 : v < 5 := by omega
  rcases arg_cases a2 1 99 (by decide) with ⟨f, f1, f2, rfl⟩ | h
  rotate_left
  · exact ⟨2, by decide, fun G pn C q => s_hasT C B hv (ifF (by decide) (s_inF (lo := 1) (hi := 99) h (ifT rfl q))), fun G post M q => m_isT M.1 h5 hv (ifF (by decide) (m_inF h (ifT rfl q))), fun e => absurd e (by decide)⟩
  have h7 := A_le B (v := v) (j := 7) hv5 (by decide)
  have h4 := A_le B (v := v) (j := 4) hv5 (by decide)
  have hV := vl_le B hv5
  have K := bk_le R (A v)
  have cU : ∀ (G : GS) (pn : Nat → GS → Prop), CR (lg G.1 0) n R A → (¬ A v 7 = 0 → pn 3 G) → (A v 7 = 0 → ¬ f + A v 4 ≤ bk R (A v) → pn 4 G) → (A v 7 = 0 → f + A v 4 ≤ bk R (A v) → pn 0 G) → wpX3_refusalToIssue pn 0 (nI v) (nI f) G := by
    intro G pn C g3 g4 g0
    refine s_hasT C B hv (ifF (by decide) (s_inT (lo := 1) (hi := 99) f1 f2 (by decide) (ifF (by decide) ⟨vp_in_nI (by omega) (by decide), ?_⟩)))
    rw [nI_clamp (show v < 2 ^ 31 by omega)]
    refine s_frozen C B hv5 ?_
    by_cases c : A v 7 = 0
    rotate_left
    · rw [if_neg c]; exact ifF (by decide) (g3 c)
    rw [if_pos c]
    refine ifT rfl ⟨vp_in_nI (by omega) (by decide), ?_⟩
    refine s_free C B hv5 ?_
    by_cases d : f + A v 4 ≤ bk R (A v)
    · exact ifT (nI_le (by omega) (by omega)) (g0 c d)
    · exact ifF (nI_ge (by omega) (by omega)) (g4 c d)
  have mU : ∀ (G : GS) (post : Int32 → GS → Prop), MR (G.1 190) n R A → (¬ A v 7 = 0 → post 3 G) → (A v 7 = 0 → ¬ f + A v 4 ≤ bk R (A v) → post 4 G) → (A v 7 = 0 → f + A v 4 ≤ bk R (A v) → post 0 G) → wpX9_notMint post (nI v) (nI f) G := by
    intro G post M g3 g4 g0
    refine m_isT M.1 h5 hv (ifF (by decide) (m_inT (lo := 1) (hi := 99) f1 f2 (by decide) (ifF (by decide) ?_)))
    refine m_ofN (j := 7) M B hv (by decide) ?_
    by_cases c : A v 7 = 0
    rotate_left
    · exact ifF (nI_nle (by omega) (by omega)) (g3 c)
    rw [c]
    refine ifT (by decide) (m_spare M B hv ?_)
    by_cases d : f + A v 4 ≤ bk R (A v)
    · exact ifT ((sp_x (by omega) (by omega) (by omega)).mpr d) (g0 c d)
    · exact ifF (fun e => d ((sp_x (by omega) (by omega) (by omega)).mp e)) (g4 c d)
  by_cases c : A v 7 = 0
  rotate_left
  · exact ⟨3, by decide, fun G pn C q => cU G pn C (fun _ => q) (fun g => absurd g c) (fun g => absurd g c), fun G post M q => mU G post M (fun _ => q) (fun g => absurd g c) (fun g => absurd g c), fun e => absurd e (by decide)⟩
  by_cases d : f + A v 4 ≤ bk R (A v)
  · exact ⟨0, by decide, fun G pn C q => cU G pn C (fun g => absurd c g) (fun _ g => absurd d g) (fun _ _ => q), fun G post M q => mU G post M (fun g => absurd c g) (fun _ g => absurd d g) (fun _ _ => q), fun _ => ⟨v, f, hv, rfl, f1, f2, rfl, by omega⟩⟩
  · exact ⟨4, by decide, fun G pn C q => cU G pn C (fun g => absurd c g) (fun _ _ => q) (fun _ g => absurd g d), fun G post M q => mU G post M (fun g => absurd c g) (fun _ _ => q) (fun _ g => absurd g d), fun e => absurd e (by decide)⟩
theorem n_melt (B : NB n R A) (a1 a2 : Int32) : Nots n R A (fun pn G => wpX3_refusalToMelt pn 0 a1 a2 G) (fun post G => wpX9_notRedeem post a1 a2 G) cdR [0, 1, 2, 4] (∃ v f, v < n ∧ a1 = nI v ∧ 1 ≤ f ∧ f ≤ 99 ∧ a2 = nI f ∧ f ≤ A v 4) := by
  have h5 := B.1
  have bad : a1 < 0 ∨ nI n ≤ a1 → Nots n R A (fun pn G => wpX3_refusalToMelt pn 0 a1 a2 G) (fun post G => wpX9_notRedeem post a1 a2 G) cdR [0, 1, 2, 4] (∃ v f, v < n ∧ a1 = nI v ∧ 1 ≤ f ∧ f ≤ 99 ∧ a2 = nI f ∧ f ≤ A v 4) := fun h =>
    ⟨1, by decide, fun G pn C k => s_hasF C h (ifT rfl k), fun G post M k => m_isF M.1 h5 h (ifT rfl k), fun e => absurd e (by decide)⟩
  rcases pk_ix a1 (n := n) (by omega) with h | h | ⟨v, hv, rfl⟩
  · exact bad (Or.inl h)
  · exact bad (Or.inr h)
  clear bad
  have hv5 : v < 5 := by omega
  rcases arg_cases a2 1 99 (by decide) with ⟨f, f1, f2, rfl⟩ | h
  rotate_left
  · exact ⟨2, by decide, fun G pn C q => s_hasT C B hv (ifF (by decide) (s_inF (lo := 1) (hi := 99) h (ifT rfl q))), fun G post M q => m_isT M.1 h5 hv (ifF (by decide) (m_inF h (ifT rfl q))), fun e => absurd e (by decide)⟩
  have h4 := A_le B (v := v) (j := 4) hv5 (by decide)
  have cU : ∀ (G : GS) (pn : Nat → GS → Prop), CR (lg G.1 0) n R A → (¬ f ≤ A v 4 → pn 4 G) → (f ≤ A v 4 → pn 0 G) → wpX3_refusalToMelt pn 0 (nI v) (nI f) G := by
    intro G pn C g4 g0
    refine s_hasT C B hv (ifF (by decide) (s_inT (lo := 1) (hi := 99) f1 f2 (by decide) (ifF (by decide) ⟨vp_in_nI (by omega) (by decide), ?_⟩)))
    rw [nI_clamp (show v < 2 ^ 31 by omega), cf_2 C hv5]
    by_cases d : f ≤ A v 4
    · exact ifT (nI_le d (by omega)) (g0 d)
    · exact ifF (nI_ge (by omega) (by omega)) (g4 d)
  have mU : ∀ (G : GS) (post : Int32 → GS → Prop), MR (G.1 190) n R A → (¬ f ≤ A v 4 → post 3 G) → (f ≤ A v 4 → post 0 G) → wpX9_notRedeem post (nI v) (nI f) G := by
    intro G post M g4 g0
    refine m_isT M.1 h5 hv (ifF (by decide) (m_inT (lo := 1) (hi := 99) f1 f2 (by decide) (ifF (by decide) ?_)))
    refine m_ofN (j := 4) M B hv (by decide) ?_
    by_cases d : f ≤ A v 4
    · exact ifT (nI_le d (by omega)) (g0 d)
    · exact ifF (nI_ge (by omega) (by omega)) (g4 d)
  by_cases d : f ≤ A v 4
  · exact ⟨0, by decide, fun G pn C q => cU G pn C (fun g => absurd d g) (fun _ => q), fun G post M q => mU G post M (fun g => absurd d g) (fun _ => q), fun _ => ⟨v, f, hv, rfl, f1, f2, rfl, d⟩⟩
  · exact ⟨4, by decide, fun G pn C q => cU G pn C (fun _ => q) (fun g => absurd g d), fun G post M q => mU G post M (fun _ => q) (fun g => absurd g d), fun e => absurd e (by decide)⟩
theorem n_inspect (B : NB n R A) (a1 : Int32) : Nots n R A (fun pn G => wpX3_refusalToInspect pn 0 a1 G) (fun post G => wpX9_notAudit post a1 G) cdI [0, 1, 3] (∃ v, v < n ∧ a1 = nI v) := by
  have h5 := B.1
  have bad : a1 < 0 ∨ nI n ≤ a1 → Nots n R A (fun pn G => wpX3_refusalToInspect pn 0 a1 G) (fun post G => wpX9_notAudit post a1 G) cdI [0, 1, 3] (∃ v, v < n ∧ a1 = nI v) := fun h =>
    ⟨1, by decide, fun G pn C k => s_hasF C h (ifT rfl k), fun G post M k => m_isF M.1 h5 h (ifT rfl k), fun e => absurd e (by decide)⟩
  rcases pk_ix a1 (n := n) (by omega) with h | h | ⟨v, hv, rfl⟩
  · exact bad (Or.inl h)
  · exact bad (Or.inr h)
  clear bad
  have hv5 : v < 5 := by omega
  have h7 := A_le B (v := v) (j := 7) hv5 (by decide)
  by_cases c : A v 7 = 0
  · refine ⟨0, by decide, fun G pn C q => ?_, fun G post M q => ?_, fun _ => ⟨v, hv, rfl⟩⟩
    · refine s_hasT C B hv (ifF (by decide) ⟨vp_in_nI (by omega) (by decide), ?_⟩)
      rw [nI_clamp (show v < 2 ^ 31 by omega)]
      refine s_frozen C B hv5 ?_
      rw [if_pos c]
      exact ifT rfl q
    · refine m_isT M.1 h5 hv (ifF (by decide) (m_ofN (j := 7) M B hv (by decide) ?_))
      rw [c]
      exact ifT (by decide) q
  · refine ⟨3, by decide, fun G pn C q => ?_, fun G post M q => ?_, fun e => absurd e (by decide)⟩
    · refine s_hasT C B hv (ifF (by decide) ⟨vp_in_nI (by omega) (by decide), ?_⟩)
      rw [nI_clamp (show v < 2 ^ 31 by omega)]
      refine s_frozen C B hv5 ?_
      rw [if_neg c]
      exact ifF (by decide) q
    · exact m_isT M.1 h5 hv (ifF (by decide) (m_ofN (j := 7) M B hv (by decide) (ifF (nI_nle (by omega) (by omega)) q)))
theorem n_rate (a1 a2 : Int32) : Nots n R A (fun pn G => wpX3_refusalToRate pn 0 a1 a2 G) (fun post G => wpX9_notRate post a1 a2 G) cdO [0, 2] (∃ k f, k < 3 ∧ kn a1 = nI k ∧ 1 ≤ f ∧ f ≤ 50 ∧ a2 = nI f) := by
  rcases kn_cases a1 with ⟨k, hk, ek⟩ | ek
  · rcases arg_cases a2 1 50 (by decide) with ⟨f, f1, f2, rfl⟩ | h
    · refine ⟨0, by decide, fun G pn C q => s_kind ?_, fun G post M q => m_kind ?_, fun _ => ⟨k, f, hk, ek, f1, f2, rfl⟩⟩
      · rw [ek]
        exact ifF (nI_pos (by omega)) (s_inT (lo := 1) (hi := 50) f1 f2 (by decide) (ifF (by decide) (ifF (by decide) q)))
      · rw [ek]
        exact ifF (nI_pos (by omega)) (m_inT (lo := 1) (hi := 50) f1 f2 (by decide) (ifF (by decide) q))
    · refine ⟨2, by decide, fun G pn C q => s_kind ?_, fun G post M q => m_kind ?_, fun e => absurd e (by decide)⟩
      · rw [ek]
        exact ifF (nI_pos (by omega)) (s_inF (lo := 1) (hi := 50) h (ifT rfl (rate23 q)))
      · rw [ek]
        exact ifF (nI_pos (by omega)) (m_inF h (ifT rfl q))
  · refine ⟨2, by decide, fun G pn C q => s_kind ?_, fun G post M q => m_kind ?_, fun e => absurd e (by decide)⟩
    · rw [ek]
      exact ifT (by decide) (rate23 q)
    · rw [ek]
      exact ifT (by decide) q
theorem n_stick (B : NB n R A) (a1 a2 : Int32) : Nots n R A (fun pn G => wpX3_refusalToStick pn 0 a1 a2 G) (fun post G => wpX9_notStick post a1 a2 G) cdA [0, 1, 2] (∃ v t, v < n ∧ a1 = nI v ∧ t ≤ 9 ∧ a2 = nI t) := by
  have h5 := B.1
  have bad : a1 < 0 ∨ nI n ≤ a1 → Nots n R A (fun pn G => wpX3_refusalToStick pn 0 a1 a2 G) (fun post G => wpX9_notStick post a1 a2 G) cdA [0, 1, 2] (∃ v t, v < n ∧ a1 = nI v ∧ t ≤ 9 ∧ a2 = nI t) := fun h =>
    ⟨1, by decide, fun G pn C k => s_hasF C h (ifT rfl k), fun G post M k => m_isF M.1 h5 h (ifT rfl k), fun e => absurd e (by decide)⟩
  rcases pk_ix a1 (n := n) (by omega) with h | h | ⟨v, hv, rfl⟩
  · exact bad (Or.inl h)
  · exact bad (Or.inr h)
  clear bad
  rcases arg_cases a2 0 9 (by decide) with ⟨t, t1, t2, rfl⟩ | h
  · exact ⟨0, by decide, fun G pn C q => s_hasT C B hv (ifF (by decide) (s_inT (lo := 0) (hi := 9) t1 t2 (by decide) (ifF (by decide) q))), fun G post M q => m_isT M.1 h5 hv (ifF (by decide) (m_inT (lo := 0) (hi := 9) t1 t2 (by decide) (ifF (by decide) q))), fun _ => ⟨v, t, hv, rfl, t2, rfl⟩⟩
  · exact ⟨2, by decide, fun G pn C q => s_hasT C B hv (ifF (by decide) (s_inF (lo := 0) (hi := 9) h (ifT rfl q))), fun G post M q => m_isT M.1 h5 hv (ifF (by decide) (m_inF h (ifT rfl q))), fun e => absurd e (by decide)⟩
theorem n_wait (a1 : Int32) : Nots n R A (fun pn G => wpX3_refusalToWait pn 0 a1 G) (fun post G => wpX9_notDays post a1 G) cdO [0, 2] (∃ d, 1 ≤ d ∧ d ≤ 30 ∧ a1 = nI d) := by
  rcases arg_cases a1 1 30 (by decide) with ⟨t, t1, t2, rfl⟩ | h
  · exact ⟨0, by decide, fun G pn C q => s_inT (lo := 1) (hi := 30) t1 t2 (by decide) (ifF (by decide) q), fun G post M q => m_inT (lo := 1) (hi := 30) t1 t2 (by decide) (ifF (by decide) q), fun _ => ⟨t, t1, t2, rfl⟩⟩
  · exact ⟨2, by decide, fun G pn C q => s_inF (lo := 1) (hi := 30) h (ifT rfl q), fun G post M q => m_inF h (ifT rfl q), fun e => absurd e (by decide)⟩
end NOTS
