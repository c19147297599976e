/-! the kinds' ranks; what the class checks of itself -/
def ltr (k : Nat) : Nat := if k = 0 then 103 else if k = 1 then 109 else 104
theorem ltr_lt (k : Nat) : ltr k < 128 := by
  unfold ltr
  repeat' split
  all_goals decide
section CONS
variable {G : GS} {n : Nat} {R : Nat → Nat} {A : Nat → Nat → Nat} {post : Int32 → GS → Prop}
theorem s_letter {k : Nat} (hk : k < 3) (h : post (nI (ltr k)) G) : wpJ0_charAt_5068e post 0 (nI k) G := by
  refine s_charAt (len := 3) (b := ltr k) rfl ?_ hk (by decide) (ltr_lt k) h
  obtain rfl | rfl | rfl : k = 0 ∨ k = 1 ∨ k = 2 := by omega
  all_goals rfl
theorem m_letter {k : Nat} (hk : k < 3) (h : post (nI (ltr k)) G) : wpX9_letterOf post (nI k) G := by
  obtain rfl | rfl | rfl : k = 0 ∨ k = 1 ∨ k = 2 := by omega
  · exact ifT rfl h
  · exact ifF (by decide) (ifT rfl h)
  · exact ifF (by decide) (ifF (by decide) h)
def kv (R : Nat → Nat) (A : Nat → Nat → Nat) (n k : Nat) : Nat := sf A k n * R k
def kk (R : Nat → Nat) (A : Nat → Nat → Nat) (n a b : Nat) : Nat := if kv R A n b < kv R A n a then 1 else if kv R A n a = kv R A n b then (if b ≤ a then 0 else 1) else 0
theorem kk_le (R : Nat → Nat) (A : Nat → Nat → Nat) (n a b : Nat) : kk R A n a b = 0 ∨ kk R A n a b = 1 := by
  unfold kk
  repeat' split
  all_goals first | exact Or.inl rfl | exact Or.inr rfl
theorem kv_le (B : NB n R A) {k : Nat} (hk : k < 3) : kv R A n k ≤ 3737250 := by
  have := Nat.mul_le_mul (sf_le B (k := k) (by omega) n B.1) (B.2.1 k hk).2
  have h5 := B.1
  have h6 : 14949 * n * 50 ≤ 3737250 := by omega
  exact Nat.le_trans this h6
theorem s_krb (C : CR (lg G.1 0) n R A) (B : NB n R A) {a b : Nat} (ha : a < 3) (hb : b < 3) (h : post (nI (kk R A n a b)) G) : wpX3_kindRanksBefore post 0 (nI a) (nI b) G := by
  have Ka := kv_le B ha
  have Kb := kv_le B hb
  unfold wpX3_kindRanksBefore
  refine s_vok C B ha (s_vok C B hb ?_)
  show if nI (kv R A n b) < nI (kv R A n a) then _ else if nI (kv R A n a) = nI (kv R A n b) then _ else _
  unfold kk at h
  by_cases c1 : kv R A n b < kv R A n a
  · rw [if_pos c1] at h
    exact ifT (nI_lt c1 (by omega)) h
  · rw [if_neg c1] at h
    refine ifF (nI_nlt (by omega) (by omega)) ?_
    by_cases c2 : kv R A n a = kv R A n b
    · rw [if_pos c2] at h
      refine ifT (by rw [c2]) ?_
      by_cases c3 : b ≤ a
      · rw [if_pos c3] at h; exact ifT (nI_le c3 (by omega)) h
      · rw [if_neg c3] at h; exact ifF (nI_ge (by omega) (by omega)) h
    · rw [if_neg c2] at h
      exact ifF (fun g => c2 ((nI_eq (by omega) (by omega)).mp g)) h
theorem lp_k1 (C : CR (lg G.1 0) n R A) (B : NB n R A) {a1 : Int32} {K : GS → Int32 → Prop} {v : Nat} (hv : v < 3) (h1 : nI (cnt (kk R A n) v 3) = a1 → post (nI v) G) (h2 : nI (cnt (kk R A n) v 3) ≠ a1 → K G (nI (v + 1))) : ∀ m i, i + m = 3 → wlX3_kindAtRank_12 post 0 a1 K (m + 1) G (nI v) (nI (cnt (kk R A n) v i)) (nI i) := by
  intro m
  induction m with
  | zero =>
    intro i hi
    have e : i = 3 := by omega
    subst e
    rw [wlX3_kindAtRank_12]
    refine ifT (nI_le (a := 3) (b := 3) (by decide) (by decide)) ?_
    by_cases c : nI (cnt (kk R A n) v 3) = a1
    · exact ifT c (h1 c)
    · refine ifF c ?_
      rintro z rfl
      rw [nI_1]
      exact h2 c
  | succ m ih =>
    intro i hi
    rw [wlX3_kindAtRank_12]
    refine ifF (nI_ge (b := 3) (by omega) (by decide)) (s_krb C B (by omega) hv ?_)
    have e : cnt (kk R A n) v (i + 1) = cnt (kk R A n) v i + kk R A n i v := rfl
    have := ih (i + 1) (by omega)
    rw [e] at this
    rcases kk_le R A n i v with r | r
    · rw [r] at this ⊢
      refine ifT rfl ?_
      rintro z rfl y rfl
      rw [show (0 : Int32) = nI 0 from rfl, nI_add, nI_1]
      exact this
    · rw [r] at this ⊢
      refine ifF (by decide) ?_
      rintro z rfl y rfl
      rw [nI_1, nI_1]
      exact this
theorem lp_k2 (C : CR (lg G.1 0) n R A) (B : NB n R A) {a1 : Int32} {v : Nat} (hv : v < 3) (h1 : nI (cnt (kk R A n) v 3) = a1) (hn : ∀ u, u < v → nI (cnt (kk R A n) u 3) ≠ a1) (h : post (nI v) G) : ∀ m u, u + m = v → wlX3_kindAtRank_2 post 0 a1 (m + 1) G (nI u) := by
  intro m
  induction m with
  | zero =>
    intro u hu
    have e : u = v := by omega
    subst e
    rw [wlX3_kindAtRank_2]
    refine ifF (nI_ge (b := 3) (by omega) (by decide)) ⟨3 + 1, lp_k1 C B hv (fun _ => h) (fun g => absurd h1 g) 3 0 rfl⟩
  | succ m ih =>
    intro u hu
    rw [wlX3_kindAtRank_2]
    refine ifF (nI_ge (b := 3) (by omega) (by decide)) ⟨3 + 1, lp_k1 C B (by omega) (fun g => absurd g (hn u (by omega))) (fun _ => ih (u + 1) (by omega)) 3 0 rfl⟩
theorem lp_k3 (C : CR (lg G.1 0) n R A) (B : NB n R A) {a1 : Int32} (hn : ∀ u, u < 3 → nI (cnt (kk R A n) u 3) ≠ a1) (h : post (-1) G) : ∀ m u, u + m = 3 → wlX3_kindAtRank_2 post 0 a1 (m + 1) G (nI u) := by
  intro m
  induction m with
  | zero =>
    intro u hu
    have e : u = 3 := by omega
    subst e
    rw [wlX3_kindAtRank_2]
    exact ifT (nI_le (a := 3) (b := 3) (by decide) (by decide)) h
  | succ m ih =>
    intro u hu
    rw [wlX3_kindAtRank_2]
    refine ifF (nI_ge (b := 3) (by omega) (by decide)) ⟨3 + 1, lp_k1 C B (by omega) (fun g => absurd g (hn u (by omega))) (fun _ => ih (u + 1) (by omega)) 3 0 rfl⟩
theorem lp_j1 (M : MR (G.1 190) n R A) (B : NB n R A) {a1 : Int32} {K : GS → Int32 → Prop} {v : Nat} (hv : v < 3) (h1 : nI (cnt (kk R A n) v 3) = a1 → post (nI (ltr v)) G) (h2 : nI (cnt (kk R A n) v 3) ≠ a1 → K G (nI (v + 1))) : ∀ m i, i + m = 3 → wlX9_kindByValue_17 post a1 K (m + 1) G (nI v) (nI (cnt (kk R A n) v i)) (nI i) := by
  intro m
  induction m with
  | zero =>
    intro i hi
    have e : i = 3 := by omega
    subst e
    rw [wlX9_kindByValue_17]
    refine ifT (nI_le (a := 3) (b := 3) (by decide) (by decide)) ?_
    by_cases c : nI (cnt (kk R A n) v 3) = a1
    · exact ifT c (m_letter hv ⟨(pk_charN (by have := ltr_lt v; omega)).1, h1 c⟩)
    · refine ifF c ?_
      rintro z rfl
      rw [nI_1]
      exact h2 c
  | succ m ih =>
    intro i hi
    have hi3 : i < 3 := by omega
    have Ki := kv_le B hi3
    have Kv := kv_le B hv
    have e : cnt (kk R A n) v (i + 1) = cnt (kk R A n) v i + kk R A n i v := rfl
    have := ih (i + 1) (by omega)
    rw [e] at this
    rw [wlX9_kindByValue_17]
    refine ifF (nI_ge (b := 3) (by omega) (by decide)) (m_fo M B hi3 ?_)
    rw [show (2 : Int32) = nI 2 from rfl, nI_add, nI_add, nI_clamp (by omega), nI_clamp (by omega), M.2.1 i hi3]
    refine ⟨in56 (by omega), m_fo M B hv ?_⟩
    rw [M.2.1 v hv]
    refine ⟨in56 (by omega), ?_⟩
    rintro z rfl
    rw [pk_mul, pk_mul]
    show if 0 < nI (kv R A n i) - nI (kv R A n v) then _ else _
    unfold kk at this
    by_cases c1 : kv R A n v < kv R A n i
    · rw [if_pos c1] at this
      refine ifT ((sp_gt (by omega) (by omega)).mpr c1) ?_
      rintro x rfl y rfl
      rw [nI_1, nI_1]
      exact this
    · rw [if_neg c1] at this
      refine ifF (fun g => c1 ((sp_gt (by omega) (by omega)).mp g)) ?_
      by_cases c2 : kv R A n i = kv R A n v
      · rw [if_pos c2] at this
        refine ifT ((sp_eq (b := kv R A n i) (d := kv R A n v) (by omega) (by omega)).mpr c2) ?_
        by_cases c3 : v ≤ i
        · rw [if_pos c3] at this
          refine ifT (nI_le c3 (by omega)) ?_
          rintro x rfl y rfl
          rw [show (0 : Int32) = nI 0 from rfl, nI_add, nI_1]
          exact this
        · rw [if_neg c3] at this
          refine ifF (nI_ge (by omega) (by omega)) ?_
          rintro x rfl y rfl
          rw [nI_1, nI_1]
          exact this
      · rw [if_neg c2] at this
        refine ifF (fun g => c2 ((sp_eq (by omega) (by omega)).mp g)) ?_
        rintro x rfl y rfl
        rw [show (0 : Int32) = nI 0 from rfl, nI_add, nI_1]
        exact this
theorem lp_j2 (M : MR (G.1 190) n R A) (B : NB n R A) {a1 : Int32} {v : Nat} (hv : v < 3) (h1 : nI (cnt (kk R A n) v 3) = a1) (hn : ∀ u, u < v → nI (cnt (kk R A n) u 3) ≠ a1) (h : post (nI (ltr v)) G) : ∀ m u, u + m = v → wlX9_kindByValue_7 post a1 (m + 1) G (nI u) := by
  intro m
  induction m with
  | zero =>
    intro u hu
    have e : u = v := by omega
    subst e
    rw [wlX9_kindByValue_7]
    refine ifF (nI_ge (b := 3) (by omega) (by decide)) ⟨3 + 1, lp_j1 M B hv (fun _ => h) (fun g => absurd h1 g) 3 0 rfl⟩
  | succ m ih =>
    intro u hu
    rw [wlX9_kindByValue_7]
    refine ifF (nI_ge (b := 3) (by omega) (by decide)) ⟨3 + 1, lp_j1 M B (by omega) (fun g => absurd g (hn u (by omega))) (fun _ => ih (u + 1) (by omega)) 3 0 rfl⟩
theorem lp_j3 (M : MR (G.1 190) n R A) (B : NB n R A) {a1 : Int32} (hn : ∀ u, u < 3 → nI (cnt (kk R A n) u 3) ≠ a1) (h : post 0 (gI G 189 0 1)) : ∀ m u, u + m = 3 → wlX9_kindByValue_7 post a1 (m + 1) G (nI u) := by
  intro m
  induction m with
  | zero =>
    intro u hu
    have e : u = 3 := by omega
    subst e
    rw [wlX9_kindByValue_7]
    exact ifT (nI_le (a := 3) (b := 3) (by decide) (by decide)) (m_fails ⟨by decide, h⟩)
  | succ m ih =>
    intro u hu
    rw [wlX9_kindByValue_7]
    refine ifF (nI_ge (b := 3) (by omega) (by decide)) ⟨3 + 1, lp_j1 M B (by omega) (fun g => absurd g (hn u (by omega))) (fun _ => ih (u + 1) (by omega)) 3 0 rfl⟩
/-- the check, part by part -/
def Pk (w : Nat → Int32) (A : Nat → Nat → Nat) (n k : Nat) : Prop := nI (sf A k n) = w (5 + k) - w (8 + k)
theorem lp_fa (C : CR (lg G.1 0) n R A) (B : NB n R A) (T : TR (lg G.1 0) (G.1 190)) (h1 : (∀ k, k < 3 → Pk (G.1 190) A n k) → post 1 G) (h0 : (∃ k, k < 3 ∧ ¬ Pk (G.1 190) A n k) → post 0 G) : ∀ m i, i + m = 3 → (∀ k, k < i → Pk (G.1 190) A n k) → wlX3_fliesAgree_2 post 0 (m + 1) G (nI i) := by
  intro m
  induction m with
  | zero =>
    intro i hi hp
    have e : i = 3 := by omega
    subst e
    rw [wlX3_fliesAgree_2]
    exact ifT (nI_le (a := 3) (b := 3) (by decide) (by decide)) (h1 hp)
  | succ m ih =>
    intro i hi hp
    have hi3 : i < 3 := by omega
    rw [wlX3_fliesAgree_2]
    refine ifF (nI_ge (b := 3) hi3 (by decide)) (s_fbv C B hi3 ⟨vin3 hi3 (by decide), vin3 hi3 (by decide), ?_⟩)
    rw [nI_clamp (by omega), ← lg_i G.1 0 hi3, ← lg_o G.1 0 hi3, T (5 + i) (by unfold tk; omega), T (8 + i) (by unfold tk; omega)]
    by_cases c : Pk (G.1 190) A n i
    · refine ifT c ?_
      rintro z rfl
      rw [nI_1]
      refine ih (i + 1) (by omega) (fun k hk => ?_)
      by_cases e : k = i
      · subst e; exact c
      · exact hp k (by omega)
    · exact ifF c (h0 ⟨i, hi3, c⟩)
theorem s_va (C : CR (lg G.1 0) n R A) (B : NB n R A) (h : post 1 G) : wpX3_valuesAgree post 0 G := by
  unfold wpX3_valuesAgree
  exact s_vbv C B (s_vbk C B (ifT rfl h))
theorem lp_pa (C : CR (lg G.1 0) n R A) (B : NB n R A) (h : post 1 G) : ∀ m i, i + m = 5 → wlX3_predictionsAgree_2 post 0 (m + 1) G (nI i) := by
  intro m
  induction m with
  | zero =>
    intro i hi
    have e : i = 5 := by omega
    subst e
    rw [wlX3_predictionsAgree_2]
    exact ifT (nI_le (a := 5) (b := 5) (by decide) (by decide)) h
  | succ m ih =>
    intro i hi
    have hi5 : i < 5 := by omega
    rw [wlX3_predictionsAgree_2]
    refine ifF (nI_ge (b := 5) hi5 (by decide)) ⟨vp_in_nI hi5 (by decide), ?_⟩
    rw [nI_clamp (show i < 2 ^ 31 by omega)]
    refine s_dsub C B hi5 ⟨vp_in_nI hi5 (by decide), s_dcount C B hi5 (ifT rfl ?_)⟩
    rintro z rfl
    rw [nI_1]
    exact ih (i + 1) (by omega)
def Pd (w : Nat → Int32) (A : Nat → Nat → Nat) (n : Nat) : Prop := w 11 = w 12 + w 13 + nI (sf A 4 n)
theorem lp_da (C : CR (lg G.1 0) n R A) (B : NB n R A) (T : TR (lg G.1 0) (G.1 190)) (h1 : Pd (G.1 190) A n → post 1 G) (h0 : ¬ Pd (G.1 190) A n → post 0 G) : ∀ m i, i + m = 5 → wlX3_dewAgrees_4 post 0 (m + 1) G (nI (sf A 4 i)) (nI i) := by
  have t6 : G.1 0 6 = G.1 190 11 := ((lg_t G.1 0 (k := 0) (by decide)).symm).trans (T 11 (by unfold tk; omega))
  have t7 : G.1 0 7 = G.1 190 12 := ((lg_t G.1 0 (k := 1) (by decide)).symm).trans (T 12 (by unfold tk; omega))
  have t8 : G.1 0 8 = G.1 190 13 := ((lg_t G.1 0 (k := 2) (by decide)).symm).trans (T 13 (by unfold tk; omega))
  intro m
  induction m with
  | zero =>
    intro i hi
    have e : i = 5 := by omega
    subst e
    rw [wlX3_dewAgrees_4]
    refine ifT (nI_le (a := 5) (b := 5) (by decide) (by decide)) ?_
    rw [t6, t7, t8, sf_5 B (k := 4) (by decide)]
    by_cases c : Pd (G.1 190) A n
    · exact ifT c (h1 c)
    · exact ifF c (h0 c)
  | succ m ih =>
    intro i hi
    have hi5 : i < 5 := by omega
    rw [wlX3_dewAgrees_4]
    refine ifF (nI_ge (b := 5) hi5 (by decide)) ⟨vp_in_nI hi5 (by decide), ?_⟩
    rw [nI_clamp (show i < 2 ^ 31 by omega)]
    rintro z rfl y rfl
    rw [cf_2 C hi5, nI_add, nI_1]
    exact ih (i + 1) (by omega)
theorem lp_c1 (M : MR (G.1 190) n R A) (B : NB n R A) (h1 : (∀ k, k < 3 → Pk (G.1 190) A n k) → Pd (G.1 190) A n → post 1 G) (h2 : (∃ k, k < 3 ∧ ¬ Pk (G.1 190) A n k) → post 0 G) (h3 : ¬ Pd (G.1 190) A n → post 0 G) : ∀ m i, i + m = 3 → (∀ k, k < i → Pk (G.1 190) A n k) → wlX9_isConsistent_36 post (m + 1) G (nI (sf A 4 n)) (nI i) := by
  intro m
  induction m with
  | zero =>
    intro i hi hp
    have e : i = 3 := by omega
    subst e
    rw [wlX9_isConsistent_36]
    refine ifT (nI_le (a := 3) (b := 3) (by decide) (by decide)) ⟨in56 (i := 11) (by decide), in56 (i := 12) (by decide), in56 (i := 13) (by decide), ?_⟩
    by_cases c : Pd (G.1 190) A n
    · exact ifT c (h1 hp c)
    · exact ifF c (h3 c)
  | succ m ih =>
    intro i hi hp
    have hi3 : i < 3 := by omega
    rw [wlX9_isConsistent_36]
    refine ifF (nI_ge (b := 3) hi3 (by decide)) (m_fo M B hi3 ?_)
    rw [show (5 : Int32) = nI 5 from rfl, show (8 : Int32) = nI 8 from rfl, nI_add, nI_add, nI_clamp (by omega), nI_clamp (by omega)]
    refine ⟨in56 (by omega), in56 (by omega), ?_⟩
    by_cases c : Pk (G.1 190) A n i
    · refine ifT c ?_
      rintro z rfl
      rw [nI_1]
      refine ih (i + 1) (by omega) (fun k hk => ?_)
      by_cases e : k = i
      · subst e; exact c
      · exact hp k (by omega)
    · exact ifF c (h2 ⟨i, hi3, c⟩)
theorem lp_c2 (M : MR (G.1 190) n R A) (B : NB n R A) (h1 : (∀ k, k < 3 → Pk (G.1 190) A n k) → Pd (G.1 190) A n → post 1 G) (h2 : (∃ k, k < 3 ∧ ¬ Pk (G.1 190) A n k) → post 0 G) (h3 : ¬ Pd (G.1 190) A n → post 0 G) : ∀ m i, i + m = n → wlX9_isConsistent_9 post (m + 1) G (nI (sf A 4 i)) (nI i) := by
  have h5 := B.1
  intro m
  induction m with
  | zero =>
    intro i hi
    have e : i = n := by omega
    subst e
    rw [wlX9_isConsistent_9]
    refine ⟨in56 (i := 0) (by decide), ?_⟩
    show if G.1 190 0 ≤ _ then _ else _
    rw [M.1]
    exact ifT (nI_le (Nat.le_refl _) (by omega)) ⟨3 + 1, lp_c1 M B h1 h2 h3 3 0 rfl (fun k hk => absurd hk (Nat.not_lt_zero k))⟩
  | succ m ih =>
    intro i hi
    rw [wlX9_isConsistent_9]
    refine ⟨in56 (i := 0) (by decide), ?_⟩
    show if G.1 190 0 ≤ _ then _ else _
    rw [M.1]
    refine ifF (nI_ge (by omega) (by omega)) (m_ofN (j := 4) M B (by omega) (by decide) ?_)
    rintro z rfl y rfl
    rw [nI_add, nI_1]
    exact ih (i + 1) (by omega)
end CONS
theorem k_law_32 {L : Nat} {xs : Nat → Int32} {v5 : Int32} {G : GS} (I : Inv G) (hv : ∀ j, j < 5 → vp_in (v5 + nI j) L) : wpL_law_32 Inv L xs v5 G := by
  obtain ⟨n, R, A, B, C, M, T⟩ := I.1
  have mk := fun (c : Int32) (G' : GS) (y : wpX9_kindByValue (FIN Inv c) (xs (v5 + 1).toNatClampNeg) G') => (⟨hv 1 (by decide), y⟩ : vp_in (v5 + 1) L ∧ _)
  unfold wpL_law_32 wpL_kindByValue wpX8_kindByValue
  refine ⟨hv 1 (by decide), ?_⟩
  generalize xs (v5 + 1).toNatClampNeg = a1 at mk ⊢
  rcases first_of (fun u => nI (cnt (kk R A n) u 3) = a1) 3 with ⟨v, hvn, p1, p2⟩ | hn
  · refine ⟨v + 1, lp_k2 C B hvn p1 p2 ?_ v 0 (Nat.zero_add v)⟩
    have l := ltr_lt v
    refine ifT (nI_pos' (by omega)) (s_letter hvn ⟨(pk_charN (by omega)).1, vin01, ?_⟩)
    rintro G5 rfl
    refine mk _ _ ?_
    unfold wpX9_kindByValue
    rintro G1 rfl
    exact ⟨v + 1, lp_j2 (th_M M _) B hvn p1 p2 (fin0q I rfl) v 0 (Nat.zero_add v)⟩
  · refine ⟨3 + 1, lp_k3 C B hn ?_ 3 0 rfl⟩
    refine ifF (by decide) (ifT rfl (mk _ _ ?_))
    unfold wpX9_kindByValue
    rintro G1 rfl
    exact ⟨3 + 1, lp_j3 (th_M0 M) B hn (finEq I (by decide)) 3 0 rfl⟩
theorem k_law_41 {L : Nat} {xs : Nat → Int32} {v5 : Int32} {G : GS} (I : Inv G) : wpL_law_41 Inv L xs v5 G := by
  obtain ⟨n, R, A, B, C, M, T⟩ := I.1
  have e : (gI G 189 0 0).1 190 = G.1 190 := gI_ne _ _ _ (by decide)
  have m1 : ∀ r : Int32, ((∀ k, k < 3 → Pk (G.1 190) A n k) → Pd (G.1 190) A n → r = 1) → ((∃ k, k < 3 ∧ ¬ Pk (G.1 190) A n k) → r = 0) → (¬ Pd (G.1 190) A n → r = 0) → wpX9_isConsistent (fun (r4 : Int32) (G3 : GS) => if r = r4 then Inv G3 else False) G := by
    intro r a b c
    unfold wpX9_isConsistent
    rintro G1 rfl
    refine ⟨n + 1, lp_c2 (th_M0 M) B ?_ ?_ ?_ n 0 (Nat.zero_add n)⟩
    · rw [e]; exact fun p q => ifT (a p q) (Inv_th I 0)
    · rw [e]; exact fun p => ifT (b p) (Inv_th I 0)
    · rw [e]; exact fun p => ifT (c p) (Inv_th I 0)
  unfold wpL_law_41 wpX8_isConsistent
  refine ⟨3 + 1, lp_fa C B T (fun h1 => ?_) (fun h0 => ?_) 3 0 rfl (fun k hk => absurd hk (Nat.not_lt_zero k))⟩
  · refine ifF (by decide) (s_va C B (ifF (by decide) ⟨5 + 1, lp_pa C B (ifF (by decide) ⟨5 + 1, lp_da C B T (fun d1 => ?_) (fun d0 => ?_) 5 0 rfl⟩) 5 0 rfl⟩))
    · exact ifF (by decide) (m1 1 (fun _ _ => rfl) (fun ⟨k, hk, g⟩ => absurd (h1 k hk) g) (fun g => absurd d1 g))
    · exact ifT rfl (m1 0 (fun _ g => absurd g d0) (fun _ => rfl) (fun _ => rfl))
  · exact ifT rfl (m1 0 (fun g _ => by obtain ⟨k, hk, x⟩ := h0; exact absurd (g k hk) x) (fun _ => rfl) (fun _ => rfl))
