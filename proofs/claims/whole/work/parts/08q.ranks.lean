/-! ranks, and what the class checks of itself -/
section RANK
variable {G : GS} {n : Nat} {R : Nat → Nat} {A : Nat → Nat → Nat} {post : Int32 → GS → Prop}
/-- whether vault a comes ahead of vault b: 1 or 0 -/
def rk (R : Nat → Nat) (A : Nat → Nat → Nat) (a b : Nat) : Nat :=
  if vl R (A a) = vl R (A b) then (if A a 4 = A b 4 then (if b ≤ a then 0 else 1) else if A b 4 ≤ A a 4 then 0 else 1) else if vl R (A a) ≤ vl R (A b) then 0 else 1
theorem s_rb (C : CR (lg G.1 0) n R A) (B : NB n R A) {a b : Nat} (ha : a < 5) (hb : b < 5) (h : post (nI (rk R A a b)) G) : wpX3_ranksBefore post 0 (nI a) (nI b) G := by
  have Va := vl_le B ha
  have Vb := vl_le B hb
  have Da := A_le B ha (j := 4) (by decide)
  have Db := A_le B hb (j := 4) (by decide)
  unfold wpX3_ranksBefore
  rw [nI_clamp (show a < 2 ^ 31 by omega), nI_clamp (show b < 2 ^ 31 by omega)]
  refine ⟨vp_in_nI ha (by decide), s_legsV C ha ⟨vp_in_nI hb (by decide), s_legsV C hb ?_⟩⟩
  rw [cf_2 C ha, cf_2 C hb]
  unfold rk at h
  by_cases c1 : vl R (A a) = vl R (A b)
  · rw [if_pos c1] at h
    refine ifT (by rw [c1]) ⟨vp_in_nI ha (by decide), vp_in_nI hb (by decide), ?_⟩
    by_cases c2 : A a 4 = A b 4
    · rw [if_pos c2] at h
      refine ifT (by rw [c2]) ?_
      by_cases c3 : b ≤ a
      · rw [if_pos c3] at h; exact ifT (nI_le c3 (by omega)) h
      · rw [if_neg c3] at h; exact ifF (nI_ge (by omega) (by omega)) h
    · rw [if_neg c2] at h
      refine ifF (fun g => c2 ((nI_eq (by omega) (by omega)).mp g)) ⟨vp_in_nI ha (by decide), vp_in_nI hb (by decide), ?_⟩
      by_cases c3 : A b 4 ≤ A a 4
      · rw [if_pos c3] at h; exact ifT (nI_le c3 (by omega)) h
      · rw [if_neg c3] at h; exact ifF (nI_ge (by omega) (by omega)) h
  · rw [if_neg c1] at h
    refine ifF (fun g => c1 ((nI_eq (by omega) (by omega)).mp g)) ?_
    by_cases c3 : vl R (A a) ≤ vl R (A b)
    · rw [if_pos c3] at h; exact ifT (nI_le c3 (by omega)) h
    · rw [if_neg c3] at h; exact ifF (nI_ge (by omega) (by omega)) h
theorem m_ah (M : MR (G.1 190) n R A) (B : NB n R A) {a b : Nat} (ha : a < n) (hb : b < n) (h : post (nI (rk R A a b)) G) : wpX9_isAhead post (nI a) (nI b) G := by
  have h5 := B.1
  have Va := vl_le B (v := a) (by omega)
  have Vb := vl_le B (v := b) (by omega)
  have Da := A_le B (v := a) (j := 4) (by omega) (by decide)
  have Db := A_le B (v := b) (j := 4) (by omega) (by decide)
  unfold wpX9_isAhead
  refine m_value M B ha (m_value M B hb ?_)
  rintro z rfl
  refine m_ofN (j := 4) M B hb (by decide) (m_ofN (j := 4) M B ha (by decide) ?_)
  rintro y rfl
  unfold rk at h
  by_cases c1 : vl R (A a) = vl R (A b)
  · rw [if_pos c1] at h
    refine ifT ((sp_eq (by omega) (by omega)).mpr c1) ?_
    by_cases c2 : A a 4 = A b 4
    · rw [if_pos c2] at h
      refine ifT ((sp_eq (by omega) (by omega)).mpr c2.symm) ?_
      by_cases c3 : b ≤ a
      · rw [if_pos c3] at h; exact ifT (nI_le c3 (by omega)) h
      · rw [if_neg c3] at h; exact ifF (nI_ge (by omega) (by omega)) h
    · rw [if_neg c2] at h
      refine ifF (fun g => c2 ((sp_eq (by omega) (by omega)).mp g).symm) ?_
      by_cases c3 : A b 4 ≤ A a 4
      · rw [if_pos c3] at h; exact ifT ((sp_le (by omega) (by omega)).mpr c3) h
      · rw [if_neg c3] at h; exact ifF (fun g => c3 ((sp_le (by omega) (by omega)).mp g)) h
  · rw [if_neg c1] at h
    refine ifF (fun g => c1 ((sp_eq (by omega) (by omega)).mp g)) ?_
    by_cases c3 : vl R (A a) ≤ vl R (A b)
    · rw [if_pos c3] at h; exact ifT ((sp_le (by omega) (by omega)).mpr c3) h
    · rw [if_neg c3] at h; exact ifF (fun g => c3 ((sp_le (by omega) (by omega)).mp g)) h
theorem rk_le (R : Nat → Nat) (A : Nat → Nat → Nat) (a b : Nat) : rk R A a b = 0 ∨ rk R A a b = 1 := by
  unfold rk
  repeat' split
  all_goals first | exact Or.inl rfl | exact Or.inr rfl
/-- how many of the first i come ahead of v -/
def cnt (q : Nat → Nat → Nat) (v : Nat) : Nat → Nat
  | 0 => 0
  | i + 1 => cnt q v i + q i v
theorem lp_r1 (C : CR (lg G.1 0) n R A) (B : NB n R A) {a1 : Int32} {K : GS → Int32 → Prop} {v : Nat} (hv : v < n) (h1 : nI (cnt (rk R A) v n) = a1 → post (nI v) G) (h2 : nI (cnt (rk R A) v n) ≠ a1 → K G (nI (v + 1))) : ∀ m i, i + m = n → wlX3_vaultAtRank_15 post 0 a1 K (m + 1) G (nI v) (nI (cnt (rk R A) v i)) (nI i) := by
  have h5 := B.1
  intro m
  induction m with
  | zero =>
    intro i hi
    have e : i = n := by omega
    subst e
    rw [wlX3_vaultAtRank_15, cf_n C]
    refine ifT (nI_le (Nat.le_refl _) (by omega)) ?_
    by_cases c : nI (cnt (rk R A) v i) = a1
    · exact ifT c (h1 c)
    · refine ifF c ?_
      rintro z rfl
      rw [nI_1]
      exact h2 c
  | succ m ih =>
    intro i hi
    rw [wlX3_vaultAtRank_15, cf_n C]
    refine ifF (nI_ge (by omega) (by omega)) (s_rb C B (by omega) (by omega) ?_)
    have e : cnt (rk R A) v (i + 1) = cnt (rk R A) v i + rk R A i v := rfl
    have := ih (i + 1) (by omega)
    rw [e] at this
    rcases rk_le R A i v with r | r
    · rw [r] at this ⊢
      refine ifT rfl ?_
      rintro z rfl y rfl
      rw [show (0 : Int32) = nI 0 from rfl, nI_add, nI_1]
      exact this
    · rw [r] at this ⊢
      refine ifF (by decide) ?_
      rintro z rfl y rfl
      rw [nI_1, nI_1]
      exact this
theorem lp_r2 (C : CR (lg G.1 0) n R A) (B : NB n R A) {a1 : Int32} {v : Nat} (hv : v < n) (h1 : nI (cnt (rk R A) v n) = a1) (hn : ∀ u, u < v → nI (cnt (rk R A) u n) ≠ a1) (h : post (nI v) G) : ∀ m u, u + m = v → wlX3_vaultAtRank_2 post 0 a1 (m + 1) G (nI u) := by
  have h5 := B.1
  intro m
  induction m with
  | zero =>
    intro u hu
    have e : u = v := by omega
    subst e
    rw [wlX3_vaultAtRank_2, cf_n C]
    refine ifF (nI_ge (by omega) (by omega)) ⟨n + 1, lp_r1 C B hv (fun _ => h) (fun g => absurd h1 g) n 0 (Nat.zero_add n)⟩
  | succ m ih =>
    intro u hu
    rw [wlX3_vaultAtRank_2, cf_n C]
    refine ifF (nI_ge (by omega) (by omega)) ⟨n + 1, lp_r1 C B (by omega) (fun g => absurd g (hn u (by omega))) (fun _ => ih (u + 1) (by omega)) n 0 (Nat.zero_add n)⟩
theorem lp_r3 (C : CR (lg G.1 0) n R A) (B : NB n R A) {a1 : Int32} (hn : ∀ u, u < n → nI (cnt (rk R A) u n) ≠ a1) (h : post (-1) G) : ∀ m u, u + m = n → wlX3_vaultAtRank_2 post 0 a1 (m + 1) G (nI u) := by
  have h5 := B.1
  intro m
  induction m with
  | zero =>
    intro u hu
    have e : u = n := by omega
    subst e
    rw [wlX3_vaultAtRank_2, cf_n C]
    exact ifT (nI_le (Nat.le_refl _) (by omega)) h
  | succ m ih =>
    intro u hu
    rw [wlX3_vaultAtRank_2, cf_n C]
    refine ifF (nI_ge (by omega) (by omega)) ⟨n + 1, lp_r1 C B (by omega) (fun g => absurd g (hn u (by omega))) (fun _ => ih (u + 1) (by omega)) n 0 (Nat.zero_add n)⟩
theorem lp_m1 (M : MR (G.1 190) n R A) (B : NB n R A) {a1 : Int32} {K : GS → Int32 → Prop} {v : Nat} (hv : v < n) (h1 : nI (cnt (rk R A) v n) = a1 → post (nI v) G) (h2 : nI (cnt (rk R A) v n) ≠ a1 → K G (nI (v + 1))) : ∀ m i, i + m = n → wlX9_vaultByValue_22 post a1 K (m + 1) G (nI v) (nI (cnt (rk R A) v i)) (nI i) := by
  have h5 := B.1
  intro m
  induction m with
  | zero =>
    intro i hi
    have e : i = n := by omega
    subst e
    rw [wlX9_vaultByValue_22]
    refine ⟨in56 (i := 0) (by decide), ?_⟩
    show if G.1 190 0 ≤ _ then _ else _
    rw [M.1]
    refine ifT (nI_le (Nat.le_refl _) (by omega)) ?_
    by_cases c : nI (cnt (rk R A) v i) = a1
    · exact ifT c (h1 c)
    · refine ifF c ?_
      rintro z rfl
      rw [nI_1]
      exact h2 c
  | succ m ih =>
    intro i hi
    rw [wlX9_vaultByValue_22]
    refine ⟨in56 (i := 0) (by decide), ?_⟩
    show if G.1 190 0 ≤ _ then _ else _
    rw [M.1]
    refine ifF (nI_ge (by omega) (by omega)) (m_ah M B (by omega) (by omega) ?_)
    have e : cnt (rk R A) v (i + 1) = cnt (rk R A) v i + rk R A i v := rfl
    have := ih (i + 1) (by omega)
    rw [e] at this
    rcases rk_le R A i v with r | r
    · rw [r] at this ⊢
      refine ifT rfl ?_
      rintro z rfl y rfl
      rw [show (0 : Int32) = nI 0 from rfl, nI_add, nI_1]
      exact this
    · rw [r] at this ⊢
      refine ifF (by decide) ?_
      rintro z rfl y rfl
      rw [nI_1, nI_1]
      exact this
theorem lp_m2 (M : MR (G.1 190) n R A) (B : NB n R A) {a1 : Int32} {v : Nat} (hv : v < n) (h1 : nI (cnt (rk R A) v n) = a1) (hn : ∀ u, u < v → nI (cnt (rk R A) u n) ≠ a1) (h : post (nI v) G) : ∀ m u, u + m = v → wlX9_vaultByValue_7 post a1 (m + 1) G (nI u) := by
  have h5 := B.1
  intro m
  induction m with
  | zero =>
    intro u hu
    have e : u = v := by omega
    subst e
    rw [wlX9_vaultByValue_7]
    refine ⟨in56 (i := 0) (by decide), ?_⟩
    show if G.1 190 0 ≤ _ then _ else _
    rw [M.1]
    refine ifF (nI_ge (by omega) (by omega)) ⟨n + 1, lp_m1 M B hv (fun _ => h) (fun g => absurd h1 g) n 0 (Nat.zero_add n)⟩
  | succ m ih =>
    intro u hu
    rw [wlX9_vaultByValue_7]
    refine ⟨in56 (i := 0) (by decide), ?_⟩
    show if G.1 190 0 ≤ _ then _ else _
    rw [M.1]
    refine ifF (nI_ge (by omega) (by omega)) ⟨n + 1, lp_m1 M B (by omega) (fun g => absurd g (hn u (by omega))) (fun _ => ih (u + 1) (by omega)) n 0 (Nat.zero_add n)⟩
theorem lp_m3 (M : MR (G.1 190) n R A) (B : NB n R A) {a1 : Int32} (hn : ∀ u, u < n → nI (cnt (rk R A) u n) ≠ a1) (h : post 0 (gI G 189 0 1)) : ∀ m u, u + m = n → wlX9_vaultByValue_7 post a1 (m + 1) G (nI u) := by
  have h5 := B.1
  intro m
  induction m with
  | zero =>
    intro u hu
    have e : u = n := by omega
    subst e
    rw [wlX9_vaultByValue_7]
    refine ⟨in56 (i := 0) (by decide), ?_⟩
    show if G.1 190 0 ≤ _ then _ else _
    rw [M.1]
    exact ifT (nI_le (Nat.le_refl _) (by omega)) (m_fails h)
  | succ m ih =>
    intro u hu
    rw [wlX9_vaultByValue_7]
    refine ⟨in56 (i := 0) (by decide), ?_⟩
    show if G.1 190 0 ≤ _ then _ else _
    rw [M.1]
    refine ifF (nI_ge (by omega) (by omega)) ⟨n + 1, lp_m1 M B (by omega) (fun g => absurd g (hn u (by omega))) (fun _ => ih (u + 1) (by omega)) n 0 (Nat.zero_add n)⟩
/-- the first that fits, or none -/
theorem first_of (p : Nat → Prop) : ∀ n, (∃ v, v < n ∧ p v ∧ ∀ u, u < v → ¬ p u) ∨ (∀ u, u < n → ¬ p u) := by
  intro n
  induction n with
  | zero => exact Or.inr (fun u h => absurd h (Nat.not_lt_zero u))
  | succ n ih =>
    rcases ih with ⟨v, h1, h2, h3⟩ | h
    · exact Or.inl ⟨v, by omega, h2, h3⟩
    · by_cases c : p n
      · exact Or.inl ⟨n, by omega, c, h⟩
      · refine Or.inr (fun u hu => ?_)
        by_cases e : u = n
        · subst e; exact c
        · exact h u (by omega)
end RANK
theorem k_law_31 {L : Nat} {xs : Nat → Int32} {v5 : Int32} {G : GS} (I : Inv G) (hv : ∀ j, j < 5 → vp_in (v5 + nI j) L) : wpL_law_31 Inv L xs v5 G := by
  obtain ⟨n, R, A, B, C, M, T⟩ := I.1
  have h5 := B.1
  have mk := fun (c : Int32) (G' : GS) (y : wpX9_vaultByValue (FIN Inv c) (xs (v5 + 1).toNatClampNeg) G') => (⟨hv 1 (by decide), y⟩ : vp_in (v5 + 1) L ∧ _)
  unfold wpL_law_31 wpL_vaultByValue wpX8_vaultByValue
  refine ⟨hv 1 (by decide), ?_⟩
  generalize xs (v5 + 1).toNatClampNeg = a1 at mk ⊢
  rcases first_of (fun u => nI (cnt (rk R A) u n) = a1) n with ⟨v, hvn, p1, p2⟩ | hn
  · refine ⟨v + 1, lp_r2 C B hvn p1 p2 ?_ v 0 (Nat.zero_add v)⟩
    refine ifT (nI_pos' (by omega)) ⟨vin01, ?_⟩
    rintro G5 rfl
    refine mk _ _ ?_
    unfold wpX9_vaultByValue
    rintro G1 rfl
    exact ⟨v + 1, lp_m2 (th_M M _) B hvn p1 p2 (fin0q I rfl) v 0 (Nat.zero_add v)⟩
  · refine ⟨n + 1, lp_r3 C B hn ?_ n 0 (Nat.zero_add n)⟩
    refine ifF (by decide) (ifT rfl (mk _ _ ?_))
    unfold wpX9_vaultByValue
    rintro G1 rfl
    exact ⟨n + 1, lp_m3 (th_M0 M) B hn (finEq I (by decide)) n 0 (Nat.zero_add n)⟩
