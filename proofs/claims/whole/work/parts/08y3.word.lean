/-! scripts: the class reads a word -/
section WORD
variable {cs : Nat → Nat} {L q p : Nat} {o : Nat → Int32} {G0 G : GS} {post : Int32 → GS → Prop}
theorem lp_fit (hc : CSx cs L) (h : PX cs L q p o G0 G) (hp : p < 500) {j : Nat} (hj : j < 10) (K : post (nI (fit cs (Wk j) p)) G) : ∀ m i, i + m = fit cs (Wk j) p → wlX6_fitOf_2 post (CWl.getD j 0) (m + 1) G (nI i) := by
  have h6 := W_lt j hj
  have hf := fit_le cs (Wk j) p
  intro m
  induction m with
  | zero =>
    intro i e
    rw [Nat.add_zero] at e
    subst e
    rw [wlX6_fitOf_2]
    refine s_len (W_len j hj) (by omega) ?_
    by_cases c : (Wk j).length ≤ fit cs (Wk j) p
    · exact ifT (nI_le c (by omega)) K
    · refine ifF (nI_ge (by omega) (by omega)) ?_
      rw [h.2.2.1, nI_add]
      refine s_sign hc h (by omega) (s_charAt (W_len j hj) (W_ch j hj _ (by omega)) (by omega) (by omega) (W_hi j hj _ (by omega)) ?_)
      have := cs_le hc (p + fit cs (Wk j) p)
      have := W_hi j hj (fit cs (Wk j) p) (by omega)
      exact ifF (fun g => fit_ne (by omega) ((nI_eq (by omega) (by omega)).mp g)) K
  | succ m ih =>
    intro i e
    rw [wlX6_fitOf_2]
    refine s_len (W_len j hj) (by omega) ?_
    refine ifF (nI_ge (by omega) (by omega)) ?_
    rw [h.2.2.1, nI_add]
    refine s_sign hc h (by omega) (s_charAt (W_len j hj) (W_ch j hj i (by omega)) (by omega) (by omega) (W_hi j hj i (by omega)) ?_)
    refine ifT (by rw [fit_at (show i < fit cs (Wk j) p by omega)]) ?_
    rintro z rfl
    rw [nI_1]
    exact ih (i + 1) (by omega)
theorem s_fit (hc : CSx cs L) (h : PX cs L q p o G0 G) (hp : p < 500) {j : Nat} (hj : j < 10) (K : post (nI (fit cs (Wk j) p)) G) : wpX6_fitOf post (CWl.getD j 0) G := by
  unfold wpX6_fitOf
  exact ⟨fit cs (Wk j) p + 1, lp_fit hc h hp hj K (fit cs (Wk j) p) 0 (by omega)⟩
theorem lp_word (hq : 170 < q) (hc : CSx cs L) (h : PX cs L q p o G0 G) (hp : p < 500) {k : Nat} (hk : k < 10) (hs : ∀ j, j < 10 → j ≠ k → fit cs (Wk j) p ≤ fit cs (Wk k) p ∧ fit cs (Wk j) p ≤ 1)
    (kT : fit cs (Wk k) p = (Wk k).length → ∀ G', PX cs L q (p + (Wk k).length) (upd o 0 (nI k)) G0 G' → post 1 G') (kF : fit cs (Wk k) p < (Wk k).length → ∀ G', PX cs L q (p + fit cs (Wk k) p) o G0 G' → post 0 G') :
    ∀ m i x, i + m = 10 → x ≤ fit cs (Wk k) p → (i ≤ k ∨ (x = fit cs (Wk k) p ∧ fit cs (Wk k) p < (Wk k).length)) → wlX6_readWord_13 post q (m + 1) G (nI x) 10 (nI i) := by
  have h6 := W_lt k hk
  have hf := fit_le cs (Wk k) p
  intro m
  induction m with
  | zero =>
    intro i x e hx hi
    rw [wlX6_readWord_13]
    refine ifT (nI_le (a := 10) (by omega) (by omega)) ?_
    rintro G2 rfl
    rw [h.2.2.1, nI_add]
    rcases hi with hi | ⟨rfl, hi⟩
    · omega
    · exact kF hi _ (PX_pos hq h _)
  | succ m ih =>
    intro i x e hx hi
    have hi10 : i < 10 := by omega
    have g6 := W_lt i hi10
    have gf := fit_le cs (Wk i) p
    rw [wlX6_readWord_13]
    refine ifF (nI_ge (b := 10) hi10 (by decide)) ⟨vp_in_nI hi10 (by decide), ?_⟩
    rw [nI_clamp (by omega)]
    refine s_fit hc h hp hi10 (s_len (W_len i hi10) (by omega) ?_)
    by_cases c : fit cs (Wk i) p = (Wk i).length
    · refine ifT (by rw [c]) ?_
      have hik : i = k := by
        refine Classical.byContradiction (fun g => ?_)
        have a := (hs i hi10 g).2
        have b : ∀ i, i < 10 → 1 < (Wk i).length := by decide
        have := b i hi10
        omega
      subst hik
      rintro G11 rfl G12 rfl
      rw [gI_ne _ _ _ (show (168 : Nat) ≠ q by omega), h.2.2.1, nI_add, c]
      exact kT c _ (PX_pos hq (PX_row hq h _ _) _)
    · refine ifF (fun g => c ((nI_eq (by omega) (by omega)).mp g)) ?_
      rintro z9 rfl z10 rfl
      rw [nI_1]
      by_cases d : i = k
      · subst d
        by_cases d2 : x < fit cs (Wk i) p
        · rw [if_pos (nI_lt d2 (by omega))]
          exact ih (i + 1) _ (by omega) (by omega) (Or.inr ⟨rfl, by omega⟩)
        · rw [if_neg (nI_nlt (by omega) (by omega))]
          exact ih (i + 1) _ (by omega) (by omega) (Or.inr ⟨by omega, by omega⟩)
      · have a := (hs i hi10 d).1
        by_cases d2 : x < fit cs (Wk i) p
        · rw [if_pos (nI_lt d2 (by omega))]
          exact ih (i + 1) _ (by omega) (by omega) (by omega)
        · rw [if_neg (nI_nlt (by omega) (by omega))]
          exact ih (i + 1) _ (by omega) (by omega) (by omega)
theorem s_word (hq : 170 < q) (hc : CSx cs L) (h : PX cs L q p o G0 G) (hp : p < 500) {k : Nat} (hk : k < 10) (hs : ∀ j, j < 10 → j ≠ k → fit cs (Wk j) p ≤ fit cs (Wk k) p ∧ fit cs (Wk j) p ≤ 1)
    (kT : fit cs (Wk k) p = (Wk k).length → ∀ G', PX cs L q (p + (Wk k).length) (upd o 0 (nI k)) G0 G' → post 1 G') (kF : fit cs (Wk k) p < (Wk k).length → ∀ G', PX cs L q (p + fit cs (Wk k) p) o G0 G' → post 0 G') : wpX6_readWord post q G := by
  unfold wpX6_readWord
  exact ⟨10 + 1, lp_word hq hc h hp hk hs kT kF 10 0 0 (by omega) (by omega) (Or.inl (by omega))⟩
/-- no word at all -/
def nosel (cs : Nat → Nat) (p : Nat) : Prop := ∀ k, k < 10 → cs p ≠ (Wk k).headD 0
theorem fit_hd (cs : Nat → Nat) (p k : Nat) (hk : k < 10) (h : cs p ≠ (Wk k).headD 0) : fit cs (Wk k) p = 0 := by
  have e : ∀ l : List Nat, l ≠ [] → cs p ≠ l.headD 0 → fit cs l p = 0 := by
    intro l a b
    cases l with
    | nil => exact absurd rfl a
    | cons c l => exact if_neg b
  exact e _ ((by decide : ∀ k, k < 10 → Wk k ≠ []) k hk) h
theorem s_word0 (hq : 170 < q) (hc : CSx cs L) (h : PX cs L q p o G0 G) (hp : p < 500) (hs : nosel cs p) (kF : ∀ G', PX cs L q p o G0 G' → post 0 G') : wpX6_readWord post q G := by
  have f0 : ∀ k, k < 10 → fit cs (Wk k) p = 0 := fun k hk => fit_hd cs p k hk (hs k hk)
  refine s_word hq hc h hp (k := 0) (by decide) (fun j hj _ => by rw [f0 j hj]; omega) (fun g => ?_) (fun _ G' h' => kF G' (by rw [f0 0 (by decide)] at h'; exact h'))
  rw [f0 0 (by decide)] at g
  exact absurd g (by decide)
/-- which word it can be -/
def sel (cs : Nat → Nat) (k p : Nat) : Prop :=
  k < 10 ∧ cs p = (Wk k).headD 0 ∧ (k = 3 → cs (p + 1) = 119) ∧ (k = 8 → cs (p + 1) ≠ 119) ∧ (k = 4 → cs (p + 1) = 105) ∧ (k = 5 → cs (p + 1) ≠ 105)
theorem sel_or (cs : Nat → Nat) (p : Nat) : nosel cs p ∨ ∃ k, sel cs k p := by
  by_cases c0 : cs p = 118
  · exact Or.inr ⟨0, by decide, c0, fun e => absurd e (by decide), fun e => absurd e (by decide), fun e => absurd e (by decide), fun e => absurd e (by decide)⟩
  by_cases c1 : cs p = 112
  · exact Or.inr ⟨1, by decide, c1, fun e => absurd e (by decide), fun e => absurd e (by decide), fun e => absurd e (by decide), fun e => absurd e (by decide)⟩
  by_cases c2 : cs p = 116
  · exact Or.inr ⟨2, by decide, c2, fun e => absurd e (by decide), fun e => absurd e (by decide), fun e => absurd e (by decide), fun e => absurd e (by decide)⟩
  by_cases c3 : cs p = 115
  · by_cases d : cs (p + 1) = 119
    · exact Or.inr ⟨3, by decide, c3, fun _ => d, fun e => absurd e (by decide), fun e => absurd e (by decide), fun e => absurd e (by decide)⟩
    · exact Or.inr ⟨8, by decide, c3, fun e => absurd e (by decide), fun _ => d, fun e => absurd e (by decide), fun e => absurd e (by decide)⟩
  by_cases c4 : cs p = 109
  · by_cases d : cs (p + 1) = 105
    · exact Or.inr ⟨4, by decide, c4, fun e => absurd e (by decide), fun e => absurd e (by decide), fun _ => d, fun e => absurd e (by decide)⟩
    · exact Or.inr ⟨5, by decide, c4, fun e => absurd e (by decide), fun e => absurd e (by decide), fun e => absurd e (by decide), fun _ => d⟩
  by_cases c6 : cs p = 97
  · exact Or.inr ⟨6, by decide, c6, fun e => absurd e (by decide), fun e => absurd e (by decide), fun e => absurd e (by decide), fun e => absurd e (by decide)⟩
  by_cases c7 : cs p = 114
  · exact Or.inr ⟨7, by decide, c7, fun e => absurd e (by decide), fun e => absurd e (by decide), fun e => absurd e (by decide), fun e => absurd e (by decide)⟩
  by_cases c9 : cs p = 100
  · exact Or.inr ⟨9, by decide, c9, fun e => absurd e (by decide), fun e => absurd e (by decide), fun e => absurd e (by decide), fun e => absurd e (by decide)⟩
  refine Or.inl (fun k hk => ?_)
  obtain rfl | rfl | rfl | rfl | rfl | rfl | rfl | rfl | rfl | rfl : k = 0 ∨ k = 1 ∨ k = 2 ∨ k = 3 ∨ k = 4 ∨ k = 5 ∨ k = 6 ∨ k = 7 ∨ k = 8 ∨ k = 9 := by omega
  all_goals assumption
theorem fit_2 (c d : Nat) (l : List Nat) (h : cs (p + 1) ≠ d) : fit cs (c :: d :: l) p ≤ 1 := by
  unfold fit
  split
  · unfold fit
    rw [if_neg h]
    omega
  · omega
theorem fit_1 (c : Nat) (l : List Nat) (h : cs p = c) : 1 ≤ fit cs (c :: l) p := by
  unfold fit
  rw [if_pos h]
  omega
theorem sel_1 {k : Nat} (h : sel cs k p) : 1 ≤ fit cs (Wk k) p := by
  obtain ⟨hk, h1, _⟩ := h
  have e : ∀ l : List Nat, l ≠ [] → cs p = l.headD 0 → 1 ≤ fit cs l p := by
    intro l a b
    cases l with
    | nil => exact absurd rfl a
    | cons c l => exact fit_1 c l b
  exact e _ ((by decide : ∀ k, k < 10 → Wk k ≠ []) k hk) h1
theorem sel_sep {k : Nat} (h : sel cs k p) (j : Nat) (hj : j < 10) (hn : j ≠ k) : fit cs (Wk j) p ≤ fit cs (Wk k) p ∧ fit cs (Wk j) p ≤ 1 := by
  have h1 := sel_1 h
  obtain ⟨hk, e, a3, a8, a4, a5⟩ := h
  suffices x : fit cs (Wk j) p ≤ 1 by omega
  by_cases c : cs p = (Wk j).headD 0
  · have t : ∀ k, k < 10 → ∀ j, j < 10 → (j = k ∨ (Wk k).headD 0 ≠ (Wk j).headD 0) ∨ ((k = 3 ∧ j = 8) ∨ (k = 8 ∧ j = 3) ∨ (k = 4 ∧ j = 5) ∨ (k = 5 ∧ j = 4)) := by decide
    rcases (t k hk j hj).resolve_left (fun g => g.elim hn (fun g => g (e.symm.trans c))) with ⟨rfl, rfl⟩ | ⟨rfl, rfl⟩ | ⟨rfl, rfl⟩ | ⟨rfl, rfl⟩
    · exact fit_2 115 116 _ (by rw [a3 rfl]; decide)
    · exact fit_2 115 119 _ (a8 rfl)
    · exact fit_2 109 101 _ (by rw [a4 rfl]; decide)
    · exact fit_2 109 105 _ (a5 rfl)
  · rw [fit_hd cs p j hj c]; omega
end WORD
