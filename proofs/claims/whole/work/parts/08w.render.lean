/-! both renders, whole -/
theorem lenA (a b : List Nat) : (a ++ b).length = a.length + b.length := List.length_append
theorem dg_2 {v : Nat} (h : v < 100) : (dg v).length ≤ 2 := by rcases dg_len v with h1 | h1 | h1 | h1 | h1 <;> omega
theorem dg_1 {v : Nat} (h : v < 10) : (dg v).length ≤ 1 := by rcases dg_len v with h1 | h1 | h1 | h1 | h1 <;> omega
theorem dg_5 (v : Nat) : (dg v).length ≤ 5 := by rcases dg_len v with h1 | h1 | h1 | h1 | h1 <;> omega
theorem tn0 : (0 : Int32).toNatClampNeg = 0 := rfl
theorem tn1 : (1 : Int32).toNatClampNeg = 1 := rfl
theorem tn2 : (2 : Int32).toNatClampNeg = 2 := rfl
theorem w_renderVault {G : GS} (I : Inv G) (a1 : Int32) {PL : Int32 → GS → Prop} (h : ∀ c G', wpX9_renderVault (FIN Inv c) a1 G' → PL c G') : wpL_renderVault PL a1 G := by
  obtain ⟨n, R, A, B, C, M, T⟩ := I.1
  have h5 := B.1
  have bad : a1 < 0 ∨ nI n ≤ a1 → wpL_renderVault PL a1 G := fun hx => by
    unfold wpL_renderVault wpX8_renderVault
    refine s_atF C hx ?_
    refine ifT rfl (h _ _ ?_)
    unfold wpX9_renderVault
    rintro G1 rfl
    exact m_isF (th_M0 M).1 h5 hx (ifT rfl (m_fails (finEq I (by decide))))
  rcases pk_ix a1 (n := n) (by omega) with hx | hx | ⟨v, hv, rfl⟩
  · exact bad (Or.inl hx)
  · exact bad (Or.inr hx)
  clear bad
  have hv5 : v < 5 := by omega
  have q0 : A v 0 < 100 := by have := B.2.2.1 v 0 hv5 (by decide); simp only [ub] at this; simp at this; omega
  have q1 : A v 1 < 100 := by have := B.2.2.1 v 1 hv5 (by decide); simp only [ub] at this; simp at this; omega
  have q2 : A v 2 < 100 := by have := B.2.2.1 v 2 hv5 (by decide); simp only [ub] at this; simp at this; omega
  have q3 : A v 3 < 100 := by have := B.2.2.1 v 3 hv5 (by decide); simp only [ub] at this; simp at this; omega
  have q4 : A v 4 < 100000 := by have := A_le B hv5 (j := 4) (by decide); omega
  have q5 : A v 5 < 10 := by have := B.2.2.1 v 5 hv5 (by decide); simp only [ub] at this; simp at this; omega
  have q7 : A v 7 < 10 := by have := B.2.2.1 v 7 hv5 (by decide); simp only [ub] at this; simp at this; omega
  have d0 := dg_2 q0
  have d1 := dg_2 q1
  have d2 := dg_2 q2
  have d3 := dg_2 q3
  have d4 := dg_5 (A v 4)
  have d5 := dg_1 q5
  have d7 := dg_1 q7
  -- the model, to any text's end
  have mm : ∀ (Gc : GS) (y : Int64) (t : List Nat), KT G t Gc → t = (if A v 7 = 0 then tv (A v) else tv (A v) ++ [42] ++ dg (A v 7)) → y = (nI t.length).toInt64 → wpX9_renderVault (FIN Inv 0) (nI v) (gL Gc 0 y) := by
    intro Gc y t hc ht hy
    have htl : t.length ≤ 30 := by
      rw [ht]
      split
      · simp only [tv, lenA, List.length_cons, List.length_nil]; omega
      · simp only [tv, lenA, List.length_cons, List.length_nil]; omega
    have Mc : MR (Gc.1 190) n R A := by rw [hc.2.2.2.1 190 (by decide) (by decide)]; exact M
    unfold wpX9_renderVault
    rintro G1 rfl
    refine m_isT (th_M Mc _).1 h5 hv (ifF (by decide) ?_)
    rintro G5 rfl
    generalize hg : gI (gI (gL Gc 0 y) 189 0 0) 189 9 0 = Gs
    have Ms : MR (Gs.1 190) n R A := by rw [← hg, gI_ne _ _ _ (by decide)]; exact th_M Mc _
    have K0 : KM Gs [] Gs := by
      refine ⟨⟨?_, fun i c e => by simp at e⟩, fun _ _ _ => rfl, fun _ _ => rfl, rfl⟩
      rw [← hg, gI_at, upd_at]; rfl
    have row : ∀ {l : List Nat} {G' : GS}, KM Gs l G' → MR (G'.1 190) n R A := fun k => by rw [k.2.1 190 (by decide) (by decide)]; exact Ms
    refine ⟨3 + 1, ?_⟩
    rw [wlX9_renderVault_26]
    refine ifF (by decide) (m_letter (k := 0) (by decide) ?_)
    refine m_writes (ltr_lt 0) K0 (by simp) (fun G2 K => ?_)
    refine m_ofN (j := 0) (row K) B hv (by decide) ?_
    refine m_number (by omega) K (by simp only [lenA, List.length_cons, List.length_nil]; omega) (fun G2 K => ?_)
    rintro z rfl
    rw [wlX9_renderVault_26]
    refine ifF (by decide) (m_letter (k := 1) (by decide) ?_)
    refine m_writes (ltr_lt 1) K (by simp only [lenA, List.length_cons, List.length_nil]; omega) (fun G2 K => ?_)
    refine m_ofN (j := 1) (row K) B hv (by decide) ?_
    refine m_number (by omega) K (by simp only [lenA, List.length_cons, List.length_nil]; omega) (fun G2 K => ?_)
    rintro z rfl
    rw [wlX9_renderVault_26]
    refine ifF (by decide) (m_letter (k := 2) (by decide) ?_)
    refine m_writes (ltr_lt 2) K (by simp only [lenA, List.length_cons, List.length_nil]; omega) (fun G2 K => ?_)
    refine m_ofN (j := 2) (row K) B hv (by decide) ?_
    refine m_number (by omega) K (by simp only [lenA, List.length_cons, List.length_nil]; omega) (fun G2 K => ?_)
    rintro z rfl
    rw [wlX9_renderVault_26]
    refine ifT (by decide) ?_
    refine m_writes (c := 43) (by decide) K (by simp only [lenA, List.length_cons, List.length_nil]; omega) (fun G2 K => ?_)
    refine m_ofN (j := 3) (row K) B hv (by decide) ?_
    refine m_number (by omega) K (by simp only [lenA, List.length_cons, List.length_nil]; omega) (fun G2 K => ?_)
    refine m_writes (c := 126) (by decide) K (by simp only [lenA, List.length_cons, List.length_nil]; omega) (fun G2 K => ?_)
    refine m_ofN (j := 4) (row K) B hv (by decide) ?_
    refine m_number q4 K (by simp only [lenA, List.length_cons, List.length_nil]; omega) (fun G2 K => ?_)
    refine m_writes (c := 119) (by decide) K (by simp only [lenA, List.length_cons, List.length_nil]; omega) (fun G2 K => ?_)
    refine m_ofN (j := 5) (row K) B hv (by decide) ?_
    refine m_number (by omega) K (by simp only [lenA, List.length_cons, List.length_nil]; omega) (fun G2 K => ?_)
    refine m_ofN (j := 7) (row K) B hv (by decide) ?_
    have fin : ∀ Gm : GS, KM Gs t Gm → wbX9_renderVault_130 (FIN Inv 0) (nI v) Gm := by
      intro Gm k
      rw [← hg] at k
      obtain ⟨e1, e2, e3, e4⟩ := ren_end I hc k htl
      unfold wbX9_renderVault_130
      rw [e4]
      exact fin0 e2 (by rw [e3, hy]) e1
    by_cases c : A v 7 = 0
    · rw [if_pos c] at ht
      rw [c]
      exact ifT (by decide) (fin G2 (by rw [ht]; exact K))
    · rw [if_neg c] at ht
      refine ifF (nI_nle (by omega) (by omega)) ?_
      refine m_writes (c := 42) (by decide) K (by simp only [lenA, List.length_cons, List.length_nil]; omega) (fun G2 K => ?_)
      refine m_ofN (j := 7) (row K) B hv (by decide) ?_
      refine m_number (by omega) K (by simp only [lenA, List.length_cons, List.length_nil]; omega) (fun G2 K => ?_)
      exact fin G2 (by rw [ht]; exact K)
  unfold wpL_renderVault wpX8_renderVault
  refine s_atT C B hv ?_
  refine ⟨kd3v hv5, ?_⟩
  have fr : ∀ {l : List Nat} {G' : GS} (q : Nat), KT G l G' → q ≠ 187 → q ≠ 188 → G'.1 q = G.1 q := fun q k => k.2.2.2.1 q
  refine s_set0 I.2.2.2.2.2 (fun G2 K => ?_)
  refine s_letter (k := 0) (by decide) ?_
  refine s_chr (ltr_lt 0) K (by simp) (fun G2 K => ?_)
  refine ⟨rfl, vin3 (k := 0) (by decide) (by omega), ?_⟩
  rw [tn0, fr _ K (by omega) (by omega), cf_h C hv5 0 (by decide)]
  refine s_int (by omega) K (by simp only [lenA, List.length_cons, List.length_nil]; omega) (fun G2 K => ⟨rfl, ?_⟩)
  refine s_letter (k := 1) (by decide) ?_
  refine s_chr (ltr_lt 1) K (by simp only [lenA, List.length_cons, List.length_nil]; omega) (fun G2 K => ?_)
  refine ⟨rfl, vin3 (k := 1) (by decide) (by omega), ?_⟩
  rw [tn1, fr _ K (by omega) (by omega), cf_h C hv5 1 (by decide)]
  refine s_int (by omega) K (by simp only [lenA, List.length_cons, List.length_nil]; omega) (fun G2 K => ⟨rfl, ?_⟩)
  refine s_letter (k := 2) (by decide) ?_
  refine s_chr (ltr_lt 2) K (by simp only [lenA, List.length_cons, List.length_nil]; omega) (fun G2 K => ?_)
  refine ⟨rfl, vin3 (k := 2) (by decide) (by omega), ?_⟩
  rw [tn2, fr _ K (by omega) (by omega), cf_h C hv5 2 (by decide)]
  refine s_int (by omega) K (by simp only [lenA, List.length_cons, List.length_nil]; omega) (fun G2 K => ⟨rfl, ?_⟩)
  refine s_chr (c := 43) (by decide) K (by simp only [lenA, List.length_cons, List.length_nil]; omega) (fun G2 K => ⟨rfl, ?_⟩)
  rw [fr _ K (by omega) (by omega), cf_1 C hv5]
  refine s_int (by omega) K (by simp only [lenA, List.length_cons, List.length_nil]; omega) (fun G2 K => ⟨rfl, ?_⟩)
  refine s_chr (c := 126) (by decide) K (by simp only [lenA, List.length_cons, List.length_nil]; omega) (fun G2 K => ⟨rfl, ?_⟩)
  rw [fr _ K (by omega) (by omega), cf_2 C hv5]
  refine s_int q4 K (by simp only [lenA, List.length_cons, List.length_nil]; omega) (fun G2 K => ⟨rfl, ?_⟩)
  refine s_chr (c := 119) (by decide) K (by simp only [lenA, List.length_cons, List.length_nil]; omega) (fun G2 K => ⟨rfl, ?_⟩)
  rw [fr _ K (by omega) (by omega), cf_3 C hv5]
  refine s_int (by omega) K (by simp only [lenA, List.length_cons, List.length_nil]; omega) (fun G2 K => ⟨rfl, ?_⟩)
  have C2 : CR (lg G2.1 0) n R A := by rw [lg_same (M := G.1) (fun q _ hq => fr q K (by omega) (by omega))]; exact C
  refine s_frozen C2 B hv5 ?_
  by_cases c : A v 7 = 0
  · rw [if_pos c]
    refine ifT rfl ?_
    unfold wpJ4_length_8abf5 wpJ5_length_8abf5
    rw [K.1.2.1]
    refine ⟨vin01, ?_⟩
    rintro G5 rfl
    exact h _ _ (mm G2 _ _ K (by rw [if_pos c]; rfl) rfl)
  · rw [if_neg c]
    refine ifF (by decide) ?_
    refine s_chr (c := 42) (by decide) K (by simp only [lenA, List.length_cons, List.length_nil]; omega) (fun G2 K => ⟨rfl, ?_⟩)
    rw [fr _ K (by omega) (by omega), cf_5 C hv5]
    refine s_int (by omega) K (by simp only [lenA, List.length_cons, List.length_nil]; omega) (fun G2 K => ⟨rfl, ?_⟩)
    unfold wpJ4_length_8abf5 wpJ5_length_8abf5
    rw [K.1.2.1]
    refine ⟨vin01, ?_⟩
    rintro G5 rfl
    exact h _ _ (mm G2 _ _ K (by rw [if_neg c]; rfl) rfl)
theorem k_law_42 {L : Nat} {xs : Nat → Int32} {v5 : Int32} {G : GS} (I : Inv G) (hv : ∀ j, j < 5 → vp_in (v5 + nI j) L) : wpL_law_42 Inv L xs v5 G :=
  ⟨hv 1 (by decide), w_renderVault I _ (fun c G' y => ⟨hv 1 (by decide), y⟩)⟩
