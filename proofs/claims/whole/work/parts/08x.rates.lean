/-! the rates' text -/
theorem ren_end2 {G Gc Gm : GS} {t : List Nat} (I : Inv G) (hc : KT G t Gc) (hm : KM (gI (gI Gc 189 0 0) 189 9 0) t Gm) (ht : t.length ≤ 30) : Inv Gm ∧ Gm.1 189 9 = nI t.length := by
  obtain ⟨⟨a1, a2, a3, a4⟩, b1, b2, c1, c2⟩ := hc
  obtain ⟨⟨d1, d2⟩, e1, e2, e3⟩ := hm
  have m87 : Gm.1 187 = Gc.1 187 := by rw [e1 _ (by decide) (by decide), gI_ne _ _ _ (by decide), gI_ne _ _ _ (by decide)]
  have m88 : Gm.1 188 = Gc.1 188 := by rw [e1 _ (by decide) (by decide), gI_ne _ _ _ (by decide), gI_ne _ _ _ (by decide)]
  refine ⟨Inv_out I (fun q x1 x2 x3 x4 => ?_) (fun k x1 x2 => ?_) ?_, d1⟩
  · rw [e1 q x3 x4, gI_ne _ _ _ x3, gI_ne _ _ _ x3, c1 q x1 x2]
  · rw [e2 k x2, gI_at, upd_ne _ _ x2, gI_at, upd_ne _ _ x1, c1 189 (by decide) (by decide)]
  · rw [show Gm.2.1.2 = Gc.2.1.2 by rw [e3]; rfl]
    unfold OI
    rw [m87, m88]
    refine ⟨a1, b1, a3, t.length, ht, b2, a2, d1, fun i hi => ?_⟩
    obtain ⟨x1, x2⟩ := a4 i _ (List.getElem?_eq_getElem hi)
    exact ⟨t[i], x2, x1, d2 i _ (List.getElem?_eq_getElem hi)⟩
theorem rr_one {post : Int32 → GS → Prop} {K12 : GS → Int32 → Prop} {Gs G : GS} {n : Nat} {R : Nat → Nat} {A : Nat → Nat → Nat} {l : List Nat} {k : Nat} (B : NB n R A) (hk : k < 3) (M : MR (Gs.1 190) n R A) (I : KM Gs l G) (hl : l.length ≤ 20) (h : ∀ G', KM Gs (l ++ [ltr k] ++ dg (R k)) G' → K12 G' (nI (k + 1))) : wbX9_renderRates_27 post K12 G (nI k) := by
  have Rk := B.2.1 k hk
  unfold wbX9_renderRates_27
  refine m_letter hk ?_
  refine m_writes (ltr_lt k) I (by omega) (fun G2 K => ?_)
  rw [show (2 : Int32) = nI 2 from rfl, nI_add, nI_clamp (by omega), K.2.1 190 (by decide) (by decide), M.2.1 k hk]
  refine ⟨in56 (by omega), m_number (by omega) K (by simp only [lenA, List.length_cons, List.length_nil]; omega) (fun G2 K => ?_)⟩
  rintro z rfl
  rw [nI_1]
  exact h G2 K
theorem k_law_43 {L : Nat} {xs : Nat → Int32} {v5 : Int32} {G : GS} (I : Inv G) : wpL_law_43 Inv L xs v5 G := by
  obtain ⟨n, R, A, B, C, M, T⟩ := I.1
  have q0 := B.2.1 0 (by decide)
  have q1 := B.2.1 1 (by decide)
  have q2 := B.2.1 2 (by decide)
  have d0 := dg_2 (v := R 0) (by omega)
  have d1 := dg_2 (v := R 1) (by omega)
  have d2 := dg_2 (v := R 2) (by omega)
  have htl : (tr R).length ≤ 30 := by simp only [tr, lenA, List.length_cons, List.length_nil]; omega
  have fr : ∀ {l : List Nat} {G' : GS} (q : Nat), KT G l G' → q ≠ 187 → q ≠ 188 → G'.1 q = G.1 q := fun q k => k.2.2.2.1 q
  unfold wpL_law_43 wpX8_renderRates
  refine s_set0 I.2.2.2.2.2 (fun G2 K => ?_)
  refine s_letter (k := 0) (by decide) ?_
  refine s_chr (ltr_lt 0) K (by simp) (fun G2 K => ?_)
  refine ⟨rfl, vin3 (k := 0) (by decide) (by omega), ?_⟩
  rw [tn0, fr _ K (by omega) (by omega), cf_r C 0 (by decide)]
  refine s_int (by omega) K (by simp only [lenA, List.length_cons, List.length_nil]; omega) (fun G2 K => ⟨rfl, ?_⟩)
  refine s_chr (c := 44) (by decide) K (by simp only [lenA, List.length_cons, List.length_nil]; omega) (fun G2 K => ⟨rfl, ?_⟩)
  refine s_letter (k := 1) (by decide) ?_
  refine s_chr (ltr_lt 1) K (by simp only [lenA, List.length_cons, List.length_nil]; omega) (fun G2 K => ?_)
  refine ⟨rfl, vin3 (k := 1) (by decide) (by omega), ?_⟩
  rw [tn1, fr _ K (by omega) (by omega), cf_r C 1 (by decide)]
  refine s_int (by omega) K (by simp only [lenA, List.length_cons, List.length_nil]; omega) (fun G2 K => ⟨rfl, ?_⟩)
  refine s_chr (c := 44) (by decide) K (by simp only [lenA, List.length_cons, List.length_nil]; omega) (fun G2 K => ⟨rfl, ?_⟩)
  refine s_letter (k := 2) (by decide) ?_
  refine s_chr (ltr_lt 2) K (by simp only [lenA, List.length_cons, List.length_nil]; omega) (fun G2 K => ?_)
  refine ⟨rfl, vin3 (k := 2) (by decide) (by omega), ?_⟩
  rw [tn2, fr _ K (by omega) (by omega), cf_r C 2 (by decide)]
  refine s_int (by omega) K (by simp only [lenA, List.length_cons, List.length_nil]; omega) (fun Gc Kc => ⟨rfl, ?_⟩)
  unfold wpJ4_length_8abf5 wpJ5_length_8abf5
  rw [Kc.1.2.1]
  show wpX9_renderRates _ Gc
  have Mc : MR (Gc.1 190) n R A := by rw [Kc.2.2.2.1 190 (by decide) (by decide)]; exact M
  unfold wpX9_renderRates
  rintro G1 rfl G5 rfl
  generalize hg : gI (gI Gc 189 0 0) 189 9 0 = Gs
  have Ms : MR (Gs.1 190) n R A := by rw [← hg, gI_ne _ _ _ (by decide)]; exact th_M0 Mc
  have K0 : KM Gs [] Gs := by
    refine ⟨⟨?_, fun i c e => by simp at e⟩, fun _ _ _ => rfl, fun _ _ => rfl, rfl⟩
    rw [← hg, gI_at, upd_at]; rfl
  refine ⟨3 + 1, ?_⟩
  rw [wlX9_renderRates_12]
  refine ifF (by decide) (ifT (by decide) (rr_one (k := 0) B (by decide) Ms K0 (by simp) (fun G2 K => ?_)))
  rw [wlX9_renderRates_12]
  refine ifF (by decide) (ifF (by decide) (m_writes (c := 44) (by decide) K (by simp only [lenA, List.length_cons, List.length_nil]; omega) (fun G2 K => ?_)))
  refine rr_one (k := 1) B (by decide) Ms K (by simp only [lenA, List.length_cons, List.length_nil]; omega) (fun G2 K => ?_)
  rw [wlX9_renderRates_12]
  refine ifF (by decide) (ifF (by decide) (m_writes (c := 44) (by decide) K (by simp only [lenA, List.length_cons, List.length_nil]; omega) (fun G2 K => ?_)))
  refine rr_one (k := 2) B (by decide) Ms K (by simp only [lenA, List.length_cons, List.length_nil]; omega) (fun Gm K => ?_)
  rw [wlX9_renderRates_12]
  rw [← hg] at K
  obtain ⟨e1, e4⟩ := ren_end2 I Kc K htl
  refine ifT (by decide) ?_
  rw [e4]
  exact ifT rfl e1
