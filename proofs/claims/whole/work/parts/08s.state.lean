/-! undo, save, restore, the error's places, a typed character, the output's characters -/
theorem k_law_47 {L : Nat} {xs : Nat → Int32} {v5 : Int32} {G : GS} (I : Inv G) : wpL_law_47 Inv L xs v5 G := by
  obtain ⟨⟨e1, e2⟩, _⟩ := I.2.2.2.1
  unfold wpL_law_47 wpL_errorPosition wpX8_errorPosition
  rw [e1]
  have e9 : (gI G 189 0 0).1 189 13 = G.1 189 13 := by rw [gI_at, upd_ne _ _ (by decide)]
  have e9' : ∀ y, (gI (gL G 0 y) 189 0 0).1 189 13 = G.1 189 13 := fun y => by rw [gI_at, upd_ne _ _ (by decide), gL_1]
  rcases e2 with e2 | ⟨x, hx, e2⟩
  · refine ifT e2 (ifT rfl ?_)
    show wpX9_errorPosition (FIN Inv 1) G
    unfold wpX9_errorPosition
    rintro G1 rfl
    rw [e9, e2]
    exact ifF (by decide) (m_fails (finEq I (by decide)))
  · refine ifF (by rw [e2]; exact fun g => absurd (nI_pos' (n := x) (by omega)) (by rw [g]; decide)) ⟨vin01, ?_⟩
    rintro G5 rfl
    show wpX9_errorPosition (FIN Inv 0) (gL G 0 _)
    unfold wpX9_errorPosition
    rintro G1 rfl
    rw [e9']
    exact ifT (by rw [e2]; exact nI_pos' (by omega)) (fin0q I rfl)
theorem k_law_48 {L : Nat} {xs : Nat → Int32} {v5 : Int32} {G : GS} (I : Inv G) : wpL_law_48 Inv L xs v5 G := by
  obtain ⟨_, ⟨e1, e2⟩⟩ := I.2.2.2.1
  unfold wpL_law_48 wpL_failedCommand wpX8_failedCommand
  rw [e1]
  have e9 : (gI G 189 0 0).1 189 14 = G.1 189 14 := by rw [gI_at, upd_ne _ _ (by decide)]
  have e9' : ∀ y, (gI (gL G 0 y) 189 0 0).1 189 14 = G.1 189 14 := fun y => by rw [gI_at, upd_ne _ _ (by decide), gL_1]
  rcases e2 with e2 | ⟨x, hx, e2⟩
  · refine ifT e2 (ifT rfl ?_)
    show wpX9_failedCommand (FIN Inv 1) G
    unfold wpX9_failedCommand
    rintro G1 rfl
    rw [e9, e2]
    exact ifF (by decide) (m_fails (finEq I (by decide)))
  · refine ifF (by rw [e2]; exact fun g => absurd (nI_pos' (n := x) (by omega)) (by rw [g]; decide)) ⟨vin01, ?_⟩
    rintro G5 rfl
    show wpX9_failedCommand (FIN Inv 0) (gL G 0 _)
    unfold wpX9_failedCommand
    rintro G1 rfl
    rw [e9']
    exact ifT (by rw [e2]; exact nI_pos' (by omega)) (fin0q I rfl)
theorem k_law_49 {L : Nat} {xs : Nat → Int32} {v5 : Int32} {G : GS} (I : Inv G) : wpL_law_49 Inv L xs v5 G := by
  have I0 := I
  obtain ⟨Ia, ⟨j, s, f, hj, hs, hf, h1, h2, h5, h6, old⟩, Is, Ie, Ix, Io⟩ := I
  unfold wpL_law_49 wpL_undo wpX8_undo
  rw [h2]
  by_cases c : s = 0
  · subst c
    refine ifT rfl (ifT rfl ?_)
    show wpX9_undo (FIN Inv 1) G
    unfold wpX9_undo
    rintro G1 rfl
    refine ifT ?_ (m_fails (finEq I0 (by decide)))
    rw [gI_at, upd_ne _ _ (by decide), h5]; rfl
  · have ne : nI s ≠ 0 := nI_ne0 (by omega) (by omega)
    refine ifF ne ?_
    unfold wpX2_takeBack
    rw [h1, nI_clamp (by omega)]
    refine ⟨vp_in_nI hj (by decide), s_copy (by omega) (by omega) (by omega) (fun G2 g2 => ?_)⟩
    obtain ⟨u1, u2, u3⟩ := g2
    have a1 : G2.1 166 1 = nI j := by rw [u2 166 (by omega)]; exact h1
    have a2 : G2.1 166 2 = nI s := by rw [u2 166 (by omega)]; exact h2
    rintro G4 rfl G5 rfl
    rw [a1, show nI j + 8 - 1 = nI (j + 7) by rw [show (8 : Int32) = nI 8 from rfl, nI_add]; exact pk_sub (b := 1) (by omega), mod8 (by omega), gI_at, gI_at, upd_at, upd_ne _ _ (show 2 ≠ 1 by decide), a2, show nI s - 1 = nI (s - 1) from pk_sub (b := 1) (by omega)]
    refine ⟨vin01, ?_⟩
    rintro G6 rfl
    show wpX9_undo (FIN Inv 0) (gL (gI (gI G2 166 1 (nI ((j + 7) % 8))) 166 2 (nI (s - 1))) 0 (nI (s - 1)).toInt64)
    generalize hG : gI (gI G2 166 1 (nI ((j + 7) % 8))) 166 2 (nI (s - 1)) = G7
    have b1 : G7.1 166 1 = nI ((j + 7) % 8) := by rw [← hG, gI_at, upd_ne _ _ (by decide), gI_at, upd_at]
    have b2 : G7.1 166 2 = nI (s - 1) := by rw [← hG, gI_at, upd_at]
    have b3 : ∀ q, q ≠ 166 → G7.1 q = G2.1 q := fun q hq => by rw [← hG, gI_ne _ _ _ hq, gI_ne _ _ _ hq]
    have b4 : G7.2 = G2.2 := by rw [← hG]; rfl
    have b9 : G7.1 189 = G.1 189 := by rw [b3 _ (by decide), u2 189 (by omega)]
    unfold wpX9_undo
    rintro G1 rfl
    rw [show (gI (gL G7 0 (nI (s - 1)).toInt64) 189 0 0).1 189 5 = nI s by rw [gI_at, upd_ne _ _ (by decide), gL_1, b9]; exact h5]
    refine ifF ne ?_
    rintro G3 rfl z rfl
    rw [show nI s - 1 = nI (s - 1) from pk_sub (b := 1) (by omega)]
    have c5 : (gI (gI (gL G7 0 (nI (s - 1)).toInt64) 189 0 0) 189 5 (nI (s - 1))).1 189 5 = nI (s - 1) := by rw [gI_at, upd_at]
    have c6 : (gI (gI (gL G7 0 (nI (s - 1)).toInt64) 189 0 0) 189 5 (nI (s - 1))).1 189 6 = nI f := by
      rw [gI_at, upd_ne _ _ (by decide), gI_at, upd_ne _ _ (by decide), gL_1, b9]; exact h6
    rw [c5, c6, nI_add, mod8 (by omega)]
    have hm := Nat.mod_lt (f + (s - 1)) (show 0 < 8 by decide)
    refine ⟨56 + 1, lp_undo hm (fun G8 g8 => ?_) 56 0 _ rfl (CP_0 _ _ _ _)⟩
    obtain ⟨w1, w2, w3, w4⟩ := g8
    have k9 : ∀ k, k ≠ 0 → k ≠ 5 → G8.1 189 k = G.1 189 k := fun k k0 k5 => by
      rw [w3 189 (by decide), gI_at, upd_ne _ _ k5, gI_at, upd_ne _ _ k0, gL_1, b9]
    have k5 : G8.1 189 5 = nI (s - 1) := by rw [w3 189 (by decide)]; exact c5
    have far : ∀ q, q ≠ 190 → q ≠ 189 → q ≠ 166 → 15 ≤ q → G8.1 q = G.1 q := fun q q1 q2 q3 q4 => by
      rw [w3 q q1, gI_ne _ _ _ q2, gI_ne _ _ _ q2, gL_1, b3 q q3, u2 q (by omega)]
    have n66 : G8.1 166 = G7.1 166 := by rw [w3 166 (by decide), gI_ne _ _ _ (by decide), gI_ne _ _ _ (by decide), gL_1]
    have n65 := far 165 (by decide) (by decide) (by decide) (by decide)
    rw [k5]
    refine fin0 ?_ ?_ ⟨?_, ?_, ?_, ?_, ?_, ?_⟩
    · rw [w3 189 (by decide), gI_at, upd_ne _ _ (by decide), gI_at, upd_at]
    · rw [w4]; exact gL_at _ _
    · have o := old 0 (by omega)
      rw [show (j + 8 - 0) % 8 = j by omega, Nat.sub_zero] at o
      rw [lg_same (M := G2.1) (fun q _ hq => by rw [w3 q (by omega), gI_ne _ _ _ (by omega), gI_ne _ _ _ (by omega), gL_1, b3 q (by omega)]), u1]
      refine RBx_cong o (fun k hk => ?_)
      have := w1 k hk
      rw [Nat.zero_add] at this
      rw [this, gI_ne _ _ _ (by decide), gI_ne _ _ _ (by decide), gL_1, b3 191 (by decide), u2 191 (by omega), show (f + s + 7) % 8 = (f + (s - 1)) % 8 by omega]
    · refine ⟨(j + 7) % 8, s - 1, f, Nat.mod_lt _ (by decide), by omega, hf, by rw [n66]; exact b1, by rw [n66]; exact b2, k5, by rw [k9 6 (by decide) (by decide)]; exact h6, fun i hi => ?_⟩
      have o := old (i + 1) (by omega)
      have hm2 := Nat.mod_lt ((j + 7) % 8 + 8 - i) (show 0 < 8 by decide)
      rw [lg_same (M := G.1) (fun q a b => far q (by omega) (by omega) (by omega) (by omega)), far 191 (by decide) (by decide) (by decide) (by decide), show ((j + 7) % 8 + 8 - i) % 8 = (j + 8 - (i + 1)) % 8 by omega, show f + (s - 1) + 7 - i = f + s + 7 - (i + 1) by omega]
      exact o
    · exact SI_fr Is (fun q a b => far q (by omega) (by omega) (by omega) (by omega)) (by rw [n65]) (k9 _ (by decide) (by decide)) (far 192 (by decide) (by decide) (by decide) (by decide))
    · exact EI_fr Ie (by rw [n65]) (by rw [n65]) (k9 _ (by decide) (by decide)) (k9 _ (by decide) (by decide))
    · exact XI_fr Ix (by rw [far 168 (by decide) (by decide) (by decide) (by decide)]) (far 169 (by decide) (by decide) (by decide) (by decide)) (k9 _ (by decide) (by decide)) (far 195 (by decide) (by decide) (by decide) (by decide))
    · rw [show G8.2.1.2 = G.2.1.2 by rw [w4]; show G7.2.1.2 = _; rw [b4, u3]]
      exact OI_fr Io (far 187 (by decide) (by decide) (by decide) (by decide)) (far 188 (by decide) (by decide) (by decide) (by decide)) (k9 _ (by decide) (by decide)) (far 194 (by decide) (by decide) (by decide) (by decide))
theorem k_law_50 {L : Nat} {xs : Nat → Int32} {v5 : Int32} {G : GS} (I : Inv G) : wpL_law_50 Inv L xs v5 G := by
  obtain ⟨Ia, Ih, Is, Ie, Ix, Io⟩ := I
  unfold wpL_law_50 wpX8_save
  refine s_copy (by omega) (by omega) (by omega) (fun G2 g2 => ?_)
  obtain ⟨u1, u2, u3⟩ := g2
  rintro G3 rfl
  show wpX9_save _ _
  have e04 : (gI G2 165 6 1).1 0 4 = G.1 0 4 := by rw [gI_ne _ _ _ (by decide), u2 0 (by omega)]
  unfold wpX9_save
  rintro G1 rfl
  refine ⟨56 + 1, lp_save (fun G8 g8 => ?_) 56 0 _ rfl (CP_0 _ _ _ _)⟩
  obtain ⟨w1, w2, w3, w4⟩ := g8
  have far : ∀ q, (q < 15 ∨ 30 ≤ q) → q ≠ 165 → q ≠ 189 → q ≠ 192 → (gI G8 189 7 1).1 q = G.1 q := fun q a b c d => by
    rw [gI_ne _ _ _ c, w3 q d, gI_ne _ _ _ c, gI_ne _ _ _ b, u2 q (by omega)]
  have e190 : G8.1 190 = G.1 190 := by rw [w3 190 (by decide), gI_ne _ _ _ (by decide), gI_ne _ _ _ (by decide), u2 190 (by omega)]
  have k9 : ∀ k, k ≠ 0 → k ≠ 7 → (gI G8 189 7 1).1 189 k = G.1 189 k := fun k a b => by
    rw [gI_at, upd_ne _ _ b, w3 189 (by decide), gI_at, upd_ne _ _ a, gI_ne _ _ _ (by decide), u2 189 (by omega)]
  have k65 : ∀ k, k ≠ 6 → (gI G8 189 7 1).1 165 k = G.1 165 k := fun k a => by
    rw [gI_ne _ _ _ (by decide), w3 165 (by decide), gI_ne _ _ _ (by decide), gI_at, upd_ne _ _ a, u2 165 (by omega)]
  rw [e190, e04]
  refine ifT ?_ ⟨?_, ?_, ?_, ?_, ?_, ?_⟩
  · obtain ⟨n, R, A, B, C, M, T⟩ := Ia
    exact (cf_n C).trans M.1.symm
  · rw [lg_same (M := G.1) (fun q _ hq => far q (by omega) (by omega) (by omega) (by omega)), far 190 (by decide) (by decide) (by decide) (by decide)]
    exact Ia
  · exact HI_fr Ih (fun q a b => far q (by omega) (by omega) (by omega) (by omega)) (far 166 (by decide) (by decide) (by decide) (by decide)) (far 191 (by decide) (by decide) (by decide) (by decide)) (k9 _ (by decide) (by decide)) (k9 _ (by decide) (by decide))
  · refine Or.inr ⟨?_, ?_, ?_⟩
    · rw [gI_ne _ _ _ (by decide), w3 165 (by decide), gI_ne _ _ _ (by decide), gI_at, upd_at]
    · rw [gI_at, upd_at]
    · rw [lg_same (M := G2.1) (fun q a b => by rw [gI_ne _ _ _ (by omega), w3 q (by omega), gI_ne _ _ _ (by omega), gI_ne _ _ _ (by omega)]), u1]
      refine RBx_cong Ia (fun k hk => ?_)
      have := w1 k hk
      rw [Nat.zero_add] at this
      rw [gI_ne _ _ _ (by decide), this, gI_ne _ _ _ (by decide), gI_ne _ _ _ (by decide), u2 190 (by omega)]
  · exact EI_fr Ie (k65 _ (by decide)) (k65 _ (by decide)) (k9 _ (by decide) (by decide)) (k9 _ (by decide) (by decide))
  · exact XI_fr Ix (by rw [far 168 (by decide) (by decide) (by decide) (by decide)]) (far 169 (by decide) (by decide) (by decide) (by decide)) (k9 _ (by decide) (by decide)) (far 195 (by decide) (by decide) (by decide) (by decide))
  · rw [show (gI G8 189 7 1).2.1.2 = G.2.1.2 by show G8.2.1.2 = _; rw [w4]; show G2.2.1.2 = _; rw [u3]]
    exact OI_fr Io (far 187 (by decide) (by decide) (by decide) (by decide)) (far 188 (by decide) (by decide) (by decide) (by decide)) (k9 _ (by decide) (by decide)) (far 194 (by decide) (by decide) (by decide) (by decide))
theorem k_law_51 {L : Nat} {xs : Nat → Int32} {v5 : Int32} {G : GS} (I : Inv G) : wpL_law_51 Inv L xs v5 G := by
  have I0 := I
  obtain ⟨Ia, ⟨j, s, f, hj, hs, hf, h1, h2, h5, h6, old⟩, Is, Ie, Ix, Io⟩ := I
  unfold wpL_law_51 wpL_restore wpX8_restore
  rcases Is with ⟨i1, i2⟩ | ⟨i1, i2, i3⟩
  · refine ifT i1 (ifT rfl ?_)
    show wpX9_restore (FIN Inv 1) G
    unfold wpX9_restore
    rintro G1 rfl
    refine ifT ?_ (m_fails (finEq I0 (by decide)))
    rw [gI_at, upd_ne _ _ (by decide), i2]
  · refine ifF (by rw [i1]; decide) (s_copy (by omega) (by omega) (by omega) (fun G2 g2 => ?_))
    obtain ⟨u1, u2, u3⟩ := g2
    rintro G3 rfl
    refine ⟨vin01, ?_⟩
    rintro G6 rfl
    have e04 : (gI G2 166 2 0).1 0 4 = lg G.1 15 0 := by rw [gI_ne _ _ _ (by decide), ← lg_0 G2.1 0, u1]
    rw [e04]
    show wpX9_restore (FIN Inv 0) (gL (gI G2 166 2 0) 0 (lg G.1 15 0).toInt64)
    generalize hG : gI G2 166 2 0 = G7
    have b2 : G7.1 166 2 = 0 := by rw [← hG, gI_at, upd_at]
    have b1 : G7.1 166 1 = nI j := by rw [← hG, gI_at, upd_ne _ _ (by decide), u2 166 (by omega)]; exact h1
    have b3 : ∀ q, q ≠ 166 → G7.1 q = G2.1 q := fun q hq => by rw [← hG, gI_ne _ _ _ hq]
    have b4 : G7.2 = G2.2 := by rw [← hG]; rfl
    have b9 : G7.1 189 = G.1 189 := by rw [b3 _ (by decide), u2 189 (by omega)]
    unfold wpX9_restore
    rintro G1 rfl
    refine ifF ?_ ⟨56 + 1, lp_restore (fun G8 g8 => ?_) 56 0 _ rfl (CP_0 _ _ _ _)⟩
    · rw [gI_at, upd_ne _ _ (by decide), gL_1, b9, i2]; decide
    obtain ⟨w1, w2, w3, w4⟩ := g8
    have far : ∀ q, q ≠ 190 → q ≠ 189 → q ≠ 166 → 15 ≤ q → (gI (gI G8 189 5 0) 189 6 0).1 q = G.1 q := fun q q1 q2 q3 q4 => by
      rw [gI_ne _ _ _ q2, gI_ne _ _ _ q2, w3 q q1, gI_ne _ _ _ q2, gL_1, b3 q q3, u2 q (by omega)]
    have k9 : ∀ k, k ≠ 0 → k ≠ 5 → k ≠ 6 → (gI (gI G8 189 5 0) 189 6 0).1 189 k = G.1 189 k := fun k a b c => by
      rw [gI_at, upd_ne _ _ c, gI_at, upd_ne _ _ b, w3 189 (by decide), gI_at, upd_ne _ _ a, gL_1, b9]
    have n65 := far 165 (by decide) (by decide) (by decide) (by decide)
    have row : ∀ k, k < 56 → G8.1 190 k = G.1 192 k := fun k hk => by
      have := w1 k hk
      rw [Nat.zero_add] at this
      rw [this, gI_ne _ _ _ (by decide), gL_1, b3 192 (by decide), u2 192 (by omega)]
    refine fin0 ?_ ?_ ⟨?_, ?_, ?_, ?_, ?_, ?_⟩
    · rw [gI_at, upd_ne _ _ (by decide), gI_at, upd_ne _ _ (by decide), w3 189 (by decide), gI_at, upd_at]
    · obtain ⟨n, R, A, B, C, M, T⟩ := i3
      rw [row 0 (by decide), M.1, ← C.1]
      show G8.2.2.1 0 = _
      rw [w4]; exact gL_at _ _
    · rw [lg_same (M := G2.1) (fun q _ hq => by rw [gI_ne _ _ _ (by omega), gI_ne _ _ _ (by omega), w3 q (by omega), gI_ne _ _ _ (by omega), gL_1, b3 q (by omega)]), u1, gI_ne _ _ _ (by decide), gI_ne _ _ _ (by decide)]
      exact RBx_cong i3 row
    · refine ⟨j, 0, 0, hj, by decide, by decide, ?_, ?_, ?_, ?_, fun i hi => absurd hi (Nat.not_lt_zero i)⟩
      · rw [gI_ne _ _ _ (by decide), gI_ne _ _ _ (by decide), w3 166 (by decide), gI_ne _ _ _ (by decide), gL_1]; exact b1
      · rw [gI_ne _ _ _ (by decide), gI_ne _ _ _ (by decide), w3 166 (by decide), gI_ne _ _ _ (by decide), gL_1]; exact b2
      · rw [gI_at, upd_ne _ _ (by decide), gI_at, upd_at]; rfl
      · rw [gI_at, upd_at]; rfl
    · refine Or.inr ⟨by rw [n65]; exact i1, by rw [k9 7 (by decide) (by decide) (by decide)]; exact i2, ?_⟩
      rw [lg_same (M := G.1) (fun q a b => far q (by omega) (by omega) (by omega) (by omega)), far 192 (by decide) (by decide) (by decide) (by decide)]
      exact i3
    · exact EI_fr Ie (by rw [n65]) (by rw [n65]) (k9 _ (by decide) (by decide) (by decide)) (k9 _ (by decide) (by decide) (by decide))
    · exact XI_fr Ix (by rw [far 168 (by decide) (by decide) (by decide) (by decide)]) (far 169 (by decide) (by decide) (by decide) (by decide)) (k9 _ (by decide) (by decide) (by decide)) (far 195 (by decide) (by decide) (by decide) (by decide))
    · rw [show (gI (gI G8 189 5 0) 189 6 0).2.1.2 = G.2.1.2 by show G8.2.1.2 = _; rw [w4]; show G7.2.1.2 = _; rw [b4, u3]]
      exact OI_fr Io (far 187 (by decide) (by decide) (by decide) (by decide)) (far 188 (by decide) (by decide) (by decide) (by decide)) (k9 _ (by decide) (by decide) (by decide)) (far 194 (by decide) (by decide) (by decide) (by decide))
theorem nar_char : ∀ c, c < 128 → vp_nar .char (nI c) = nI c := by decide +kernel
theorem type12 {G : GS} {post : Int32 → GS → Prop} {xpost : String → GS → Prop} {a : Int32} (h : xpost "java/lang/IllegalArgumentException" G) : wbX8_type_12 post xpost a G := h
theorem w_type {G : GS} (I : Inv G) (a1 : Int32) {PL : Int32 → GS → Prop} (h : ∀ c G', wpX9_type (FIN Inv c) a1 G' → PL c G') : wpL_type PL a1 G := by
  have I0 := I
  obtain ⟨Ia, Ih, Is, Ie, ⟨L, hL, x1, x2, x3⟩, Io⟩ := I
  unfold wpL_type wpX8_type
  rcases arg_cases a1 32 126 (by decide) with ⟨c, c1, c2, rfl⟩ | hx
  · refine ifF (nI_nlt (b := 32) c1 (by omega)) (ifT (nI_le (b := 126) c2 (by decide)) ?_)
    rw [x1]
    by_cases e : L < 60
    · have n60 : ¬ nI L = 60 := fun g => by
        have : L = 60 := (nI_eq (b := 60) (by omega) (by decide)).mp g
        omega
      refine ifT (nI_lt (b := 60) e (by decide)) ?_
      unfold wpX6_append
      rw [x1]
      refine ifF (nI_ge (b := 60) e (by decide)) ⟨vp_in_nI e (by decide), ?_⟩
      rintro G3 rfl G4 rfl
      rw [nI_clamp (by omega), nar_char c (by omega), gI_ne _ _ _ (show 168 ≠ 169 by decide), x1, nI_1, gI_at, upd_at]
      refine ⟨vin01, ?_⟩
      rintro G5 rfl
      refine h _ _ ?_
      show wpX9_type (FIN Inv 0) (nI c) (gL (gI (gI G 169 L (nI c)) 168 2 (nI (L + 1))) 0 (nI (L + 1)).toInt64)
      unfold wpX9_type
      rintro G1 rfl
      refine m_inT (lo := 32) (hi := 126) c1 c2 (by decide) (ifF (by decide) ?_)
      have e11 : (gI (gL (gI (gI G 169 L (nI c)) 168 2 (nI (L + 1))) 0 (nI (L + 1)).toInt64) 189 0 0).1 189 11 = nI L := by
        rw [gI_at, upd_ne _ _ (by decide), gL_1, gI_ne _ _ _ (by decide), gI_ne _ _ _ (by decide)]; exact x2
      rw [e11]
      refine ifF n60 ⟨vp_in_nI e (by decide), ?_⟩
      rintro G7 rfl G8 rfl
      rw [nI_clamp (by omega), nar_char c (by omega), gI_ne _ _ _ (show 189 ≠ 195 by decide), e11, nI_1, gI_at, upd_at]
      generalize hG : gI (gI (gI (gL (gI (gI G 169 L (nI c)) 168 2 (nI (L + 1))) 0 (nI (L + 1)).toInt64) 189 0 0) 195 L (nI c)) 189 11 (nI (L + 1)) = G9
      have far : ∀ q, q ≠ 168 → q ≠ 169 → q ≠ 189 → q ≠ 195 → G9.1 q = G.1 q := fun q a b d f => by
        rw [← hG, gI_ne _ _ _ d, gI_ne _ _ _ f, gI_ne _ _ _ d, gL_1, gI_ne _ _ _ a, gI_ne _ _ _ b]
      have k9 : ∀ k, k ≠ 0 → k ≠ 11 → G9.1 189 k = G.1 189 k := fun k a b => by
        rw [← hG, gI_at, upd_ne _ _ b, gI_ne _ _ _ (by decide), gI_at, upd_ne _ _ a, gL_1, gI_ne _ _ _ (by decide), gI_ne _ _ _ (by decide)]
      have n69 : G9.1 169 = upd (G.1 169) L (nI c) := by
        rw [← hG, gI_ne _ _ _ (by decide), gI_ne _ _ _ (by decide), gI_ne _ _ _ (by decide), gL_1, gI_ne _ _ _ (by decide), gI_at]
      have n95 : G9.1 195 = upd (G.1 195) L (nI c) := by
        rw [← hG, gI_ne _ _ _ (by decide), gI_at, gI_ne _ _ _ (by decide), gL_1, gI_ne _ _ _ (by decide), gI_ne _ _ _ (by decide)]
      refine fin0 ?_ ?_ ⟨?_, ?_, ?_, ?_, ?_, ?_⟩
      · rw [← hG, gI_at, upd_ne _ _ (by decide), gI_ne _ _ _ (by decide), gI_at, upd_at]
      · rw [← hG]; exact gL_at _ _
      · rw [lg_same (M := G.1) (fun q _ hq => far q (by omega) (by omega) (by omega) (by omega)), far 190 (by decide) (by decide) (by decide) (by decide)]; exact Ia
      · exact HI_fr Ih (fun q a b => far q (by omega) (by omega) (by omega) (by omega)) (far 166 (by decide) (by decide) (by decide) (by decide)) (far 191 (by decide) (by decide) (by decide) (by decide)) (k9 _ (by decide) (by decide)) (k9 _ (by decide) (by decide))
      · exact SI_fr Is (fun q a b => far q (by omega) (by omega) (by omega) (by omega)) (by rw [far 165 (by decide) (by decide) (by decide) (by decide)]) (k9 _ (by decide) (by decide)) (far 192 (by decide) (by decide) (by decide) (by decide))
      · exact EI_fr Ie (by rw [far 165 (by decide) (by decide) (by decide) (by decide)]) (by rw [far 165 (by decide) (by decide) (by decide) (by decide)]) (k9 _ (by decide) (by decide)) (k9 _ (by decide) (by decide))
      · refine ⟨L + 1, by omega, ?_, ?_, fun i hi => ?_⟩
        · rw [← hG, gI_ne _ _ _ (by decide), gI_ne _ _ _ (by decide), gI_ne _ _ _ (by decide), gL_1, gI_at, upd_at]
        · rw [← hG, gI_at, upd_at]
        · rw [n69, n95]
          by_cases d : i = L
          · subst d; rw [upd_at, upd_at]; exact ⟨rfl, c, c1, c2, rfl⟩
          · rw [upd_ne _ _ d, upd_ne _ _ d]; exact x3 i (by omega)
      · rw [show G9.2.1.2 = G.2.1.2 by rw [← hG]; rfl]
        exact OI_fr Io (far 187 (by decide) (by decide) (by decide) (by decide)) (far 188 (by decide) (by decide) (by decide) (by decide)) (k9 _ (by decide) (by decide)) (far 194 (by decide) (by decide) (by decide) (by decide))
    · have e60 : L = 60 := by omega
      subst e60
      refine ifF (by decide) (ifF (by decide +kernel) (ifT rfl (h _ _ ?_)))
      unfold wpX9_type
      rintro G1 rfl
      refine m_inT (lo := 32) (hi := 126) c1 c2 (by decide) (ifF (by decide) (ifT ?_ (m_fails (finEq I0 (by decide)))))
      rw [gI_at, upd_ne _ _ (by decide), x2]; rfl
  · have mm : wpX9_type (FIN Inv 1) a1 G := by
      unfold wpX9_type
      rintro G1 rfl
      exact m_inF hx (ifT rfl (m_fails (finEq I0 (by decide))))
    by_cases c : a1 < 32
    · exact ifT c (type12 (ifT rfl (h _ _ mm)))
    · refine ifF c (ifF ?_ (type12 (ifT rfl (h _ _ mm))))
      have := hx.resolve_left c
      exact Int32.not_le.mpr this
theorem k_law_45 {L : Nat} {xs : Nat → Int32} {v5 : Int32} {G : GS} (I : Inv G) (hv : ∀ j, j < 5 → vp_in (v5 + nI j) L) : wpL_law_45 Inv L xs v5 G :=
  ⟨hv 1 (by decide), w_type I _ (fun c G' y => ⟨hv 1 (by decide), y⟩)⟩
theorem out15 {G : GS} {post : Int32 → GS → Prop} {xpost : String → GS → Prop} {a : Int32} (h : xpost "java/lang/IndexOutOfBoundsException" G) : wbX8_outputAt_15 post xpost a G := h
theorem w_outputAt {G : GS} (I : Inv G) (a1 : Int32) {PL : Int32 → GS → Prop} (h : ∀ c G', wpX9_outputAt (FIN Inv c) a1 G' → PL c G') : wpL_outputAt PL a1 G := by
  have I0 := I
  obtain ⟨Ia, Ih, Is, Ie, Ix, ⟨o1, o2, o3, len, l1, l2, l3, l4, l5⟩⟩ := I
  have e9 : ∀ y, (gI (gL G 0 y) 189 0 0).1 189 9 = nI len := fun y => by rw [gI_at, upd_ne _ _ (by decide), gL_1]; exact l4
  have e9' : (gI G 189 0 0).1 189 9 = nI len := by rw [gI_at, upd_ne _ _ (by decide)]; exact l4
  unfold wpL_outputAt wpX8_outputAt
  have bad : a1 < 0 ∨ nI len ≤ a1 → wpX9_outputAt (FIN Inv 1) a1 G := fun hx => by
    unfold wpX9_outputAt
    rintro G1 rfl
    rw [e9']
    refine m_inF ?_ (ifT rfl (m_fails ⟨by decide, finEq I0 (by decide)⟩))
    rcases hx with hx | hx
    · exact Or.inl hx
    · refine Or.inr ?_
      rw [Int32.lt_iff_toInt_lt, show (1 : Int32) = nI 1 from rfl, pk_sub_toInt (by omega) (by decide)]
      rw [Int32.le_iff_toInt_le, nI_toInt (by omega)] at hx
      omega
  rcases pk_ix a1 (n := len) (by omega) with hx | hx | ⟨i, hi, rfl⟩
  · exact ifT hx (out15 (ifT rfl (h _ _ (bad (Or.inl hx)))))
  · by_cases c : a1 < 0
    · exact ifT c (out15 (ifT rfl (h _ _ (bad (Or.inl c)))))
    · refine ifF c ?_
      show if a1 < G.1 187 3 then _ else _
      rw [l3]
      exact ifF (Int32.not_lt.mpr hx) (out15 (ifT rfl (h _ _ (bad (Or.inr hx)))))
  · obtain ⟨c, hc, c1, c2⟩ := l5 i hi
    refine ifF (nI_pos (by omega)) ?_
    show if nI i < G.1 187 3 then _ else _
    rw [l3]
    refine ifT (nI_lt hi (by omega)) ?_
    unfold wpJ4_charAt_5068e wpJ5_charAt_5068e
    rintro z rfl o rfl
    refine ⟨rfl, ?_⟩
    rintro y rfl
    rw [o1, l3, sc_shr0 (show G.2.1.2 < 2 ^ 31 by omega), if_neg (nI_nlt l2 (by omega))]
    unfold wpJ0_checkIndex_df160 wpJ3_checkIndex_8e157
    intro rf
    refine ifF (nI_pos (by omega)) (ifT (nI_lt hi (by omega)) (ifT rfl ⟨rfl, vp_in_nI (by omega) (by omega), ?_⟩))
    rw [nI_clamp (by omega), c1, byte_char c hc]
    have e := (pk_charN (q := c) (by omega)).1
    refine ⟨e, e, e, vin01, ?_⟩
    rintro G5 rfl
    refine h _ _ ?_
    unfold wpX9_outputAt
    rintro G1 rfl
    have e94 : ∀ k y, (gI (gL G k y) 189 0 0).1 194 i = nI c := fun k y => by rw [gI_ne _ _ _ (by decide)]; exact c2
    show wpX9_isBetween _ _ _ ((gI (gL G 0 (nI c).toInt64) 189 0 0).1 189 9 - 1) _
    rw [e9, show nI len - 1 = nI (len - 1) from pk_sub (b := 1) (by omega)]
    refine m_inT (lo := 0) (Nat.zero_le i) (by omega) (by omega) (ifF (by decide) ⟨vp_in_nI (by omega) (by decide), ?_⟩)
    rw [nI_clamp (by omega), e94]
    exact ⟨e, fin0q I0 rfl⟩
theorem k_law_44 {L : Nat} {xs : Nat → Int32} {v5 : Int32} {G : GS} (I : Inv G) (hv : ∀ j, j < 5 → vp_in (v5 + nI j) L) : wpL_law_44 Inv L xs v5 G :=
  ⟨hv 1 (by decide), w_outputAt I _ (fun c G' y => ⟨hv 1 (by decide), y⟩)⟩
