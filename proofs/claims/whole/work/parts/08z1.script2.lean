/-! scripts: the case of the law, a text that has the form -/
section SCRIPT
variable {cs : Nat → Nat} {L p : Nat} {G0 G : GS} {post : Int32 → GS → Prop} {ns : Nat → Int32} {so : Int32}
/-- the class up to the commands -/
theorem k46_pre (hc : CSx cs L) (x2 : G.1 168 2 = nI L) (c9 : ∀ i, i < L → G.1 169 i = nI (cs i)) {l : List (Nat × Nat)} (gl : GL cs L l 0) {xpost : String → GS → Prop}
    (h : ∀ G5, RW cs l 0 G5 → lg G5.1 0 = lg G.1 0 → lg G5.1 30 = lg G.1 0 → (∀ q, q ≠ 168 → (q < 30 ∨ 45 ≤ q) → (q < 171 ∨ 187 ≤ q) → G5.1 q = G.1 q) → G5.1 168 2 = 0 → G5.2 = G.2 →
      wpX8_firstRefusedOrder (fun (r7 : Int32) (G6 : GS) =>
        if r7 < 0 then
          wpX2_remember (fun G9 => post (G9.1 168 4) G9) 30 G6
        else
          wpX3_copyFrom (fun G10 => ∀ G11 : GS, G11 = gI G10 165 8 r7 → xpost "java/lang/IllegalStateException" G11) 0 30 G6) G5) : wpX8_runScript post xpost G := by
  have hL := hc.1
  have len := GL_len hc l 0 gl (Nat.zero_le _)
  unfold wpX8_runScript wpX6_parse
  rintro G1 rfl G2 rfl
  refine ⟨l.length, lp_parseT (G0 := G) (n := l.length) (ds := fun i => l.getD i (0, 0)) hc (fun G3 h3 => ?_) l 0 0 _ gl (by omega) (by omega) ⟨FX_0 x2 c9, by rw [gI_at, upd_at]; rfl, fun i hi => absurd hi (Nat.not_lt_zero i)⟩ (fun i _ => by rw [Nat.zero_add]) (Nat.zero_add _)⟩
  obtain ⟨⟨f1, f2, f3, f4, f5, f6⟩, g4, grow⟩ := h3
  rintro G4 rfl
  refine ifF (by decide) ?_
  refine s_copy (b := 30) (c := 0) (by decide) (by decide) (by decide) (fun G5 g5 => ?_)
  obtain ⟨u1, u2, u3⟩ := g5
  have l0 : lg (gI G3 168 2 0).1 0 = lg G.1 0 := lg_same (fun q _ hq => by rw [gI_ne _ _ _ (by omega)]; exact f4 q (by omega) (by omega))
  refine h G5 ⟨fun i hi => ?_, ?_, by omega⟩ ((lg_same (fun q _ hq => u2 q (by omega))).trans l0) (u1.trans l0) (fun q a b c => ?_) ?_ (u3.trans f6)
  · rw [Nat.zero_add, u2 _ (by omega), gI_ne _ _ _ (by omega)]
    exact grow i hi
  · rw [u2 168 (by decide), gI_at, upd_ne _ _ (by decide), Nat.zero_add]; exact g4
  · rw [u2 q b, gI_ne _ _ _ a]; exact f4 q a c
  · rw [u2 168 (by decide), gI_at, upd_at]
/-- the model up to the commands -/
theorem m46_pre (hc : CSx cs L) {l : List (Nat × Nat)} (gl : GL cs L l 0) {S : GS} (h11 : S.1 189 11 = nI L) (c5 : ∀ i, i < L → S.1 195 i = nI (cs i))
    (h : ∀ G14, MX cs L 0 G14 → G14.1 189 17 = nI 0 → (∀ q, q ≠ 189 → q ≠ 193 → q ≠ 196 → G14.1 q = S.1 q) → (∀ k, k < 56 → G14.1 193 k = S.1 190 k) → G14.1 189 0 = 0 → (∀ k, k ≠ 0 → k ≠ 12 → k ≠ 16 → k ≠ 17 → G14.1 189 k = S.1 189 k) → G14.2 = S.2 →
      wlX9_doesAll_12 (fun (r7 : Int32) (G6 : GS) => ∀ G8 : GS, G8 = gI G6 189 11 0 →
          if r7 = 0 then
          wpX9_goesBack (fun (G10 : GS) => ∀ G11 : GS, G11 = gI G10 189 14 (G10.1 189 17) → wpX9_fails (fun (r13 : Int32) (G12 : GS) => post r13 G12) 2 G11)  G8
        else
          wpX9_keeps (fun (G14 : GS) => post (G14.1 189 17) G14)  G8) (l.length + 1) G14 1) : wpX9_runScript post S := by
  have hL := hc.1
  unfold wpX9_runScript
  rintro G9 rfl
  unfold wpX9_readsAll
  rintro G10 rfl
  refine ⟨l.length + 1, lp_rallT hc (fun ns so G11 h11 => ?_) l 0 _ _ _ gl (Nat.zero_le _) (MX_pm (MX_0 h11 c5))⟩
  refine ifF (by decide) (m_copies (fun G12 g12 => ?_))
  unfold wpX9_doesAll
  rintro G13 rfl G14 rfl
  obtain ⟨m1, m2, m3, m4, m5, m6, m7, m8⟩ := h11
  obtain ⟨w1, w2, w3, w4⟩ := g12
  refine ⟨l.length + 1, h _ ⟨?_, fun i hi => ?_, ?_⟩ ?_ (fun q a b c => ?_) (fun k hk => ?_) ?_ (fun k a b c d => ?_) ?_⟩
  · rw [gI_at, upd_ne _ _ (by decide), gI_at, upd_ne _ _ (by decide), w3 189 (by decide)]; exact m1
  · rw [gI_ne _ _ _ (by decide), gI_ne _ _ _ (by decide), w3 195 (by decide)]; exact m2 i hi
  · rw [gI_at, upd_at]; rfl
  · rw [gI_at, upd_ne _ _ (by decide), gI_at, upd_at]; rfl
  · rw [gI_ne _ _ _ a, gI_ne _ _ _ a, w3 q b, m6 q a c, gI_ne _ _ _ a, gI_ne _ _ _ a]
  · rw [gI_ne _ _ _ (by decide), gI_ne _ _ _ (by decide)]
    have := w1 k hk
    rw [Nat.zero_add] at this
    rw [this, m6 190 (by decide) (by decide), gI_ne _ _ _ (by decide), gI_ne _ _ _ (by decide)]
  · rw [gI_at, upd_ne _ _ (by decide), gI_at, upd_ne _ _ (by decide), w3 189 (by decide), m7 0 (by decide) (by decide), gI_at, upd_ne _ _ (by decide), gI_at, upd_at]
  · rw [gI_at, upd_ne _ _ b, gI_at, upd_ne _ _ d, w3 189 (by decide), m7 k b c, gI_at, upd_ne _ _ b, gI_at, upd_ne _ _ a]
  · show G12.2 = S.2
    rw [w4, m8]; rfl
theorem k46_T (I : Inv G) (hc : CSx cs L) (x2 : G.1 168 2 = nI L) (x11 : G.1 189 11 = nI L) (c9 : ∀ i, i < L → G.1 169 i = nI (cs i)) (c5 : ∀ i, i < L → G.1 195 i = nI (cs i)) {l : List (Nat × Nat)} (gl : GL cs L l 0) {xs : Nat → Int32} {v5 : Int32} {L0 : Nat} : wpL_law_46 Inv L0 xs v5 G := by
  have hL := hc.1
  have len := GL_len hc l 0 gl (Nat.zero_le _)
  have I0 := I
  obtain ⟨Ia, Ih, Is, Ie, Ix, Io⟩ := I
  have Ia0 := Ia
  obtain ⟨n, R, A, B, C, M, T⟩ := Ia
  obtain ⟨j, s, f, hj, hs, hf, h1, h2, h5, h6, old⟩ := Ih
  have hj8 := Nat.mod_lt (j + 1) (show 0 < 8 by decide)
  unfold wpL_law_46 wpL_runScript
  refine k46_pre hc x2 c9 gl (fun G5 rw5 l5 l30 b5 s5 t5 => ?_)
  unfold wpX8_firstRefusedOrder
  rcases run hc l 0 n R A (lg G.1 0) (G.1 190) gl (Nat.zero_le _) B C M T with ⟨a', r', rb, ca, ma⟩ | ⟨x, hx, cr, mr⟩
  · -- every command is carried out
    refine ⟨l.length + 1, ca 0 G5 _ l5 rw5 (fun G6 g6 => ?_)⟩
    refine ifT (by decide) ?_
    obtain ⟨u1, u2, u3⟩ := g6
    have b6 : ∀ q, q ≠ 168 → 15 ≤ q → (q < 30 ∨ 45 ≤ q) → (q < 171 ∨ 187 ≤ q) → G6.1 q = G.1 q := fun q a b c d => (u2 q (by omega)).trans (b5 q a c d)
    refine s_remember (c := 30) (Or.inr rfl) hj hs (by rw [b6 166 (by decide) (by decide) (by decide) (by decide)]; exact h1) (by rw [b6 166 (by decide) (by decide) (by decide) (by decide)]; exact h2) (fun G7 g7 => ?_)
    obtain ⟨v1, v2, v3, v4, v5⟩ := g7
    have b7 : ∀ q, q ≠ 166 → q ≠ 168 → 15 ≤ q → (q < 30 ∨ 165 ≤ q) → (q < 171 ∨ 187 ≤ q) → G7.1 q = G.1 q := fun q a b c d e => (v4 q a (by omega)).trans (b6 q b c (by omega) e)
    have c7 : G7.1 168 4 = nI l.length := by
      rw [v4 168 (by decide) (by omega), u2 168 (by decide), rw5.2.1, Nat.zero_add]
    have d7 : G7.1 168 2 = 0 := by
      rw [v4 168 (by decide) (by omega), u2 168 (by decide), s5]
    have a7 : lg G7.1 0 = a' := (lg_same (fun q _ hq => v4 q (by omega) (by omega))).trans u1
    have row7 : lg G7.1 (45 + 15 * ((j + 1) % 8)) = lg G.1 0 := by
      rw [v3, ← l30]
      exact lg_same (fun q a b => u2 q (by omega))
    have old7 : ∀ t, t < 8 → t ≠ (j + 1) % 8 → lg G7.1 (45 + 15 * t) = lg G.1 (45 + 15 * t) := fun t ht hn => lg_same (fun q a b => (v4 q (by omega) (by omega)).trans (b6 q (by omega) (by omega) (by omega) (by omega)))
    have t7 : G7.2 = G.2 := v5.trans (u3.trans t5)
    refine ⟨vin01, ?_⟩
    rintro G8 rfl
    rw [c7]
    show wpX9_runScript (FIN Inv 0) (gL G7 0 (nI l.length).toInt64)
    have e9 : ∀ k, (gL G7 0 (nI l.length).toInt64).1 189 k = G.1 189 k := fun k => by rw [gL_1, b7 189 (by decide) (by decide) (by decide) (by decide) (by decide)]
    refine m46_pre hc gl (by rw [e9]; exact x11) (fun i hi => by rw [gL_1, b7 195 (by decide) (by decide) (by decide) (by decide) (by decide)]; exact c5 i hi) (fun G14 mx h17 bq b193 th b9 b2 => ?_)
    refine ma 0 G14 _ ?_ mx h17 (fun G15 k1 k2 k3 => ?_)
    · rw [bq 190 (by decide) (by decide) (by decide), gL_1, b7 190 (by decide) (by decide) (by decide) (by decide) (by decide)]
    obtain ⟨y1, y2, y3⟩ := k1
    rintro G16 rfl
    refine ifF (by decide) ?_
    have q9 : ∀ k, k ≠ 0 → k ≠ 11 → k ≠ 12 → k ≠ 16 → k ≠ 17 → (gI G15 189 11 0).1 189 k = G.1 189 k := fun k a b c d e => by
      rw [gI_at, upd_ne _ _ b, y2 k c d e, b9 k a c d e, e9]
    refine m_keeps hf hs (by rw [q9 5 (by decide) (by decide) (by decide) (by decide) (by decide)]; exact h5) (by rw [q9 6 (by decide) (by decide) (by decide) (by decide) (by decide)]; exact h6) (fun G17 g17 => ?_)
    obtain ⟨z1, z2, z3, z4, z5, z6, z7⟩ := g17
    have Zq : ∀ q, q ≠ 189 → q ≠ 190 → q ≠ 191 → q ≠ 193 → q ≠ 196 → G17.1 q = G7.1 q := fun q a b c d e => by
      rw [z5 q a c, gI_ne _ _ _ a, y1 q a b e, bq q a d e, gL_1]
    have Z9 : ∀ k, k ≠ 0 → k ≠ 5 → k ≠ 6 → k ≠ 11 → k ≠ 12 → k ≠ 16 → k ≠ 17 → G17.1 189 k = G.1 189 k := fun k a b c d e g h => by
      rw [z6 k b c]; exact q9 k a d e g h
    have e17 : G17.1 189 17 = nI l.length := by
      rw [z6 17 (by decide) (by decide), gI_at, upd_ne _ _ (by decide), k3, Nat.zero_add]
    have eth : G17.1 189 0 = 0 := by
      rw [z6 0 (by decide) (by decide), gI_at, upd_ne _ _ (by decide), y2 0 (by decide) (by decide) (by decide)]; exact th
    have e2 : G17.2 = (gL G7 0 (nI l.length).toInt64).2 := z7.trans (y3.trans b2)
    rw [e17]
    refine fin0 eth (by rw [e2]; exact gL_at G7 _) (Inv_end I0 ?_ ?_ ?_ ?_ ?_ (fun q hq => ?_) ?_ ?_ ?_ ?_)
    · rw [lg_same (M := G7.1) (b := 0) (fun q _ hq => Zq q (by omega) (by omega) (by omega) (by omega) (by omega)), a7, z5 190 (by decide) (by decide), gI_ne _ _ _ (by decide), k2]
      exact rb
    · refine HI_push (M := G.1) (a := lg G.1 0) (w := (gI G15 189 11 0).1 193) hj hs hf old (RBx_cong Ia0 (fun k hk => ?_)) ?_ ?_ z1 z2 ?_ (fun t ht hn => ?_) z3 (fun k hk => ?_)
      · rw [gI_ne _ _ _ (by decide), y1 193 (by decide) (by decide) (by decide), b193 k hk, gL_1, b7 190 (by decide) (by decide) (by decide) (by decide) (by decide)]
      · rw [Zq 166 (by decide) (by decide) (by decide) (by decide) (by decide)]; exact v1
      · rw [Zq 166 (by decide) (by decide) (by decide) (by decide) (by decide)]; exact v2
      · rw [← row7]
        exact lg_same (fun q a b => Zq q (by omega) (by omega) (by omega) (by omega) (by omega))
      · rw [← old7 t ht hn]
        exact lg_same (fun q a b => Zq q (by omega) (by omega) (by omega) (by omega) (by omega))
      · rw [z4 k hk, gI_ne _ _ _ (by decide), y1 191 (by decide) (by decide) (by decide), bq 191 (by decide) (by decide) (by decide), gL_1, b7 191 (by decide) (by decide) (by decide) (by decide) (by decide)]
    · have e165 : G17.1 165 = G.1 165 := by
        rw [Zq 165 (by decide) (by decide) (by decide) (by decide) (by decide), b7 165 (by decide) (by decide) (by decide) (by decide) (by decide)]
      exact EI_fr Ie (by rw [e165]) (by rw [e165]) (Z9 13 (by decide) (by decide) (by decide) (by decide) (by decide) (by decide) (by decide)) (Z9 14 (by decide) (by decide) (by decide) (by decide) (by decide) (by decide) (by decide))
    · rw [Zq 168 (by decide) (by decide) (by decide) (by decide) (by decide)]; exact d7
    · rw [z6 11 (by decide) (by decide), gI_at, upd_at]
    · exact (Zq q (by omega) (by omega) (by omega) (by omega) (by omega)).trans (b7 q (by omega) (by omega) (by omega) (by omega) (by omega))
    · rw [Zq 165 (by decide) (by decide) (by decide) (by decide) (by decide), b7 165 (by decide) (by decide) (by decide) (by decide) (by decide)]
    · exact Z9 7 (by decide) (by decide) (by decide) (by decide) (by decide) (by decide) (by decide)
    · exact Z9 9 (by decide) (by decide) (by decide) (by decide) (by decide) (by decide) (by decide)
    · rw [e2]
      show G7.2.1.2 = G.2.1.2
      rw [t7]
  · -- one is refused
    refine ⟨l.length + 1, cr 0 G5 _ l5 rw5 (fun a' G6 g6 => ?_)⟩
    rw [Nat.zero_add]
    refine ifF (nI_pos (by omega)) ?_
    obtain ⟨u1, u2, u3⟩ := g6
    have b6 : ∀ q, q ≠ 168 → 15 ≤ q → (q < 30 ∨ 45 ≤ q) → (q < 171 ∨ 187 ≤ q) → G6.1 q = G.1 q := fun q a b c d => (u2 q (by omega)).trans (b5 q a c d)
    refine s_copy (b := 0) (c := 30) (by decide) (by decide) (by decide) (fun G7 g7 => ?_)
    obtain ⟨v1, v2, v3⟩ := g7
    have a7 : lg G7.1 0 = lg G.1 0 := by
      rw [v1, ← l30]
      exact lg_same (fun q a b => u2 q (by omega))
    have b7 : ∀ q, q ≠ 168 → 15 ≤ q → (q < 30 ∨ 45 ≤ q) → (q < 171 ∨ 187 ≤ q) → G7.1 q = G.1 q := fun q a b c d => (v2 q (by omega)).trans (b6 q a b c d)
    have d7 : G7.1 168 2 = 0 := by
      rw [v2 168 (by decide), u2 168 (by decide), s5]
    have t7 : G7.2 = G.2 := v3.trans (u3.trans t5)
    rintro G8 rfl
    refine ifF (by decide +kernel) (ifT rfl ?_)
    show wpX9_runScript (FIN Inv 2) (gI G7 165 8 (nI x))
    have b8 : ∀ q, q ≠ 165 → q ≠ 168 → 15 ≤ q → (q < 30 ∨ 45 ≤ q) → (q < 171 ∨ 187 ≤ q) → (gI G7 165 8 (nI x)).1 q = G.1 q := fun q a b c d e => by
      rw [gI_ne _ _ _ a]; exact b7 q b c d e
    refine m46_pre hc gl (by rw [b8 189 (by decide) (by decide) (by decide) (by decide) (by decide)]; exact x11) (fun i hi => by rw [b8 195 (by decide) (by decide) (by decide) (by decide) (by decide)]; exact c5 i hi) (fun G14 mx h17 bq b193 th b9 b2 => ?_)
    refine mr 0 G14 _ ?_ mx h17 (fun G15 k1 k3 => ?_)
    · rw [bq 190 (by decide) (by decide) (by decide), b8 190 (by decide) (by decide) (by decide) (by decide) (by decide)]
    obtain ⟨y1, y2, y3⟩ := k1
    rintro G16 rfl
    refine ifT rfl (m_goesBack (fun G17 g17 => ?_))
    obtain ⟨w1, w2, w3, w4⟩ := g17
    rintro G18 rfl
    have e17 : G17.1 189 17 = nI x := by
      rw [w3 189 (by decide), gI_at, upd_ne _ _ (by decide), k3, Nat.zero_add]
    rw [e17]
    refine m_fails (finE (by decide) (by rw [gI_at, upd_at]) ?_)
    have Zq : ∀ q, q ≠ 189 → q ≠ 190 → q ≠ 193 → q ≠ 196 → (gI (gI G17 189 14 (nI x)) 189 0 2).1 q = (gI G7 165 8 (nI x)).1 q := fun q a b d e => by
      rw [gI_ne _ _ _ a, gI_ne _ _ _ a, w3 q b, gI_ne _ _ _ a, y1 q a b e, bq q a d e]
    have Z9 : ∀ k, k ≠ 0 → k ≠ 11 → k ≠ 12 → k ≠ 14 → k ≠ 16 → k ≠ 17 → (gI (gI G17 189 14 (nI x)) 189 0 2).1 189 k = G.1 189 k := fun k a b c d e g => by
      rw [gI_at, upd_ne _ _ a, gI_at, upd_ne _ _ d, w3 189 (by decide), gI_at, upd_ne _ _ b, y2 k c e g, b9 k a c e g, b8 189 (by decide) (by decide) (by decide) (by decide) (by decide)]
    refine Inv_end I0 ?_ ?_ ?_ ?_ ?_ (fun q hq => ?_) ?_ ?_ ?_ ?_
    · rw [lg_same (M := G7.1) (b := 0) (fun q _ hq => (Zq q (by omega) (by omega) (by omega) (by omega)).trans (gI_ne _ _ _ (by omega))), a7]
      refine RBx_cong Ia0 (fun k hk => ?_)
      rw [gI_ne _ _ _ (by decide), gI_ne _ _ _ (by decide)]
      have := w1 k hk
      rw [Nat.zero_add] at this
      rw [this, gI_ne _ _ _ (by decide), y1 193 (by decide) (by decide) (by decide), b193 k hk, b8 190 (by decide) (by decide) (by decide) (by decide) (by decide)]
    · refine HI_fr I0.2.1 (fun q a b => ?_) ?_ ?_ (Z9 5 (by decide) (by decide) (by decide) (by decide) (by decide) (by decide)) (Z9 6 (by decide) (by decide) (by decide) (by decide) (by decide) (by decide))
      · exact (Zq q (by omega) (by omega) (by omega) (by omega)).trans (b8 q (by omega) (by omega) (by omega) (by omega) (by omega))
      · exact (Zq 166 (by decide) (by decide) (by decide) (by decide)).trans (b8 166 (by decide) (by decide) (by decide) (by decide) (by decide))
      · exact (Zq 191 (by decide) (by decide) (by decide) (by decide)).trans (b8 191 (by decide) (by decide) (by decide) (by decide) (by decide))
    · have e14 : (gI (gI G17 189 14 (nI x)) 189 0 2).1 189 14 = nI x := by
        rw [gI_at, upd_ne _ _ (by decide), gI_at, upd_at]
      have e8 : (gI (gI G17 189 14 (nI x)) 189 0 2).1 165 8 = nI x := by
        rw [Zq 165 (by decide) (by decide) (by decide) (by decide), gI_at, upd_at]
      refine ⟨?_, e8.trans e14.symm, Or.inr ⟨x, by omega, e14⟩⟩
      rw [Zq 165 (by decide) (by decide) (by decide) (by decide), gI_at, upd_ne _ _ (by decide), b7 165 (by decide) (by decide) (by decide) (by decide), Z9 13 (by decide) (by decide) (by decide) (by decide) (by decide) (by decide)]
      exact Ie.1
    · rw [Zq 168 (by decide) (by decide) (by decide) (by decide), gI_ne _ _ _ (by decide)]; exact d7
    · rw [gI_at, upd_ne _ _ (by decide), gI_at, upd_ne _ _ (by decide), w3 189 (by decide), gI_at, upd_at]
    · exact (Zq q (by omega) (by omega) (by omega) (by omega)).trans (b8 q (by omega) (by omega) (by omega) (by omega) (by omega))
    · rw [Zq 165 (by decide) (by decide) (by decide) (by decide), gI_at, upd_ne _ _ (by decide), b7 165 (by decide) (by decide) (by decide) (by decide)]
    · exact Z9 7 (by decide) (by decide) (by decide) (by decide) (by decide) (by decide)
    · exact Z9 9 (by decide) (by decide) (by decide) (by decide) (by decide) (by decide)
    · show G17.2.1.2 = G.2.1.2
      rw [w4]
      show G15.2.1.2 = G.2.1.2
      rw [y3, b2]
      show G7.2.1.2 = G.2.1.2
      rw [t7]
theorem k_law_46 {L : Nat} {xs : Nat → Int32} {v5 : Int32} {G : GS} (I : Inv G) : wpL_law_46 Inv L xs v5 G := by
  obtain ⟨n, hn, x2, x11, xc⟩ := I.2.2.2.2.1
  have c5 : ∀ i, i < n → G.1 195 i = nI ((fun i => if i < n then (G.1 195 i).toNatClampNeg else 0) i) := fun i hi => by
    obtain ⟨_, c, h1, h2, h3⟩ := xc i hi
    show G.1 195 i = nI (if i < n then (G.1 195 i).toNatClampNeg else 0)
    rw [if_pos hi, h3, nI_clamp (by omega)]
  have c9 : ∀ i, i < n → G.1 169 i = nI ((fun i => if i < n then (G.1 195 i).toNatClampNeg else 0) i) := fun i hi => (xc i hi).1.trans (c5 i hi)
  have hc : CSx (fun i => if i < n then (G.1 195 i).toNatClampNeg else 0) n := by
    refine ⟨hn, fun i hi => ?_, fun i hi => if_neg (by omega)⟩
    obtain ⟨_, c, h1, h2, h3⟩ := xc i hi
    show 32 ≤ (if i < n then (G.1 195 i).toNatClampNeg else 0) ∧ (if i < n then (G.1 195 i).toNatClampNeg else 0) ≤ 126
    rw [if_pos hi, h3, nI_clamp (by omega)]
    exact ⟨h1, h2⟩
  rcases GB_or hc (n + 1) 0 (by omega) (Nat.zero_le _) with ⟨l, hl⟩ | ⟨m, f, hf, hb⟩
  · exact k46_T I hc x2 x11 c9 c5 hl
  · exact k46_F I hc x2 x11 c9 c5 hf hb
end SCRIPT
