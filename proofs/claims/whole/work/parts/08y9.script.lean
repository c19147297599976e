/-! scripts: the case of the law -/
section SCRIPT
variable {cs : Nat → Nat} {L p : Nat} {G0 G : GS} {post : Int32 → GS → Prop} {ns : Nat → Int32} {so : Int32}
theorem Inv_end {Z : GS} (I : Inv G) (ha : RBx (lg Z.1 0) (Z.1 190)) (hh : HI Z.1) (he : EI Z.1) (h2 : Z.1 168 2 = 0) (h11 : Z.1 189 11 = 0) (fr : ∀ q, (15 ≤ q ∧ q < 30) ∨ q = 192 ∨ q = 187 ∨ q = 188 ∨ q = 194 → Z.1 q = G.1 q)
    (h6 : Z.1 165 6 = G.1 165 6) (h7 : Z.1 189 7 = G.1 189 7) (h9 : Z.1 189 9 = G.1 189 9) (hz : Z.2.1.2 = G.2.1.2) : Inv Z := by
  obtain ⟨_, _, Is, _, _, Io⟩ := I
  refine ⟨ha, hh, SI_fr Is (fun q a b => fr q (by omega)) h6 h7 (fr _ (by omega)), he, ⟨0, by decide, h2, h11, fun i hi => absurd hi (Nat.not_lt_zero i)⟩, ?_⟩
  rw [hz]
  exact OI_fr Io (fr _ (by omega)) (fr _ (by omega)) h9 (fr _ (by omega))
theorem FX_0 (h2 : G.1 168 2 = nI L) (hc : ∀ i, i < L → G.1 169 i = nI (cs i)) : FX cs L 0 G (gI (gI G 168 3 0) 168 4 0) := by
  refine ⟨?_, fun i hi => ?_, ?_, fun r a b => ?_, fun k a b => ?_, rfl⟩
  · rw [gI_at, upd_ne _ _ (by decide), gI_at, upd_ne _ _ (by decide)]; exact h2
  · rw [gI_ne _ _ _ (by decide), gI_ne _ _ _ (by decide)]; exact hc i hi
  · rw [gI_at, upd_ne _ _ (by decide), gI_at, upd_at]; rfl
  · rw [gI_ne _ _ _ a, gI_ne _ _ _ a]
  · rw [gI_at, upd_ne _ _ b, gI_at, upd_ne _ _ a]
theorem MX_0 {S : GS} (h11 : S.1 189 11 = nI L) (hc : ∀ i, i < L → S.1 195 i = nI (cs i)) : MX cs L 0 (gI (gI S 189 0 0) 189 12 0) := by
  refine ⟨?_, fun i hi => ?_, ?_⟩
  · rw [gI_at, upd_ne _ _ (by decide), gI_at, upd_ne _ _ (by decide)]; exact h11
  · rw [gI_ne _ _ _ (by decide), gI_ne _ _ _ (by decide)]; exact hc i hi
  · rw [gI_at, upd_at]; rfl
theorem GL_len (hc : CSx cs L) : ∀ (l : List (Nat × Nat)) (p : Nat), GL cs L l p → p ≤ L → p + 4 * l.length ≤ L + 1 := by
  intro l
  induction l with
  | nil => intro p g; exact g.elim
  | cons kp l ih =>
    intro p g hp
    obtain ⟨_, hs, e, hr, ho⟩ := g
    have he := cmd_end hc hs.1 hp hr
    simp only [List.length_cons]
    rcases ho with ⟨rfl, _⟩ | ⟨n1, _, gl⟩
    · simp only [List.length_nil]; omega
    · have := ih (e + 1) gl (by omega)
      omega
/-- a text without the required form -/
theorem k46_F (I : Inv G) (hc : CSx cs L) (x2 : G.1 168 2 = nI L) (x11 : G.1 189 11 = nI L) (c9 : ∀ i, i < L → G.1 169 i = nI (cs i)) (c5 : ∀ i, i < L → G.1 195 i = nI (cs i)) {n f : Nat} (hf : f ≤ L) (hb : BL cs L n 0 f) {xs : Nat → Int32} {v5 : Int32} {L0 : Nat} : wpL_law_46 Inv L0 xs v5 G := by
  have hL := hc.1
  have I0 := I
  obtain ⟨Ia, Ih, Is, Ie, Ix, Io⟩ := I
  unfold wpL_law_46 wpL_runScript wpX8_runScript wpX6_parse
  rintro G1 rfl G2 rfl
  refine ⟨n + 1, lp_parseF (G0 := G) (f := f) hc (fun G3 h3 => ?_) n 0 0 _ hb (by omega) (by omega) (FX_0 x2 c9) (by rw [gI_at, upd_at]; rfl)⟩
  obtain ⟨f1, f2, f3, f4, f5, f6⟩ := h3
  rintro G4 rfl
  refine ifT rfl ?_
  rintro G5 rfl
  refine ifT rfl ?_
  have hp : (gI G3 168 2 0).1 168 3 = nI f := by rw [gI_at, upd_ne _ _ (by decide)]; exact f3
  rw [hp]
  show wpX9_runScript (FIN Inv 1) (gI (gI G3 168 2 0) 165 7 (nI f))
  unfold wpX9_runScript
  rintro G6 rfl
  unfold wpX9_readsAll
  rintro G7 rfl
  have bs : ∀ q, q ≠ 165 → q ≠ 168 → (q < 171 ∨ 187 ≤ q) → (gI (gI G3 168 2 0) 165 7 (nI f)).1 q = G.1 q := fun q a b c => by
    rw [gI_ne _ _ _ a, gI_ne _ _ _ b]; exact f4 q b c
  have mx : MX cs L 0 (gI (gI (gI (gI G3 168 2 0) 165 7 (nI f)) 189 0 0) 189 12 0) := MX_0 (by rw [bs 189 (by decide) (by decide) (by decide)]; exact x11) (fun i hi => by rw [bs 195 (by decide) (by decide) (by decide)]; exact c5 i hi)
  refine ⟨n + 2, lp_rallF hc (fun ns so G8 h8 => ?_) n 0 _ _ _ hb (by omega) (MX_pm mx)⟩
  refine ifT rfl ?_
  rintro G9 rfl G10 rfl
  refine m_fails (finE (by decide) (by rw [gI_at, upd_at]) ?_)
  obtain ⟨m1, m2, m3, m4, m5, m6, m7, m8⟩ := h8
  have Zq : ∀ q, q ≠ 189 → q ≠ 196 → (gI (gI (gI G8 189 13 (G8.1 189 12)) 189 11 0) 189 0 1).1 q = (gI (gI G3 168 2 0) 165 7 (nI f)).1 q := fun q a b => by
    rw [gI_ne _ _ _ a, gI_ne _ _ _ a, gI_ne _ _ _ a, m6 q a b, gI_ne _ _ _ a, gI_ne _ _ _ a]
  have Z9 : ∀ k, k ≠ 0 → k ≠ 11 → k ≠ 12 → k ≠ 13 → k ≠ 16 → (gI (gI (gI G8 189 13 (G8.1 189 12)) 189 11 0) 189 0 1).1 189 k = G.1 189 k := fun k a b c d e => by
    rw [gI_at, upd_ne _ _ a, gI_at, upd_ne _ _ b, gI_at, upd_ne _ _ d, m7 k c e, gI_at, upd_ne _ _ c, gI_at, upd_ne _ _ a, bs 189 (by decide) (by decide) (by decide)]
  have Z165 : ∀ k, k ≠ 7 → (gI (gI (gI G8 189 13 (G8.1 189 12)) 189 11 0) 189 0 1).1 165 k = G.1 165 k := fun k a => by
    rw [Zq 165 (by decide) (by decide), gI_at, upd_ne _ _ a, gI_ne _ _ _ (by decide), f4 165 (by decide) (by decide)]
  refine Inv_end I0 ?_ ?_ ?_ ?_ ?_ (fun q hq => ?_) (Z165 6 (by decide)) (Z9 7 (by decide) (by decide) (by decide) (by decide) (by decide)) (Z9 9 (by decide) (by decide) (by decide) (by decide) (by decide)) ?_
  · rw [lg_same (M := G.1) (b := 0) (fun q _ hq => (Zq q (by omega) (by omega)).trans (bs q (by omega) (by omega) (by omega))), Zq 190 (by decide) (by decide), bs 190 (by decide) (by decide) (by decide)]
    exact Ia
  · exact HI_fr Ih (fun q a b => (Zq q (by omega) (by omega)).trans (bs q (by omega) (by omega) (by omega))) ((Zq 166 (by decide) (by decide)).trans (bs 166 (by decide) (by decide) (by decide))) ((Zq 191 (by decide) (by decide)).trans (bs 191 (by decide) (by decide) (by decide))) (Z9 5 (by decide) (by decide) (by decide) (by decide) (by decide)) (Z9 6 (by decide) (by decide) (by decide) (by decide) (by decide))
  · have e13 : (gI (gI (gI G8 189 13 (G8.1 189 12)) 189 11 0) 189 0 1).1 189 13 = nI f := by
      rw [gI_at, upd_ne _ _ (by decide), gI_at, upd_ne _ _ (by decide), gI_at, upd_at]; exact m3
    have e7 : (gI (gI (gI G8 189 13 (G8.1 189 12)) 189 11 0) 189 0 1).1 165 7 = nI f := by
      rw [Zq 165 (by decide) (by decide), gI_at, upd_at]
    refine ⟨⟨e7.trans e13.symm, Or.inr ⟨f, by omega, e13⟩⟩, ?_⟩
    rw [Z165 8 (by decide), Z9 14 (by decide) (by decide) (by decide) (by decide) (by decide)]
    exact Ie.2
  · rw [Zq 168 (by decide) (by decide), gI_ne _ _ _ (by decide), gI_at, upd_at]
  · rw [gI_at, upd_ne _ _ (by decide), gI_at, upd_at]
  · exact (Zq q (by omega) (by omega)).trans (bs q (by omega) (by omega) (by omega))
  · show G8.2.1.2 = G.2.1.2
    rw [m8]
    show G3.2.1.2 = G.2.1.2
    rw [f6]
end SCRIPT
