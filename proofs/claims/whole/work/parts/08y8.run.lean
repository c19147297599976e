/-! scripts: the commands one after another, on both sides -/
/-- the model's state but for what a run of commands may change -/
def MX (cs : Nat → Nat) (L p : Nat) (G : GS) : Prop := G.1 189 11 = nI L ∧ (∀ i, i < L → G.1 195 i = nI (cs i)) ∧ G.1 189 12 = nI p
def MD (G G' : GS) : Prop := (∀ q, q ≠ 189 → q ≠ 190 → q ≠ 196 → G'.1 q = G.1 q) ∧ (∀ k, k ≠ 12 → k ≠ 16 → k ≠ 17 → G'.1 189 k = G.1 189 k) ∧ G'.2 = G.2
theorem MD_0 (G : GS) : MD G G := ⟨fun _ _ _ _ => rfl, fun _ _ _ _ => rfl, rfl⟩
theorem MD_tr {G G1 G2 : GS} (h : MD G G1) (h' : MD G1 G2) : MD G G2 :=
  ⟨fun q a b c => (h'.1 q a b c).trans (h.1 q a b c), fun k a b c => (h'.2.1 k a b c).trans (h.2.1 k a b c), h'.2.2.trans h.2.2⟩
section RUN
variable {cs : Nat → Nat} {L p : Nat} {G0 G : GS} {post : Int32 → GS → Prop} {ns : Nat → Int32} {so : Int32}
theorem MX_pm (h : MX cs L p G) : PM cs L p (G.1 196) (G.1 189 16) G G := ⟨h.1, h.2.1, h.2.2, rfl, rfl, fun _ _ _ => rfl, fun _ _ _ => rfl, rfl⟩
theorem PM_md (h : PM cs L p ns so G0 G) : MD G0 G ∧ MX cs L p G ∧ G.1 190 = G0.1 190 ∧ G.1 189 17 = G0.1 189 17 :=
  ⟨⟨fun q a _ c => h.2.2.2.2.2.1 q a c, fun k a b _ => h.2.2.2.2.2.2.1 k a b, h.2.2.2.2.2.2.2⟩, ⟨h.1, h.2.1, h.2.2.1⟩, h.2.2.2.2.2.1 190 (by decide) (by decide), h.2.2.2.2.2.2.1 17 (by decide) (by decide)⟩
/-- the class's rows -/
def RW (cs : Nat → Nat) (l : List (Nat × Nat)) (j : Nat) (G : GS) : Prop := (∀ i, i < l.length → CFd cs (l.getD i (0, 0)).1 (l.getD i (0, 0)).2 (G.1 (171 + (j + i)))) ∧ G.1 168 4 = nI (j + l.length) ∧ j + l.length ≤ 16
def cAll (cs : Nat → Nat) (l : List (Nat × Nat)) (a a' : Nat → Int32) : Prop :=
  ∀ (j : Nat) (G : GS) (post : Int32 → GS → Prop), lg G.1 0 = a → RW cs l j G → (∀ G', Lgd 0 a' G G' → post (-1) G') → wlX8_firstRefusedOrder_2 post (l.length + 1) G (nI j)
def cRef (cs : Nat → Nat) (l : List (Nat × Nat)) (a : Nat → Int32) (x : Nat) : Prop :=
  ∀ (j : Nat) (G : GS) (post : Int32 → GS → Prop), lg G.1 0 = a → RW cs l j G → (∀ a' G', Lgd 0 a' G G' → post (nI (j + x)) G') → wlX8_firstRefusedOrder_2 post (l.length + 1) G (nI j)
def mAll (cs : Nat → Nat) (L : Nat) (l : List (Nat × Nat)) (p : Nat) (r r' : Nat → Int32) : Prop :=
  ∀ (d : Nat) (G : GS) (post : Int32 → GS → Prop), G.1 190 = r → MX cs L p G → G.1 189 17 = nI d → (∀ G', MD G G' → G'.1 190 = r' → G'.1 189 17 = nI (d + l.length) → post 1 G') → wlX9_doesAll_12 post (l.length + 1) G 1
def mRef (cs : Nat → Nat) (L : Nat) (l : List (Nat × Nat)) (p : Nat) (r : Nat → Int32) (x : Nat) : Prop :=
  ∀ (d : Nat) (G : GS) (post : Int32 → GS → Prop), G.1 190 = r → MX cs L p G → G.1 189 17 = nI d → (∀ G', MD G G' → G'.1 189 17 = nI (d + x) → post 0 G') → wlX9_doesAll_12 post (l.length + 1) G 1
theorem RW_tl {kp : Nat × Nat} {l : List (Nat × Nat)} {j : Nat} {a : Nat → Int32} {G G' : GS} (h : RW cs (kp :: l) j G) (g : Lgd 0 a G G') : RW cs l (j + 1) G' := by
  obtain ⟨h1, h2, h3⟩ := h
  simp only [List.length_cons] at h1 h2 h3
  refine ⟨fun i hi => ?_, ?_, by omega⟩
  · rw [g.2.1 _ (by omega), show j + 1 + i = j + (i + 1) by omega]
    exact h1 (i + 1) (by omega)
  · rw [g.2.1 168 (by decide), h2, show j + (l.length + 1) = j + 1 + l.length by omega]
/-- one command of the class's loop -/
theorem c_one {k p j n o : Nat} {R : Nat → Nat} {A : Nat → Nat → Nat} {l : List (Nat × Nat)} {m : Nat} (h : RW cs ((k, p) :: l) j G) (C : CR (lg G.1 0) n R A)
    (ho : o < 5) (hx : ∀ (G : GS) (q : Nat) (pn : Nat → GS → Prop), CR (lg G.1 0) n R A → CFd cs k p (G.1 q) → pn o G → wpX8_refusalOf pn q G)
    (hn : o ≠ 0 → post (nI j) G) (hy : o = 0 → wpX8_carryOut (fun G9 => wlX8_firstRefusedOrder_2 post m G9 (nI (j + 1))) (171 + j) G) : wlX8_firstRefusedOrder_2 post (m + 1) G (nI j) := by
  obtain ⟨h1, h2, h3⟩ := h
  simp only [List.length_cons] at h1 h2 h3
  rw [wlX8_firstRefusedOrder_2, h2]
  refine ifF (nI_ge (by omega) (by omega)) (ifF (nI_ge (b := 16) (by omega) (by decide)) ⟨vp_in_nI (by omega) (by decide), ?_⟩)
  rw [nI_clamp (by omega)]
  refine hx G _ _ C (h1 0 (by omega)) ⟨ho, ?_⟩
  by_cases e : o = 0
  · refine ifT e ⟨vp_in_nI (by omega) (by decide), ?_⟩
    have y := hy e
    suffices x : (fun G9 : GS => ∀ z10 : Int32, z10 = nI j + 1 → wlX8_firstRefusedOrder_2 post m G9 z10) = (fun G9 => wlX8_firstRefusedOrder_2 post m G9 (nI (j + 1))) by
      rw [x]; exact y
    funext G9
    rw [nI_1]
    exact propext ⟨fun g => g _ rfl, fun g z e => e ▸ g⟩
  · exact ifF e (hn e)
theorem c_end {j : Nat} (h4 : G.1 168 4 = nI j) (k : post (-1) G) : wlX8_firstRefusedOrder_2 post (0 + 1) G (nI j) := by
  rw [wlX8_firstRefusedOrder_2, h4]
  exact ifT (Int32.le_refl _) k
/-- one command of the model's loop -/
theorem m_one (hc : CSx cs L) (hp : p ≤ L) {k e d n o m : Nat} {R : Nat → Nat} {A : Nat → Nat → Nat} {r : Nat → Int32} (h : MX cs L p G) (hs : sel cs k p) (hr : RT cs (itm cs k p) p e) (M : MR r n R A) (h0 : G.1 190 = r) (hd : G.1 189 17 = nI d)
    (hx : ∀ (G : GS) (post : Int32 → GS → Prop), MR (G.1 190) n R A → MFd cs k p (G.1 196) (G.1 189 16) → (∀ x, (x = 0 ↔ o = 0) → post x G) → wpX9_notNow post G)
    (hn : o ≠ 0 → ∀ G', MD G G' → G'.1 189 17 = nI d → post 0 G')
    (hy : o = 0 → ∀ G', MD G G' → MX cs L e G' → G'.1 190 = r → G'.1 189 17 = nI d → MFd cs k p (G'.1 196) (G'.1 189 16) →
      wpX9_doesNow (fun r10 G9 => ∀ G11 : GS, G11 = gI G9 189 17 ((G9.1 189 17) + 1) → wpX9_reads (fun r13 G12 => wlX9_doesAll_12 post m G12 r13) 59 G11) G') : wlX9_doesAll_12 post (m + 1) G 1 := by
  have hL := hc.1
  rw [wlX9_doesAll_12]
  refine ifF (by decide) ?_
  refine m_cmd hc (MX_pm h) (by omega) hs (fun e2 ns2 so2 G1 rr z h1 => ?_) (fun f ns2 so2 G1 rr h1 => (RTF hr rr).elim)
  obtain rfl := RT_det hr rr
  obtain ⟨d1, d2, d3, d4⟩ := PM_md h1
  rw [← h1.2.2.2.1, ← h1.2.2.2.2.1] at z
  refine hx G1 _ (by rw [d3, h0]; exact M) z (fun x hx0 => ?_)
  by_cases c : o = 0
  · exact ifT (hx0.mpr c) (hy c G1 d1 d2 (d3.trans h0) (d4.trans hd) z)
  · exact ifF (fun g => c (hx0.mp g)) (hn c G1 d1 (d4.trans hd))
theorem Mrw_md {r' : Nat → Int32} {G' : GS} {e : Nat} (g : Mrw r' G G') (h : MX cs L e G) : MD G (gI G' 189 17 (G'.1 189 17 + 1)) ∧ MX cs L e (gI G' 189 17 (G'.1 189 17 + 1)) ∧ (gI G' 189 17 (G'.1 189 17 + 1)).1 190 = r' ∧ (gI G' 189 17 (G'.1 189 17 + 1)).1 189 17 = G.1 189 17 + 1 := by
  obtain ⟨g1, g2, g3⟩ := g
  have e9 := g2 189 (by decide)
  refine ⟨⟨fun q a b c => ?_, fun k a b c => ?_, g3⟩, ⟨?_, fun i hi => ?_, ?_⟩, ?_, ?_⟩
  · rw [gI_ne _ _ _ a]; exact g2 q b
  · rw [gI_at, upd_ne _ _ c, e9]
  · rw [gI_at, upd_ne _ _ (by decide), e9]; exact h.1
  · rw [gI_ne _ _ _ (by decide), g2 195 (by decide)]; exact h.2.1 i hi
  · rw [gI_at, upd_ne _ _ (by decide), e9]; exact h.2.2
  · rw [gI_ne _ _ _ (by decide)]; exact g1
  · rw [gI_at, upd_at, e9]
theorem run (hc : CSx cs L) : ∀ (l : List (Nat × Nat)) (p n : Nat) (R : Nat → Nat) (A : Nat → Nat → Nat) (a r : Nat → Int32), GL cs L l p → p ≤ L → NB n R A → CR a n R A → MR r n R A → TR a r →
    (∃ a' r', RBx a' r' ∧ cAll cs l a a' ∧ mAll cs L l p r r') ∨ ∃ x, x < l.length ∧ cRef cs l a x ∧ mRef cs L l p r x := by
  have hL := hc.1
  intro l
  induction l with
  | nil => intro p n R A a r g; exact g.elim
  | cons kp l ih =>
    intro p n R A a r g hp B C M T
    obtain ⟨k, p'⟩ := kp
    obtain ⟨e0, hs, e, hr, hq⟩ := g
    have e0 : p' = p := e0
    subst e0
    have he := cmd_end hc hs.1 hp hr
    obtain ⟨o, ho, hx, hm, hK⟩ := one (cs := cs) (p := p') B hs.1
    by_cases c : o = 0
    · obtain ⟨n', R', A', fa, fr, da, dm, dr⟩ := hK c
      obtain ⟨B', C', M', T'⟩ := dr a r C M T
      rcases hq with ⟨rfl, rfl⟩ | ⟨n1, c59, gl⟩
      · refine Or.inl ⟨fa a, fr r, ⟨n', R', A', B', C', M', T'⟩, fun j G post h0 h K => ?_, fun d G post h0 h hd K => ?_⟩
        · refine c_one (m := 0 + 1) h (by rw [h0]; exact C) ho hx (fun g => absurd c g) (fun _ => da G _ _ (by rw [h0]; exact C) (h.1 0 (by simp only [List.length_cons]; omega)) (fun G' g => ?_))
          rw [h0] at g
          have := (RW_tl h g).2.1
          exact c_end this (K G' g)
        · refine m_one (m := 0 + 1) hc hp h hs hr M h0 hd hm (fun g => absurd c g) (fun _ G1 d1 x1 r1 s1 z1 => dm G1 _ (by rw [r1]; exact M) z1 (fun v G2 g2 => ?_))
          obtain ⟨y1, y2, y3, y4⟩ := Mrw_md g2 x1
          rintro G11 rfl
          refine m_rF (c := 59) hc (MX_pm y2) (by omega) (by decide) (by decide) (by rw [hc.2.2 e (Nat.le_refl _)]; decide) ?_
          rw [wlX9_doesAll_12]
          refine ifT rfl (K _ (MD_tr d1 y1) (by rw [y3, r1]) ?_)
          rw [y4, s1, nI_1]; rfl
      · have TL := ih (e + 1) n' R' A' (fa a) (fr r) gl (by omega) B' C' M' T'
        have cx : ∀ (j : Nat) (G : GS) (post : Int32 → GS → Prop), lg G.1 0 = a → RW cs ((k, p') :: l) j G → (∀ G', Lgd 0 (fa a) G G' → RW cs l (j + 1) G' → wlX8_firstRefusedOrder_2 post (l.length + 1) G' (nI (j + 1))) → wlX8_firstRefusedOrder_2 post (l.length + 1 + 1) G (nI j) := by
          intro j G post h0 h K
          refine c_one h (by rw [h0]; exact C) ho hx (fun g => absurd c g) (fun _ => da G _ _ (by rw [h0]; exact C) (h.1 0 (by simp only [List.length_cons]; omega)) (fun G' g => ?_))
          rw [h0] at g
          exact K G' g (RW_tl h g)
        have cm : ∀ (d : Nat) (G : GS) (post : Int32 → GS → Prop), G.1 190 = r → MX cs L p' G → G.1 189 17 = nI d → (∀ G', MD G G' → MX cs L (e + 1) G' → G'.1 190 = fr r → G'.1 189 17 = nI (d + 1) → wlX9_doesAll_12 post (l.length + 1) G' 1) → wlX9_doesAll_12 post (l.length + 1 + 1) G 1 := by
          intro d G post h0 h hd K
          refine m_one hc hp h hs hr M h0 hd hm (fun g => absurd c g) (fun _ G1 d1 x1 r1 s1 z1 => dm G1 _ (by rw [r1]; exact M) z1 (fun v G2 g2 => ?_))
          obtain ⟨y1, y2, y3, y4⟩ := Mrw_md g2 x1
          rintro G11 rfl
          refine m_rT (c := 59) hc (MX_pm y2) (by omega) (by decide) (by decide) c59 (fun G3 g3 => ?_)
          obtain ⟨w1, w2, w3, w4⟩ := PM_md g3
          refine K G3 (MD_tr (MD_tr d1 y1) w1) w2 (by rw [w3, y3, r1]) ?_
          rw [w4, y4, s1, nI_1]
        rcases TL with ⟨a', r', rb, ca, ma⟩ | ⟨x, hx1, cr, mr⟩
        · refine Or.inl ⟨a', r', rb, fun j G post h0 h K => cx j G post h0 h (fun G' g w => ca (j + 1) G' post g.1 w (fun G'' g' => K G'' (Lgd_tr g g'))), fun d G post h0 h hd K => cm d G post h0 h hd (fun G' g1 g2 g3 g4 => ma (d + 1) G' post g3 g2 g4 (fun G'' k1 k2 k3 => K G'' (MD_tr g1 k1) k2 ?_))⟩
          rw [k3, List.length_cons, show d + 1 + l.length = d + (l.length + 1) by omega]
        · refine Or.inr ⟨x + 1, by simp only [List.length_cons]; omega, fun j G post h0 h K => cx j G post h0 h (fun G' g w => cr (j + 1) G' post g.1 w (fun a'' G'' g' => ?_)), fun d G post h0 h hd K => cm d G post h0 h hd (fun G' g1 g2 g3 g4 => mr (d + 1) G' post g3 g2 g4 (fun G'' k1 k3 => K G'' (MD_tr g1 k1) ?_))⟩
          · rw [show j + 1 + x = j + (x + 1) by omega]
            exact K a'' G'' (Lgd_tr g g')
          · rw [k3, show d + 1 + x = d + (x + 1) by omega]
    · refine Or.inr ⟨0, by simp only [List.length_cons]; omega, fun j G post h0 h K => ?_, fun d G post h0 h hd K => ?_⟩
      · exact c_one h (by rw [h0]; exact C) ho hx (fun _ => K a G (Lgd_1 h0)) (fun g => absurd g c)
      · exact m_one hc hp h hs hr M h0 hd hm (fun _ G' d1 hh => K G' d1 hh) (fun g => absurd g c)
end RUN
