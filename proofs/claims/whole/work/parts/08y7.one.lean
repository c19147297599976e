/-! scripts: one command is carried out, on both sides; printed by wip/whole/gen/gen_y7.py -/
def Do1 (cs : Nat → Nat) (k p n : Nat) (R : Nat → Nat) (A : Nat → Nat → Nat) : Prop :=
  ∃ (n' : Nat) (R' : Nat → Nat) (A' : Nat → Nat → Nat) (fa fr : (Nat → Int32) → Nat → Int32),
    (∀ (G : GS) (q : Nat) (post : GS → Prop), CR (lg G.1 0) n R A → CFd cs k p (G.1 q) → (∀ G', Lgd 0 (fa (lg G.1 0)) G G' → post G') → wpX8_carryOut post q G) ∧
    (∀ (G : GS) (post : Int32 → GS → Prop), MR (G.1 190) n R A → MFd cs k p (G.1 196) (G.1 189 16) → (∀ v G', Mrw (fr (G.1 190)) G G' → post v G') → wpX9_doesNow post G) ∧
    (∀ a r, CR a n R A → MR r n R A → TR a r → NB n' R' A' ∧ CR (fa a) n' R' A' ∧ MR (fr r) n' R' A' ∧ TR (fa a) (fr r))
def Not1 (cs : Nat → Nat) (k p n : Nat) (R : Nat → Nat) (A : Nat → Nat → Nat) : Prop :=
  ∃ o, o < 5 ∧ (∀ (G : GS) (q : Nat) (pn : Nat → GS → Prop), CR (lg G.1 0) n R A → CFd cs k p (G.1 q) → pn o G → wpX8_refusalOf pn q G) ∧
    (∀ (G : GS) (post : Int32 → GS → Prop), MR (G.1 190) n R A → MFd cs k p (G.1 196) (G.1 189 16) → (∀ r, (r = 0 ↔ o = 0) → post r G) → wpX9_notNow post G) ∧ (o = 0 → Do1 cs k p n R A)
section ONE
variable {cs : Nat → Nat} {p n q : Nat} {R : Nat → Nat} {A : Nat → Nat → Nat} {G : GS} {pn : Nat → GS → Prop} {pg : GS → Prop} {post : Int32 → GS → Prop}
theorem cx_0 (h : CFd cs 0 p (G.1 q)) (X : wpX3_refusalToOpen (fun r G => r < 5 ∧ pn r G) 0 (ar cs 0 p 4) G) : wpX8_refusalOf pn q G := by
  have a0 : (G.1 q 0).toNatClampNeg = 0 := by rw [h.1]; exact nI_clamp (by decide)
  have b4 : G.1 q 4 = ar cs 0 p 4 := h.2 0 (by decide)
  unfold wpX8_refusalOf
  rw [a0]
  refine ⟨by decide, ⟨vp_in_nI (n := 0) (N := 10) (by decide) (by decide), ?_⟩⟩
  rintro z rfl
  refine ifF (by decide) (ifT rfl ?_)
  rw [b4]
  exact X
theorem dx_0 (h : CFd cs 0 p (G.1 q)) (X : wpX3_open (fun _ G => pg G) 0 (ar cs 0 p 4) G) : wpX8_carryOut pg q G := by
  have a0 : (G.1 q 0).toNatClampNeg = 0 := by rw [h.1]; exact nI_clamp (by decide)
  have b4 : G.1 q 4 = ar cs 0 p 4 := h.2 0 (by decide)
  unfold wpX8_carryOut
  rw [a0]
  refine ⟨by decide, ⟨vp_in_nI (n := 0) (N := 10) (by decide) (by decide), ?_⟩⟩
  rintro z rfl
  refine ifF (by decide) (ifT rfl ?_)
  rw [b4]
  exact X
theorem mx_0 (h : MFd cs 0 p (G.1 196) (G.1 189 16)) (X : wpX9_notVault post (ar cs 0 p 4) G) : wpX9_notNow post G := by
  have b4 : G.1 196 0 = ar cs 0 p 4 := h.2 0 (by decide)
  unfold wpX9_notNow
  refine ⟨in4 (k := 0) (by decide), ?_⟩
  intro z2 g2
  refine ⟨in4 (k := 1) (by decide), ?_⟩
  intro z4 g4 z5 g5
  rw [h.1] at g5
  subst g5
  refine ifF (by decide) (ifF (by decide) (ifF (by decide) (ifF (by decide) (ifF (by decide) (ifF (by decide) (ifF (by decide) (ifF (by decide) (ifF (by decide) (ifF (by decide) (ifF (by decide) (ifF (by decide) (ifF (by decide) (ifF (by decide) (ifF (by decide) (ifF (by decide) (ifF (by decide) (ifF (by decide) (ifF (by decide) (ifF (by decide) (ifF (by decide) (ifF (by decide) (ifT rfl ?_))))))))))))))))))))))
  have g2 : z2 = ar cs 0 p 4 := g2.trans b4
  subst g2
  exact X
theorem ex_0 (h : MFd cs 0 p (G.1 196) (G.1 189 16)) (X : wpX9_addsVault post (ar cs 0 p 4) G) : wpX9_doesNow post G := by
  have b4 : G.1 196 0 = ar cs 0 p 4 := h.2 0 (by decide)
  unfold wpX9_doesNow
  refine ⟨in4 (k := 0) (by decide), ?_⟩
  intro z2 g2
  refine ⟨in4 (k := 1) (by decide), ?_⟩
  intro z4 g4 z5 g5
  rw [h.1] at g5
  subst g5
  refine ifF (by decide) (ifF (by decide) (ifF (by decide) (ifF (by decide) (ifF (by decide) (ifF (by decide) (ifF (by decide) (ifF (by decide) (ifF (by decide) (ifF (by decide) (ifF (by decide) (ifF (by decide) (ifF (by decide) (ifF (by decide) (ifF (by decide) (ifF (by decide) (ifF (by decide) (ifF (by decide) (ifF (by decide) (ifF (by decide) (ifF (by decide) (ifF (by decide) (ifT rfl ?_))))))))))))))))))))))
  have g2 : z2 = ar cs 0 p 4 := g2.trans b4
  subst g2
  exact X
theorem one_0 (B : NB n R A) : Not1 cs 0 p n R A := by
  obtain ⟨o, ho, hx, hm, hK⟩ := n_open B (ar cs 0 p 4)
  have o5 : o < 5 := (by decide : ∀ o, o ∈ ([0, 2, 3] : List Nat) → o < 5) o ho
  have oi : cdO o = 0 ↔ o = 0 := (by decide : ∀ o, o ∈ ([0, 2, 3] : List Nat) → (cdO o = 0 ↔ o = 0)) o ho
  refine ⟨o, o5, fun G q pn C c k => cx_0 c (hx G _ C ⟨o5, k⟩), fun G post M m k => mx_0 m (hm G post M (k _ oi)), fun e => ?_⟩
  obtain ⟨t, ht, e4, hn⟩ := hK e
  obtain ⟨n', R', A', val, fa, fr, ha, hd, hr, -⟩ := d_open B ht hn
  refine ⟨n', R', A', fa, fr, fun G q post C c k => dx_0 c ?_, fun G post M m k => ex_0 m ?_, hr⟩
  · rw [e4]; exact ha G _ C (fun G' l => k G' l)
  · rw [e4]; exact hd G _ M (fun G' l => k _ G' l)
theorem cx_1 (h : CFd cs 1 p (G.1 q)) (X : wpX3_refusalToPut (fun r G => r < 5 ∧ pn r G) 0 (ar cs 1 p 1) (ar cs 1 p 2) (ar cs 1 p 4) G) : wpX8_refusalOf pn q G := by
  have a0 : (G.1 q 0).toNatClampNeg = 1 := by rw [h.1]; exact nI_clamp (by decide)
  have b1 : G.1 q 1 = ar cs 1 p 1 := h.2 0 (by decide)
  have b2 : G.1 q 2 = ar cs 1 p 2 := h.2 1 (by decide)
  have b4 : G.1 q 4 = ar cs 1 p 4 := h.2 2 (by decide)
  unfold wpX8_refusalOf
  rw [a0]
  refine ⟨by decide, ⟨vp_in_nI (n := 1) (N := 10) (by decide) (by decide), ?_⟩⟩
  rintro z rfl
  refine ifF (by decide) (ifF (by decide) (ifT rfl ?_))
  rw [b1, b2, b4]
  exact X
theorem dx_1 (h : CFd cs 1 p (G.1 q)) (X : wpX3_put (fun _ G => pg G) 0 (ar cs 1 p 1) (ar cs 1 p 2) (ar cs 1 p 4) G) : wpX8_carryOut pg q G := by
  have a0 : (G.1 q 0).toNatClampNeg = 1 := by rw [h.1]; exact nI_clamp (by decide)
  have b1 : G.1 q 1 = ar cs 1 p 1 := h.2 0 (by decide)
  have b2 : G.1 q 2 = ar cs 1 p 2 := h.2 1 (by decide)
  have b4 : G.1 q 4 = ar cs 1 p 4 := h.2 2 (by decide)
  unfold wpX8_carryOut
  rw [a0]
  refine ⟨by decide, ⟨vp_in_nI (n := 1) (N := 10) (by decide) (by decide), ?_⟩⟩
  rintro z rfl
  refine ifF (by decide) (ifF (by decide) (ifT rfl ?_))
  rw [b1, b2, b4]
  exact X
theorem mx_1 (h : MFd cs 1 p (G.1 196) (G.1 189 16)) (X : wpX9_notDeposit post (ar cs 1 p 1) (ar cs 1 p 2) (ar cs 1 p 4) G) : wpX9_notNow post G := by
  have b1 : G.1 196 0 = ar cs 1 p 1 := h.2 0 (by decide)
  have b2 : G.1 196 1 = ar cs 1 p 2 := h.2 1 (by decide)
  have b4 : G.1 196 2 = ar cs 1 p 4 := h.2 2 (by decide)
  unfold wpX9_notNow
  refine ⟨in4 (k := 0) (by decide), ?_⟩
  intro z2 g2
  refine ⟨in4 (k := 1) (by decide), ?_⟩
  intro z4 g4 z5 g5
  rw [h.1] at g5
  subst g5
  refine ifF (by decide) (ifF (by decide) (ifF (by decide) (ifF (by decide) (ifF (by decide) (ifF (by decide) (ifF (by decide) (ifF (by decide) (ifF (by decide) (ifF (by decide) (ifF (by decide) (ifF (by decide) (ifF (by decide) (ifF (by decide) (ifF (by decide) (ifF (by decide) (ifT rfl ?_))))))))))))))))
  have g2 : z2 = ar cs 1 p 1 := g2.trans b1
  subst g2
  have g4 : z4 = ar cs 1 p 2 := g4.trans b2
  subst g4
  refine ⟨in4 (k := 2) (by decide), ?_⟩
  show wpX9_notDeposit post _ _ (G.1 196 2) G
  rw [b4]
  exact X
theorem ex_1 (h : MFd cs 1 p (G.1 196) (G.1 189 16)) (X : wpX9_deposits post (ar cs 1 p 1) (ar cs 1 p 2) (ar cs 1 p 4) G) : wpX9_doesNow post G := by
  have b1 : G.1 196 0 = ar cs 1 p 1 := h.2 0 (by decide)
  have b2 : G.1 196 1 = ar cs 1 p 2 := h.2 1 (by decide)
  have b4 : G.1 196 2 = ar cs 1 p 4 := h.2 2 (by decide)
  unfold wpX9_doesNow
  refine ⟨in4 (k := 0) (by decide), ?_⟩
  intro z2 g2
  refine ⟨in4 (k := 1) (by decide), ?_⟩
  intro z4 g4 z5 g5
  rw [h.1] at g5
  subst g5
  refine ifF (by decide) (ifF (by decide) (ifF (by decide) (ifF (by decide) (ifF (by decide) (ifF (by decide) (ifF (by decide) (ifF (by decide) (ifF (by decide) (ifF (by decide) (ifF (by decide) (ifF (by decide) (ifF (by decide) (ifF (by decide) (ifF (by decide) (ifF (by decide) (ifT rfl ?_))))))))))))))))
  have g2 : z2 = ar cs 1 p 1 := g2.trans b1
  subst g2
  have g4 : z4 = ar cs 1 p 2 := g4.trans b2
  subst g4
  refine ⟨in4 (k := 2) (by decide), ?_⟩
  show wpX9_deposits post _ _ (G.1 196 2) G
  rw [b4]
  exact X
theorem one_1 (B : NB n R A) : Not1 cs 1 p n R A := by
  obtain ⟨o, ho, hx, hm, hK⟩ := n_put B (ar cs 1 p 1) (ar cs 1 p 2) (ar cs 1 p 4)
  have o5 : o < 5 := (by decide : ∀ o, o ∈ ([0, 1, 2, 3] : List Nat) → o < 5) o ho
  have oi : cdA o = 0 ↔ o = 0 := (by decide : ∀ o, o ∈ ([0, 1, 2, 3] : List Nat) → (cdA o = 0 ↔ o = 0)) o ho
  refine ⟨o, o5, fun G q pn C c k => cx_1 c (hx G _ C ⟨o5, k⟩), fun G post M m k => mx_1 m (hm G post M (k _ oi)), fun e => ?_⟩
  obtain ⟨v, k, f, hv, hk, e1, ek, f1, f2, e4, c⟩ := hK e
  obtain ⟨n', R', A', val, fa, fr, ha, hd, hr, -⟩ := d_put B hv hk ek c
  refine ⟨n', R', A', fa, fr, fun G q post C c k => dx_1 c ?_, fun G post M m k => ex_1 m ?_, hr⟩
  · rw [e1, e4]; exact ha G _ C (fun G' l => k G' l)
  · rw [e1, e4]; exact hd G _ M (fun G' l => k _ G' l)
theorem cx_2 (h : CFd cs 2 p (G.1 q)) (X : wpX3_refusalToTake (fun r G => r < 5 ∧ pn r G) 0 (ar cs 2 p 1) (ar cs 2 p 2) (ar cs 2 p 4) G) : wpX8_refusalOf pn q G := by
  have a0 : (G.1 q 0).toNatClampNeg = 2 := by rw [h.1]; exact nI_clamp (by decide)
  have b1 : G.1 q 1 = ar cs 2 p 1 := h.2 0 (by decide)
  have b2 : G.1 q 2 = ar cs 2 p 2 := h.2 1 (by decide)
  have b4 : G.1 q 4 = ar cs 2 p 4 := h.2 2 (by decide)
  unfold wpX8_refusalOf
  rw [a0]
  refine ⟨by decide, ⟨vp_in_nI (n := 2) (N := 10) (by decide) (by decide), ?_⟩⟩
  rintro z rfl
  refine ifF (by decide) (ifF (by decide) (ifF (by decide) (ifT rfl ?_)))
  rw [b1, b2, b4]
  exact X
theorem dx_2 (h : CFd cs 2 p (G.1 q)) (X : wpX3_take (fun _ G => pg G) 0 (ar cs 2 p 1) (ar cs 2 p 2) (ar cs 2 p 4) G) : wpX8_carryOut pg q G := by
  have a0 : (G.1 q 0).toNatClampNeg = 2 := by rw [h.1]; exact nI_clamp (by decide)
  have b1 : G.1 q 1 = ar cs 2 p 1 := h.2 0 (by decide)
  have b2 : G.1 q 2 = ar cs 2 p 2 := h.2 1 (by decide)
  have b4 : G.1 q 4 = ar cs 2 p 4 := h.2 2 (by decide)
  unfold wpX8_carryOut
  rw [a0]
  refine ⟨by decide, ⟨vp_in_nI (n := 2) (N := 10) (by decide) (by decide), ?_⟩⟩
  rintro z rfl
  refine ifF (by decide) (ifF (by decide) (ifF (by decide) (ifT rfl ?_)))
  rw [b1, b2, b4]
  exact X
theorem mx_2 (h : MFd cs 2 p (G.1 196) (G.1 189 16)) (X : wpX9_notWithdraw post (ar cs 2 p 1) (ar cs 2 p 2) (ar cs 2 p 4) G) : wpX9_notNow post G := by
  have b1 : G.1 196 0 = ar cs 2 p 1 := h.2 0 (by decide)
  have b2 : G.1 196 1 = ar cs 2 p 2 := h.2 1 (by decide)
  have b4 : G.1 196 2 = ar cs 2 p 4 := h.2 2 (by decide)
  unfold wpX9_notNow
  refine ⟨in4 (k := 0) (by decide), ?_⟩
  intro z2 g2
  refine ⟨in4 (k := 1) (by decide), ?_⟩
  intro z4 g4 z5 g5
  rw [h.1] at g5
  subst g5
  refine ifF (by decide) (ifF (by decide) (ifF (by decide) (ifF (by decide) (ifF (by decide) (ifF (by decide) (ifF (by decide) (ifF (by decide) (ifF (by decide) (ifF (by decide) (ifF (by decide) (ifF (by decide) (ifF (by decide) (ifF (by decide) (ifF (by decide) (ifF (by decide) (ifF (by decide) (ifF (by decide) (ifF (by decide) (ifF (by decide) (ifT rfl ?_))))))))))))))))))))
  have g2 : z2 = ar cs 2 p 1 := g2.trans b1
  subst g2
  have g4 : z4 = ar cs 2 p 2 := g4.trans b2
  subst g4
  refine ⟨in4 (k := 2) (by decide), ?_⟩
  show wpX9_notWithdraw post _ _ (G.1 196 2) G
  rw [b4]
  exact X
theorem ex_2 (h : MFd cs 2 p (G.1 196) (G.1 189 16)) (X : wpX9_withdraws post (ar cs 2 p 1) (ar cs 2 p 2) (ar cs 2 p 4) G) : wpX9_doesNow post G := by
  have b1 : G.1 196 0 = ar cs 2 p 1 := h.2 0 (by decide)
  have b2 : G.1 196 1 = ar cs 2 p 2 := h.2 1 (by decide)
  have b4 : G.1 196 2 = ar cs 2 p 4 := h.2 2 (by decide)
  unfold wpX9_doesNow
  refine ⟨in4 (k := 0) (by decide), ?_⟩
  intro z2 g2
  refine ⟨in4 (k := 1) (by decide), ?_⟩
  intro z4 g4 z5 g5
  rw [h.1] at g5
  subst g5
  refine ifF (by decide) (ifF (by decide) (ifF (by decide) (ifF (by decide) (ifF (by decide) (ifF (by decide) (ifF (by decide) (ifF (by decide) (ifF (by decide) (ifF (by decide) (ifF (by decide) (ifF (by decide) (ifF (by decide) (ifF (by decide) (ifF (by decide) (ifF (by decide) (ifF (by decide) (ifF (by decide) (ifF (by decide) (ifF (by decide) (ifT rfl ?_))))))))))))))))))))
  have g2 : z2 = ar cs 2 p 1 := g2.trans b1
  subst g2
  have g4 : z4 = ar cs 2 p 2 := g4.trans b2
  subst g4
  refine ⟨in4 (k := 2) (by decide), ?_⟩
  show wpX9_withdraws post _ _ (G.1 196 2) G
  rw [b4]
  exact X
theorem one_2 (B : NB n R A) : Not1 cs 2 p n R A := by
  obtain ⟨o, ho, hx, hm, hK⟩ := n_take B (ar cs 2 p 1) (ar cs 2 p 2) (ar cs 2 p 4)
  have o5 : o < 5 := (by decide : ∀ o, o ∈ ([0, 1, 2, 3, 4] : List Nat) → o < 5) o ho
  have oi : cdA o = 0 ↔ o = 0 := (by decide : ∀ o, o ∈ ([0, 1, 2, 3, 4] : List Nat) → (cdA o = 0 ↔ o = 0)) o ho
  refine ⟨o, o5, fun G q pn C c k => cx_2 c (hx G _ C ⟨o5, k⟩), fun G post M m k => mx_2 m (hm G post M (k _ oi)), fun e => ?_⟩
  obtain ⟨v, k, f, hv, hk, e1, ek, f1, f2, e4, c⟩ := hK e
  obtain ⟨n', R', A', val, fa, fr, ha, hd, hr, -⟩ := d_take B hv hk ek c
  refine ⟨n', R', A', fa, fr, fun G q post C c k => dx_2 c ?_, fun G post M m k => ex_2 m ?_, hr⟩
  · rw [e1, e4]; exact ha G _ C (fun G' l => k G' l)
  · rw [e1, e4]; exact hd G _ M (fun G' l => k _ G' l)
theorem cx_3 (h : CFd cs 3 p (G.1 q)) (X : wpX3_refusalToSwap (fun r G => r < 5 ∧ pn r G) 0 (ar cs 3 p 1) (ar cs 3 p 2) (ar cs 3 p 3) (ar cs 3 p 4) G) : wpX8_refusalOf pn q G := by
  have a0 : (G.1 q 0).toNatClampNeg = 3 := by rw [h.1]; exact nI_clamp (by decide)
  have b1 : G.1 q 1 = ar cs 3 p 1 := h.2 0 (by decide)
  have b2 : G.1 q 2 = ar cs 3 p 2 := h.2 1 (by decide)
  have b3 : G.1 q 3 = ar cs 3 p 3 := h.2 2 (by decide)
  have b4 : G.1 q 4 = ar cs 3 p 4 := h.2 3 (by decide)
  unfold wpX8_refusalOf
  rw [a0]
  refine ⟨by decide, ⟨vp_in_nI (n := 3) (N := 10) (by decide) (by decide), ?_⟩⟩
  rintro z rfl
  refine ifF (by decide) (ifF (by decide) (ifF (by decide) (ifF (by decide) (ifT rfl ?_))))
  rw [b1, b2, b3, b4]
  exact X
theorem dx_3 (h : CFd cs 3 p (G.1 q)) (X : wpX3_swap (fun _ G => pg G) 0 (ar cs 3 p 1) (ar cs 3 p 2) (ar cs 3 p 3) (ar cs 3 p 4) G) : wpX8_carryOut pg q G := by
  have a0 : (G.1 q 0).toNatClampNeg = 3 := by rw [h.1]; exact nI_clamp (by decide)
  have b1 : G.1 q 1 = ar cs 3 p 1 := h.2 0 (by decide)
  have b2 : G.1 q 2 = ar cs 3 p 2 := h.2 1 (by decide)
  have b3 : G.1 q 3 = ar cs 3 p 3 := h.2 2 (by decide)
  have b4 : G.1 q 4 = ar cs 3 p 4 := h.2 3 (by decide)
  unfold wpX8_carryOut
  rw [a0]
  refine ⟨by decide, ⟨vp_in_nI (n := 3) (N := 10) (by decide) (by decide), ?_⟩⟩
  rintro z rfl
  refine ifF (by decide) (ifF (by decide) (ifF (by decide) (ifF (by decide) (ifT rfl ?_))))
  rw [b1, b2, b3, b4]
  exact X
theorem mx_3 (h : MFd cs 3 p (G.1 196) (G.1 189 16)) (X : wpX9_notExchange post (ar cs 3 p 1) (ar cs 3 p 2) (ar cs 3 p 3) (ar cs 3 p 4) G) : wpX9_notNow post G := by
  have b1 : G.1 196 0 = ar cs 3 p 1 := h.2 0 (by decide)
  have b2 : G.1 196 1 = ar cs 3 p 2 := h.2 1 (by decide)
  have b3 : G.1 196 2 = ar cs 3 p 3 := h.2 2 (by decide)
  have b4 : G.1 196 3 = ar cs 3 p 4 := h.2 3 (by decide)
  unfold wpX9_notNow
  refine ⟨in4 (k := 0) (by decide), ?_⟩
  intro z2 g2
  refine ⟨in4 (k := 1) (by decide), ?_⟩
  intro z4 g4 z5 g5
  rw [h.1] at g5
  subst g5
  refine ifF (by decide) (ifF (by decide) (ifF (by decide) (ifF (by decide) (ifF (by decide) (ifF (by decide) (ifF (by decide) (ifF (by decide) (ifF (by decide) (ifF (by decide) (ifF (by decide) (ifF (by decide) (ifF (by decide) (ifF (by decide) (ifF (by decide) (ifF (by decide) (ifF (by decide) (ifF (by decide) (ifF (by decide) (ifT rfl ?_)))))))))))))))))))
  have g2 : z2 = ar cs 3 p 1 := g2.trans b1
  subst g2
  have g4 : z4 = ar cs 3 p 2 := g4.trans b2
  subst g4
  refine ⟨in4 (k := 2) (by decide), in4 (k := 3) (by decide), ?_⟩
  show wpX9_notExchange post _ _ (G.1 196 2) (G.1 196 3) G
  rw [b3, b4]
  exact X
theorem ex_3 (h : MFd cs 3 p (G.1 196) (G.1 189 16)) (X : wpX9_exchanges post (ar cs 3 p 1) (ar cs 3 p 2) (ar cs 3 p 3) (ar cs 3 p 4) G) : wpX9_doesNow post G := by
  have b1 : G.1 196 0 = ar cs 3 p 1 := h.2 0 (by decide)
  have b2 : G.1 196 1 = ar cs 3 p 2 := h.2 1 (by decide)
  have b3 : G.1 196 2 = ar cs 3 p 3 := h.2 2 (by decide)
  have b4 : G.1 196 3 = ar cs 3 p 4 := h.2 3 (by decide)
  unfold wpX9_doesNow
  refine ⟨in4 (k := 0) (by decide), ?_⟩
  intro z2 g2
  refine ⟨in4 (k := 1) (by decide), ?_⟩
  intro z4 g4 z5 g5
  rw [h.1] at g5
  subst g5
  refine ifF (by decide) (ifF (by decide) (ifF (by decide) (ifF (by decide) (ifF (by decide) (ifF (by decide) (ifF (by decide) (ifF (by decide) (ifF (by decide) (ifF (by decide) (ifF (by decide) (ifF (by decide) (ifF (by decide) (ifF (by decide) (ifF (by decide) (ifF (by decide) (ifF (by decide) (ifF (by decide) (ifF (by decide) (ifT rfl ?_)))))))))))))))))))
  have g2 : z2 = ar cs 3 p 1 := g2.trans b1
  subst g2
  have g4 : z4 = ar cs 3 p 2 := g4.trans b2
  subst g4
  refine ⟨in4 (k := 2) (by decide), in4 (k := 3) (by decide), ?_⟩
  show wpX9_exchanges post _ _ (G.1 196 2) (G.1 196 3) G
  rw [b3, b4]
  exact X
theorem one_3 (B : NB n R A) : Not1 cs 3 p n R A := by
  obtain ⟨o, ho, hx, hm, hK⟩ := n_swap B (ar cs 3 p 1) (ar cs 3 p 2) (ar cs 3 p 3) (ar cs 3 p 4)
  have o5 : o < 5 := (by decide : ∀ o, o ∈ ([0, 1, 2, 3, 4] : List Nat) → o < 5) o ho
  have oi : cdA o = 0 ↔ o = 0 := (by decide : ∀ o, o ∈ ([0, 1, 2, 3, 4] : List Nat) → (cdA o = 0 ↔ o = 0)) o ho
  refine ⟨o, o5, fun G q pn C c k => cx_3 c (hx G _ C ⟨o5, k⟩), fun G post M m k => mx_3 m (hm G post M (k _ oi)), fun e => ?_⟩
  obtain ⟨v, k, t, f, hv, hk, ht, hkt, e1, ek, et, f1, f2, e4, c, d⟩ := hK e
  obtain ⟨n', R', A', val, fa, fr, ha, hd, hr, -⟩ := d_swap B hv hk ht hkt ek et f2 c d
  refine ⟨n', R', A', fa, fr, fun G q post C c k => dx_3 c ?_, fun G post M m k => ex_3 m ?_, hr⟩
  · rw [e1, e4]; exact ha G _ C (fun G' l => k G' l)
  · rw [e1, e4]; exact hd G _ M (fun G' l => k _ G' l)
theorem cx_4 (h : CFd cs 4 p (G.1 q)) (X : wpX3_refusalToIssue (fun r G => r < 5 ∧ pn r G) 0 (ar cs 4 p 1) (ar cs 4 p 4) G) : wpX8_refusalOf pn q G := by
  have a0 : (G.1 q 0).toNatClampNeg = 4 := by rw [h.1]; exact nI_clamp (by decide)
  have b1 : G.1 q 1 = ar cs 4 p 1 := h.2 0 (by decide)
  have b4 : G.1 q 4 = ar cs 4 p 4 := h.2 1 (by decide)
  unfold wpX8_refusalOf
  rw [a0]
  refine ⟨by decide, ⟨vp_in_nI (n := 4) (N := 10) (by decide) (by decide), ?_⟩⟩
  rintro z rfl
  refine ifF (by decide) (ifF (by decide) (ifF (by decide) (ifF (by decide) (ifF (by decide) (ifT rfl ?_)))))
  rw [b1, b4]
  exact X
theorem dx_4 (h : CFd cs 4 p (G.1 q)) (X : wpX3_issue (fun _ G => pg G) 0 (ar cs 4 p 1) (ar cs 4 p 4) G) : wpX8_carryOut pg q G := by
  have a0 : (G.1 q 0).toNatClampNeg = 4 := by rw [h.1]; exact nI_clamp (by decide)
  have b1 : G.1 q 1 = ar cs 4 p 1 := h.2 0 (by decide)
  have b4 : G.1 q 4 = ar cs 4 p 4 := h.2 1 (by decide)
  unfold wpX8_carryOut
  rw [a0]
  refine ⟨by decide, ⟨vp_in_nI (n := 4) (N := 10) (by decide) (by decide), ?_⟩⟩
  rintro z rfl
  refine ifF (by decide) (ifF (by decide) (ifF (by decide) (ifF (by decide) (ifF (by decide) (ifT rfl ?_)))))
  rw [b1, b4]
  exact X
theorem mx_4 (h : MFd cs 4 p (G.1 196) (G.1 189 16)) (X : wpX9_notMint post (ar cs 4 p 1) (ar cs 4 p 4) G) : wpX9_notNow post G := by
  have b1 : G.1 196 0 = ar cs 4 p 1 := h.2 0 (by decide)
  have b4 : G.1 196 1 = ar cs 4 p 4 := h.2 1 (by decide)
  unfold wpX9_notNow
  refine ⟨in4 (k := 0) (by decide), ?_⟩
  intro z2 g2
  refine ⟨in4 (k := 1) (by decide), ?_⟩
  intro z4 g4 z5 g5
  rw [h.1] at g5
  subst g5
  refine ifF (by decide) (ifF (by decide) (ifF (by decide) (ifF (by decide) (ifF (by decide) (ifF (by decide) (ifF (by decide) (ifF (by decide) (ifF (by decide) (ifF (by decide) (ifF (by decide) (ifF (by decide) (ifF (by decide) (ifT rfl ?_)))))))))))))
  have g2 : z2 = ar cs 4 p 1 := g2.trans b1
  subst g2
  have g4 : z4 = ar cs 4 p 4 := g4.trans b4
  subst g4
  exact X
theorem ex_4 (h : MFd cs 4 p (G.1 196) (G.1 189 16)) (X : wpX9_mints post (ar cs 4 p 1) (ar cs 4 p 4) G) : wpX9_doesNow post G := by
  have b1 : G.1 196 0 = ar cs 4 p 1 := h.2 0 (by decide)
  have b4 : G.1 196 1 = ar cs 4 p 4 := h.2 1 (by decide)
  unfold wpX9_doesNow
  refine ⟨in4 (k := 0) (by decide), ?_⟩
  intro z2 g2
  refine ⟨in4 (k := 1) (by decide), ?_⟩
  intro z4 g4 z5 g5
  rw [h.1] at g5
  subst g5
  refine ifF (by decide) (ifF (by decide) (ifF (by decide) (ifF (by decide) (ifF (by decide) (ifF (by decide) (ifF (by decide) (ifF (by decide) (ifF (by decide) (ifF (by decide) (ifF (by decide) (ifF (by decide) (ifF (by decide) (ifT rfl ?_)))))))))))))
  have g2 : z2 = ar cs 4 p 1 := g2.trans b1
  subst g2
  have g4 : z4 = ar cs 4 p 4 := g4.trans b4
  subst g4
  exact X
theorem one_4 (B : NB n R A) : Not1 cs 4 p n R A := by
  obtain ⟨o, ho, hx, hm, hK⟩ := n_mint B (ar cs 4 p 1) (ar cs 4 p 4)
  have o5 : o < 5 := (by decide : ∀ o, o ∈ ([0, 1, 2, 3, 4] : List Nat) → o < 5) o ho
  have oi : cdA o = 0 ↔ o = 0 := (by decide : ∀ o, o ∈ ([0, 1, 2, 3, 4] : List Nat) → (cdA o = 0 ↔ o = 0)) o ho
  refine ⟨o, o5, fun G q pn C c k => cx_4 c (hx G _ C ⟨o5, k⟩), fun G post M m k => mx_4 m (hm G post M (k _ oi)), fun e => ?_⟩
  obtain ⟨v, f, hv, e1, f1, f2, e4, c⟩ := hK e
  obtain ⟨n', R', A', val, fa, fr, ha, hd, hr, -⟩ := d_mint B hv c
  refine ⟨n', R', A', fa, fr, fun G q post C c k => dx_4 c ?_, fun G post M m k => ex_4 m ?_, hr⟩
  · rw [e1, e4]; exact ha G _ C (fun G' l => k G' l)
  · rw [e1, e4]; exact hd G _ M (fun G' l => k _ G' l)
theorem cx_5 (h : CFd cs 5 p (G.1 q)) (X : wpX3_refusalToMelt (fun r G => r < 5 ∧ pn r G) 0 (ar cs 5 p 1) (ar cs 5 p 4) G) : wpX8_refusalOf pn q G := by
  have a0 : (G.1 q 0).toNatClampNeg = 5 := by rw [h.1]; exact nI_clamp (by decide)
  have b1 : G.1 q 1 = ar cs 5 p 1 := h.2 0 (by decide)
  have b4 : G.1 q 4 = ar cs 5 p 4 := h.2 1 (by decide)
  unfold wpX8_refusalOf
  rw [a0]
  refine ⟨by decide, ⟨vp_in_nI (n := 5) (N := 10) (by decide) (by decide), ?_⟩⟩
  rintro z rfl
  refine ifF (by decide) (ifF (by decide) (ifF (by decide) (ifF (by decide) (ifF (by decide) (ifF (by decide) (ifT rfl ?_))))))
  rw [b1, b4]
  exact X
theorem dx_5 (h : CFd cs 5 p (G.1 q)) (X : wpX3_melt (fun _ G => pg G) 0 (ar cs 5 p 1) (ar cs 5 p 4) G) : wpX8_carryOut pg q G := by
  have a0 : (G.1 q 0).toNatClampNeg = 5 := by rw [h.1]; exact nI_clamp (by decide)
  have b1 : G.1 q 1 = ar cs 5 p 1 := h.2 0 (by decide)
  have b4 : G.1 q 4 = ar cs 5 p 4 := h.2 1 (by decide)
  unfold wpX8_carryOut
  rw [a0]
  refine ⟨by decide, ⟨vp_in_nI (n := 5) (N := 10) (by decide) (by decide), ?_⟩⟩
  rintro z rfl
  refine ifF (by decide) (ifF (by decide) (ifF (by decide) (ifF (by decide) (ifF (by decide) (ifF (by decide) (ifT rfl ?_))))))
  rw [b1, b4]
  exact X
theorem mx_5 (h : MFd cs 5 p (G.1 196) (G.1 189 16)) (X : wpX9_notRedeem post (ar cs 5 p 1) (ar cs 5 p 4) G) : wpX9_notNow post G := by
  have b1 : G.1 196 0 = ar cs 5 p 1 := h.2 0 (by decide)
  have b4 : G.1 196 1 = ar cs 5 p 4 := h.2 1 (by decide)
  unfold wpX9_notNow
  refine ⟨in4 (k := 0) (by decide), ?_⟩
  intro z2 g2
  refine ⟨in4 (k := 1) (by decide), ?_⟩
  intro z4 g4 z5 g5
  rw [h.1] at g5
  subst g5
  refine ifF (by decide) (ifF (by decide) (ifF (by decide) (ifF (by decide) (ifF (by decide) (ifT rfl ?_)))))
  have g2 : z2 = ar cs 5 p 1 := g2.trans b1
  subst g2
  have g4 : z4 = ar cs 5 p 4 := g4.trans b4
  subst g4
  exact X
theorem ex_5 (h : MFd cs 5 p (G.1 196) (G.1 189 16)) (X : wpX9_redeems post (ar cs 5 p 1) (ar cs 5 p 4) G) : wpX9_doesNow post G := by
  have b1 : G.1 196 0 = ar cs 5 p 1 := h.2 0 (by decide)
  have b4 : G.1 196 1 = ar cs 5 p 4 := h.2 1 (by decide)
  unfold wpX9_doesNow
  refine ⟨in4 (k := 0) (by decide), ?_⟩
  intro z2 g2
  refine ⟨in4 (k := 1) (by decide), ?_⟩
  intro z4 g4 z5 g5
  rw [h.1] at g5
  subst g5
  refine ifF (by decide) (ifF (by decide) (ifF (by decide) (ifF (by decide) (ifF (by decide) (ifT rfl ?_)))))
  have g2 : z2 = ar cs 5 p 1 := g2.trans b1
  subst g2
  have g4 : z4 = ar cs 5 p 4 := g4.trans b4
  subst g4
  exact X
theorem one_5 (B : NB n R A) : Not1 cs 5 p n R A := by
  obtain ⟨o, ho, hx, hm, hK⟩ := n_melt B (ar cs 5 p 1) (ar cs 5 p 4)
  have o5 : o < 5 := (by decide : ∀ o, o ∈ ([0, 1, 2, 4] : List Nat) → o < 5) o ho
  have oi : cdR o = 0 ↔ o = 0 := (by decide : ∀ o, o ∈ ([0, 1, 2, 4] : List Nat) → (cdR o = 0 ↔ o = 0)) o ho
  refine ⟨o, o5, fun G q pn C c k => cx_5 c (hx G _ C ⟨o5, k⟩), fun G post M m k => mx_5 m (hm G post M (k _ oi)), fun e => ?_⟩
  obtain ⟨v, f, hv, e1, f1, f2, e4, c⟩ := hK e
  obtain ⟨n', R', A', val, fa, fr, ha, hd, hr, -⟩ := d_melt B hv c
  refine ⟨n', R', A', fa, fr, fun G q post C c k => dx_5 c ?_, fun G post M m k => ex_5 m ?_, hr⟩
  · rw [e1, e4]; exact ha G _ C (fun G' l => k G' l)
  · rw [e1, e4]; exact hd G _ M (fun G' l => k _ G' l)
theorem cx_6 (h : CFd cs 6 p (G.1 q)) (X : wpX3_refusalToInspect (fun r G => r < 5 ∧ pn r G) 0 (ar cs 6 p 1) G) : wpX8_refusalOf pn q G := by
  have a0 : (G.1 q 0).toNatClampNeg = 6 := by rw [h.1]; exact nI_clamp (by decide)
  have b1 : G.1 q 1 = ar cs 6 p 1 := h.2 0 (by decide)
  unfold wpX8_refusalOf
  rw [a0]
  refine ⟨by decide, ⟨vp_in_nI (n := 6) (N := 10) (by decide) (by decide), ?_⟩⟩
  rintro z rfl
  refine ifF (by decide) (ifF (by decide) (ifF (by decide) (ifF (by decide) (ifF (by decide) (ifF (by decide) (ifF (by decide) (ifT rfl ?_)))))))
  rw [b1]
  exact X
theorem dx_6 (h : CFd cs 6 p (G.1 q)) (X : wpX3_inspect (fun _ G => pg G) 0 (ar cs 6 p 1) G) : wpX8_carryOut pg q G := by
  have a0 : (G.1 q 0).toNatClampNeg = 6 := by rw [h.1]; exact nI_clamp (by decide)
  have b1 : G.1 q 1 = ar cs 6 p 1 := h.2 0 (by decide)
  unfold wpX8_carryOut
  rw [a0]
  refine ⟨by decide, ⟨vp_in_nI (n := 6) (N := 10) (by decide) (by decide), ?_⟩⟩
  rintro z rfl
  refine ifF (by decide) (ifF (by decide) (ifF (by decide) (ifF (by decide) (ifF (by decide) (ifF (by decide) (ifF (by decide) (ifT rfl ?_)))))))
  rw [b1]
  exact X
theorem mx_6 (h : MFd cs 6 p (G.1 196) (G.1 189 16)) (X : wpX9_notAudit post (ar cs 6 p 1) G) : wpX9_notNow post G := by
  have b1 : G.1 196 0 = ar cs 6 p 1 := h.2 0 (by decide)
  unfold wpX9_notNow
  refine ⟨in4 (k := 0) (by decide), ?_⟩
  intro z2 g2
  refine ⟨in4 (k := 1) (by decide), ?_⟩
  intro z4 g4 z5 g5
  rw [h.1] at g5
  subst g5
  refine ifF (by decide) (ifT rfl ?_)
  have g2 : z2 = ar cs 6 p 1 := g2.trans b1
  subst g2
  exact X
theorem ex_6 (h : MFd cs 6 p (G.1 196) (G.1 189 16)) (X : wpX9_audits post (ar cs 6 p 1) G) : wpX9_doesNow post G := by
  have b1 : G.1 196 0 = ar cs 6 p 1 := h.2 0 (by decide)
  unfold wpX9_doesNow
  refine ⟨in4 (k := 0) (by decide), ?_⟩
  intro z2 g2
  refine ⟨in4 (k := 1) (by decide), ?_⟩
  intro z4 g4 z5 g5
  rw [h.1] at g5
  subst g5
  refine ifF (by decide) (ifT rfl ?_)
  have g2 : z2 = ar cs 6 p 1 := g2.trans b1
  subst g2
  exact X
theorem one_6 (B : NB n R A) : Not1 cs 6 p n R A := by
  obtain ⟨o, ho, hx, hm, hK⟩ := n_inspect B (ar cs 6 p 1)
  have o5 : o < 5 := (by decide : ∀ o, o ∈ ([0, 1, 3] : List Nat) → o < 5) o ho
  have oi : cdI o = 0 ↔ o = 0 := (by decide : ∀ o, o ∈ ([0, 1, 3] : List Nat) → (cdI o = 0 ↔ o = 0)) o ho
  refine ⟨o, o5, fun G q pn C c k => cx_6 c (hx G _ C ⟨o5, k⟩), fun G post M m k => mx_6 m (hm G post M (k _ oi)), fun e => ?_⟩
  obtain ⟨v, hv, e1⟩ := hK e
  obtain ⟨n', R', A', val, fa, fr, ha, hd, hr, -⟩ := d_inspect B hv
  refine ⟨n', R', A', fa, fr, fun G q post C c k => dx_6 c ?_, fun G post M m k => ex_6 m ?_, hr⟩
  · rw [e1]; exact ha G _ C (fun G' l => k G' l)
  · rw [e1]; exact hd G _ M (fun G' l => k _ G' l)
theorem cx_7 (h : CFd cs 7 p (G.1 q)) (X : wpX3_refusalToRate (fun r G => r < 5 ∧ pn r G) 0 (ar cs 7 p 2) (ar cs 7 p 4) G) : wpX8_refusalOf pn q G := by
  have a0 : (G.1 q 0).toNatClampNeg = 7 := by rw [h.1]; exact nI_clamp (by decide)
  have b2 : G.1 q 2 = ar cs 7 p 2 := h.2 0 (by decide)
  have b4 : G.1 q 4 = ar cs 7 p 4 := h.2 1 (by decide)
  unfold wpX8_refusalOf
  rw [a0]
  refine ⟨by decide, ⟨vp_in_nI (n := 7) (N := 10) (by decide) (by decide), ?_⟩⟩
  rintro z rfl
  refine ifF (by decide) (ifF (by decide) (ifF (by decide) (ifF (by decide) (ifF (by decide) (ifF (by decide) (ifF (by decide) (ifF (by decide) (ifT rfl ?_))))))))
  rw [b2, b4]
  exact X
theorem dx_7 (h : CFd cs 7 p (G.1 q)) (X : wpX3_changeRate (fun _ G => pg G) 0 (ar cs 7 p 2) (ar cs 7 p 4) G) : wpX8_carryOut pg q G := by
  have a0 : (G.1 q 0).toNatClampNeg = 7 := by rw [h.1]; exact nI_clamp (by decide)
  have b2 : G.1 q 2 = ar cs 7 p 2 := h.2 0 (by decide)
  have b4 : G.1 q 4 = ar cs 7 p 4 := h.2 1 (by decide)
  unfold wpX8_carryOut
  rw [a0]
  refine ⟨by decide, ⟨vp_in_nI (n := 7) (N := 10) (by decide) (by decide), ?_⟩⟩
  rintro z rfl
  refine ifF (by decide) (ifF (by decide) (ifF (by decide) (ifF (by decide) (ifF (by decide) (ifF (by decide) (ifF (by decide) (ifF (by decide) (ifT rfl ?_))))))))
  rw [b2, b4]
  exact X
theorem mx_7 (h : MFd cs 7 p (G.1 196) (G.1 189 16)) (X : wpX9_notRate post (ar cs 7 p 2) (ar cs 7 p 4) G) : wpX9_notNow post G := by
  have b2 : G.1 196 0 = ar cs 7 p 2 := h.2 0 (by decide)
  have b4 : G.1 196 1 = ar cs 7 p 4 := h.2 1 (by decide)
  unfold wpX9_notNow
  refine ⟨in4 (k := 0) (by decide), ?_⟩
  intro z2 g2
  refine ⟨in4 (k := 1) (by decide), ?_⟩
  intro z4 g4 z5 g5
  rw [h.1] at g5
  subst g5
  refine ifF (by decide) (ifF (by decide) (ifF (by decide) (ifF (by decide) (ifF (by decide) (ifF (by decide) (ifF (by decide) (ifF (by decide) (ifF (by decide) (ifF (by decide) (ifF (by decide) (ifF (by decide) (ifF (by decide) (ifF (by decide) (ifF (by decide) (ifF (by decide) (ifF (by decide) (ifF (by decide) (ifT rfl ?_))))))))))))))))))
  have g2 : z2 = ar cs 7 p 2 := g2.trans b2
  subst g2
  have g4 : z4 = ar cs 7 p 4 := g4.trans b4
  subst g4
  exact X
theorem ex_7 (h : MFd cs 7 p (G.1 196) (G.1 189 16)) (X : wpX9_setsRate post (ar cs 7 p 2) (ar cs 7 p 4) G) : wpX9_doesNow post G := by
  have b2 : G.1 196 0 = ar cs 7 p 2 := h.2 0 (by decide)
  have b4 : G.1 196 1 = ar cs 7 p 4 := h.2 1 (by decide)
  unfold wpX9_doesNow
  refine ⟨in4 (k := 0) (by decide), ?_⟩
  intro z2 g2
  refine ⟨in4 (k := 1) (by decide), ?_⟩
  intro z4 g4 z5 g5
  rw [h.1] at g5
  subst g5
  refine ifF (by decide) (ifF (by decide) (ifF (by decide) (ifF (by decide) (ifF (by decide) (ifF (by decide) (ifF (by decide) (ifF (by decide) (ifF (by decide) (ifF (by decide) (ifF (by decide) (ifF (by decide) (ifF (by decide) (ifF (by decide) (ifF (by decide) (ifF (by decide) (ifF (by decide) (ifF (by decide) (ifT rfl ?_))))))))))))))))))
  have g2 : z2 = ar cs 7 p 2 := g2.trans b2
  subst g2
  have g4 : z4 = ar cs 7 p 4 := g4.trans b4
  subst g4
  exact X
theorem one_7 (B : NB n R A) : Not1 cs 7 p n R A := by
  obtain ⟨o, ho, hx, hm, hK⟩ := n_rate (n := n) (R := R) (A := A) (ar cs 7 p 2) (ar cs 7 p 4)
  have o5 : o < 5 := (by decide : ∀ o, o ∈ ([0, 2] : List Nat) → o < 5) o ho
  have oi : cdO o = 0 ↔ o = 0 := (by decide : ∀ o, o ∈ ([0, 2] : List Nat) → (cdO o = 0 ↔ o = 0)) o ho
  refine ⟨o, o5, fun G q pn C c k => cx_7 c (hx G _ C ⟨o5, k⟩), fun G post M m k => mx_7 m (hm G post M (k _ oi)), fun e => ?_⟩
  obtain ⟨k, f, hk, ek, f1, f2, e4⟩ := hK e
  obtain ⟨n', R', A', val, fa, fr, ha, hd, hr, -⟩ := d_rate B hk ek f1 f2
  refine ⟨n', R', A', fa, fr, fun G q post C c k => dx_7 c ?_, fun G post M m k => ex_7 m ?_, hr⟩
  · rw [e4]; exact ha G _ C (fun G' l => k G' l)
  · rw [e4]; exact hd G _ M (fun G' l => k _ G' l)
theorem cx_8 (h : CFd cs 8 p (G.1 q)) (X : wpX3_refusalToStick (fun r G => r < 5 ∧ pn r G) 0 (ar cs 8 p 1) (ar cs 8 p 4) G) : wpX8_refusalOf pn q G := by
  have a0 : (G.1 q 0).toNatClampNeg = 8 := by rw [h.1]; exact nI_clamp (by decide)
  have b1 : G.1 q 1 = ar cs 8 p 1 := h.2 0 (by decide)
  have b4 : G.1 q 4 = ar cs 8 p 4 := h.2 1 (by decide)
  unfold wpX8_refusalOf
  rw [a0]
  refine ⟨by decide, ⟨vp_in_nI (n := 8) (N := 10) (by decide) (by decide), ?_⟩⟩
  rintro z rfl
  refine ifF (by decide) (ifF (by decide) (ifF (by decide) (ifF (by decide) (ifF (by decide) (ifF (by decide) (ifF (by decide) (ifF (by decide) (ifF (by decide) (ifT rfl ?_)))))))))
  rw [b1, b4]
  exact X
theorem dx_8 (h : CFd cs 8 p (G.1 q)) (X : wpX3_changeStickiness (fun _ G => pg G) 0 (ar cs 8 p 1) (ar cs 8 p 4) G) : wpX8_carryOut pg q G := by
  have a0 : (G.1 q 0).toNatClampNeg = 8 := by rw [h.1]; exact nI_clamp (by decide)
  have b1 : G.1 q 1 = ar cs 8 p 1 := h.2 0 (by decide)
  have b4 : G.1 q 4 = ar cs 8 p 4 := h.2 1 (by decide)
  unfold wpX8_carryOut
  rw [a0]
  refine ⟨by decide, ⟨vp_in_nI (n := 8) (N := 10) (by decide) (by decide), ?_⟩⟩
  rintro z rfl
  refine ifF (by decide) (ifF (by decide) (ifF (by decide) (ifF (by decide) (ifF (by decide) (ifF (by decide) (ifF (by decide) (ifF (by decide) (ifF (by decide) (ifT rfl ?_)))))))))
  rw [b1, b4]
  exact X
theorem mx_8 (h : MFd cs 8 p (G.1 196) (G.1 189 16)) (X : wpX9_notStick post (ar cs 8 p 1) (ar cs 8 p 4) G) : wpX9_notNow post G := by
  have b1 : G.1 196 0 = ar cs 8 p 1 := h.2 0 (by decide)
  have b4 : G.1 196 1 = ar cs 8 p 4 := h.2 1 (by decide)
  unfold wpX9_notNow
  refine ⟨in4 (k := 0) (by decide), ?_⟩
  intro z2 g2
  refine ⟨in4 (k := 1) (by decide), ?_⟩
  intro z4 g4 z5 g5
  rw [h.1] at g5
  subst g5
  refine ifF (by decide) (ifF (by decide) (ifF (by decide) (ifF (by decide) (ifF (by decide) (ifF (by decide) (ifF (by decide) (ifF (by decide) (ifF (by decide) (ifF (by decide) (ifF (by decide) (ifT rfl ?_)))))))))))
  have g2 : z2 = ar cs 8 p 1 := g2.trans b1
  subst g2
  have g4 : z4 = ar cs 8 p 4 := g4.trans b4
  subst g4
  exact X
theorem ex_8 (h : MFd cs 8 p (G.1 196) (G.1 189 16)) (X : wpX9_sticks post (ar cs 8 p 1) (ar cs 8 p 4) G) : wpX9_doesNow post G := by
  have b1 : G.1 196 0 = ar cs 8 p 1 := h.2 0 (by decide)
  have b4 : G.1 196 1 = ar cs 8 p 4 := h.2 1 (by decide)
  unfold wpX9_doesNow
  refine ⟨in4 (k := 0) (by decide), ?_⟩
  intro z2 g2
  refine ⟨in4 (k := 1) (by decide), ?_⟩
  intro z4 g4 z5 g5
  rw [h.1] at g5
  subst g5
  refine ifF (by decide) (ifF (by decide) (ifF (by decide) (ifF (by decide) (ifF (by decide) (ifF (by decide) (ifF (by decide) (ifF (by decide) (ifF (by decide) (ifF (by decide) (ifF (by decide) (ifT rfl ?_)))))))))))
  have g2 : z2 = ar cs 8 p 1 := g2.trans b1
  subst g2
  have g4 : z4 = ar cs 8 p 4 := g4.trans b4
  subst g4
  exact X
theorem one_8 (B : NB n R A) : Not1 cs 8 p n R A := by
  obtain ⟨o, ho, hx, hm, hK⟩ := n_stick B (ar cs 8 p 1) (ar cs 8 p 4)
  have o5 : o < 5 := (by decide : ∀ o, o ∈ ([0, 1, 2] : List Nat) → o < 5) o ho
  have oi : cdA o = 0 ↔ o = 0 := (by decide : ∀ o, o ∈ ([0, 1, 2] : List Nat) → (cdA o = 0 ↔ o = 0)) o ho
  refine ⟨o, o5, fun G q pn C c k => cx_8 c (hx G _ C ⟨o5, k⟩), fun G post M m k => mx_8 m (hm G post M (k _ oi)), fun e => ?_⟩
  obtain ⟨v, t, hv, e1, ht, e4⟩ := hK e
  obtain ⟨n', R', A', val, fa, fr, ha, hd, hr, -⟩ := d_stick B hv ht
  refine ⟨n', R', A', fa, fr, fun G q post C c k => dx_8 c ?_, fun G post M m k => ex_8 m ?_, hr⟩
  · rw [e1, e4]; exact ha G _ C (fun G' l => k G' l)
  · rw [e1, e4]; exact hd G _ M (fun G' l => k _ G' l)
theorem cx_9 (h : CFd cs 9 p (G.1 q)) (X : wpX3_refusalToWait (fun r G => r < 5 ∧ pn r G) 0 (ar cs 9 p 4) G) : wpX8_refusalOf pn q G := by
  have a0 : (G.1 q 0).toNatClampNeg = 9 := by rw [h.1]; exact nI_clamp (by decide)
  have b4 : G.1 q 4 = ar cs 9 p 4 := h.2 0 (by decide)
  unfold wpX8_refusalOf
  rw [a0]
  refine ⟨by decide, ⟨vp_in_nI (n := 9) (N := 10) (by decide) (by decide), ?_⟩⟩
  rintro z rfl
  refine ifT (by decide) ?_
  rw [b4]
  exact X
theorem dx_9 (h : CFd cs 9 p (G.1 q)) (X : wpX3_letPass (fun _ G => pg G) 0 (ar cs 9 p 4) G) : wpX8_carryOut pg q G := by
  have a0 : (G.1 q 0).toNatClampNeg = 9 := by rw [h.1]; exact nI_clamp (by decide)
  have b4 : G.1 q 4 = ar cs 9 p 4 := h.2 0 (by decide)
  unfold wpX8_carryOut
  rw [a0]
  refine ⟨by decide, ⟨vp_in_nI (n := 9) (N := 10) (by decide) (by decide), ?_⟩⟩
  rintro z rfl
  refine ifT (by decide) ?_
  rw [b4]
  exact X
theorem mx_9 (h : MFd cs 9 p (G.1 196) (G.1 189 16)) (X : wpX9_notDays post (ar cs 9 p 4) G) : wpX9_notNow post G := by
  have b4 : G.1 196 0 = ar cs 9 p 4 := h.2 0 (by decide)
  unfold wpX9_notNow
  refine ⟨in4 (k := 0) (by decide), ?_⟩
  intro z2 g2
  refine ⟨in4 (k := 1) (by decide), ?_⟩
  intro z4 g4 z5 g5
  rw [h.1] at g5
  subst g5
  refine ifF (by decide) (ifF (by decide) (ifF (by decide) (ifF (by decide) (ifT rfl ?_))))
  have g2 : z2 = ar cs 9 p 4 := g2.trans b4
  subst g2
  exact X
theorem ex_9 (h : MFd cs 9 p (G.1 196) (G.1 189 16)) (X : wpX9_passes post (ar cs 9 p 4) G) : wpX9_doesNow post G := by
  have b4 : G.1 196 0 = ar cs 9 p 4 := h.2 0 (by decide)
  unfold wpX9_doesNow
  refine ⟨in4 (k := 0) (by decide), ?_⟩
  intro z2 g2
  refine ⟨in4 (k := 1) (by decide), ?_⟩
  intro z4 g4 z5 g5
  rw [h.1] at g5
  subst g5
  refine ifF (by decide) (ifF (by decide) (ifF (by decide) (ifF (by decide) (ifT rfl ?_))))
  have g2 : z2 = ar cs 9 p 4 := g2.trans b4
  subst g2
  exact X
theorem one_9 (B : NB n R A) : Not1 cs 9 p n R A := by
  obtain ⟨o, ho, hx, hm, hK⟩ := n_wait (n := n) (R := R) (A := A) (ar cs 9 p 4)
  have o5 : o < 5 := (by decide : ∀ o, o ∈ ([0, 2] : List Nat) → o < 5) o ho
  have oi : cdO o = 0 ↔ o = 0 := (by decide : ∀ o, o ∈ ([0, 2] : List Nat) → (cdO o = 0 ↔ o = 0)) o ho
  refine ⟨o, o5, fun G q pn C c k => cx_9 c (hx G _ C ⟨o5, k⟩), fun G post M m k => mx_9 m (hm G post M (k _ oi)), fun e => ?_⟩
  obtain ⟨d, d1, d2, e4⟩ := hK e
  obtain ⟨n', R', A', val, fa, fr, ha, hd, hr, -⟩ := d_wait B d2
  refine ⟨n', R', A', fa, fr, fun G q post C c k => dx_9 c ?_, fun G post M m k => ex_9 m ?_, hr⟩
  · rw [e4]; exact ha G _ C (fun G' l => k G' l)
  · rw [e4]; exact hd G _ M (fun G' l => k _ G' l)
theorem one (B : NB n R A) {k : Nat} (hk : k < 10) : Not1 cs k p n R A := by
  obtain rfl | rfl | rfl | rfl | rfl | rfl | rfl | rfl | rfl | rfl : k = 0 ∨ k = 1 ∨ k = 2 ∨ k = 3 ∨ k = 4 ∨ k = 5 ∨ k = 6 ∨ k = 7 ∨ k = 8 ∨ k = 9 := by omega
  · exact one_0 B
  · exact one_1 B
  · exact one_2 B
  · exact one_3 B
  · exact one_4 B
  · exact one_5 B
  · exact one_6 B
  · exact one_7 B
  · exact one_8 B
  · exact one_9 B
end ONE
