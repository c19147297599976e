/-! what holds between two calls -/
def RBx (a r : Nat → Int32) : Prop := ∃ (n : Nat) (R : Nat → Nat) (A : Nat → Nat → Nat), NB n R A ∧ CR a n R A ∧ MR r n R A ∧ TR a r
def HI (M : Nat → Nat → Int32) : Prop :=
  ∃ j s f : Nat, j < 8 ∧ s ≤ 8 ∧ f < 8 ∧ M 166 1 = nI j ∧ M 166 2 = nI s ∧ M 189 5 = nI s ∧ M 189 6 = nI f ∧
    ∀ i, i < s → RBx (lg M (45 + 15 * ((j + 8 - i) % 8))) (fun k => M 191 (56 * ((f + s + 7 - i) % 8) + k))
def SI (M : Nat → Nat → Int32) : Prop := (M 165 6 = 0 ∧ M 189 7 = 0) ∨ (M 165 6 = 1 ∧ M 189 7 = 1 ∧ RBx (lg M 15) (M 192))
def EI (M : Nat → Nat → Int32) : Prop :=
  (M 165 7 = M 189 13 ∧ (M 189 13 = -1 ∨ ∃ x, x < 100 ∧ M 189 13 = nI x)) ∧ (M 165 8 = M 189 14 ∧ (M 189 14 = -1 ∨ ∃ x, x < 100 ∧ M 189 14 = nI x))
def XI (M : Nat → Nat → Int32) : Prop :=
  ∃ L : Nat, L ≤ 60 ∧ M 168 2 = nI L ∧ M 189 11 = nI L ∧ ∀ i, i < L → M 169 i = M 195 i ∧ ∃ c, 32 ≤ c ∧ c ≤ 126 ∧ M 195 i = nI c
def OI (M : Nat → Nat → Int32) (cap : Nat) : Prop :=
  M 187 1 = 0 ∧ (cap = 16 ∨ cap = 34) ∧ (∀ i, fits .byte (.int (M 188 i)) = true) ∧ ∃ len : Nat, len ≤ 30 ∧ len ≤ cap ∧ M 187 3 = nI len ∧ M 189 9 = nI len ∧ ∀ i, i < len → ∃ c, c < 128 ∧ M 188 i = nI c ∧ M 194 i = nI c
def Inv (G : GS) : Prop := RBx (lg G.1 0) (G.1 190) ∧ HI G.1 ∧ SI G.1 ∧ EI G.1 ∧ XI G.1 ∧ OI G.1 G.2.1.2
theorem RBx_cong {a r r' : Nat → Int32} (h : RBx a r) (e : ∀ k, k < 56 → r' k = r k) : RBx a r' := by
  obtain ⟨n, R, A, B, C, M, T⟩ := h
  have h5 := B.1
  refine ⟨n, R, A, B, C, ⟨?_, fun k hk => ?_, fun v j hv hj => ?_⟩, fun k hk => ?_⟩
  · rw [e 0 (by decide)]; exact M.1
  · rw [e _ (by omega)]; exact M.2.1 k hk
  · rw [e _ (by omega)]; exact M.2.2 v j hv hj
  · have := tk_lt hk
    rw [e _ (by omega)]; exact T k hk
theorem HI_fr {M M' : Nat → Nat → Int32} (h : HI M) (hl : ∀ q, 45 ≤ q → q < 165 → M' q = M q) (h1 : M' 166 = M 166) (h2 : M' 191 = M 191) (h3 : M' 189 5 = M 189 5) (h4 : M' 189 6 = M 189 6) : HI M' := by
  obtain ⟨j, s, f, a, b, c, d, e, g, k, l⟩ := h
  refine ⟨j, s, f, a, b, c, by rw [h1]; exact d, by rw [h1]; exact e, by rw [h3]; exact g, by rw [h4]; exact k, fun i hi => ?_⟩
  have := Nat.mod_lt (j + 8 - i) (show 0 < 8 by decide)
  rw [lg_same (M := M) (fun q h1 h2 => hl q (by omega) (by omega)), h2]
  exact l i hi
theorem SI_fr {M M' : Nat → Nat → Int32} (h : SI M) (hl : ∀ q, 15 ≤ q → q < 30 → M' q = M q) (h1 : M' 165 6 = M 165 6) (h2 : M' 189 7 = M 189 7) (h3 : M' 192 = M 192) : SI M' := by
  unfold SI
  rw [h1, h2, h3, lg_same (M := M) (fun q h1 h2 => hl q h1 (by omega))]
  exact h
theorem EI_fr {M M' : Nat → Nat → Int32} (h : EI M) (h1 : M' 165 7 = M 165 7) (h2 : M' 165 8 = M 165 8) (h3 : M' 189 13 = M 189 13) (h4 : M' 189 14 = M 189 14) : EI M' := by
  unfold EI
  rw [h1, h2, h3, h4]
  exact h
theorem XI_fr {M M' : Nat → Nat → Int32} (h : XI M) (h1 : M' 168 2 = M 168 2) (h2 : M' 169 = M 169) (h3 : M' 189 11 = M 189 11) (h4 : M' 195 = M 195) : XI M' := by
  unfold XI
  rw [h1, h2, h3, h4]
  exact h
theorem OI_fr {M M' : Nat → Nat → Int32} {c : Nat} (h : OI M c) (h1 : M' 187 = M 187) (h2 : M' 188 = M 188) (h3 : M' 189 9 = M 189 9) (h4 : M' 194 = M 194) : OI M' c := by
  unfold OI
  rw [h1, h2, h3, h4]
  exact h
/-- only what the model has thrown is other -/
theorem Inv_fr {G G' : GS} (h : Inv G) (h1 : ∀ q, q ≠ 189 → G'.1 q = G.1 q) (h2 : ∀ k, k ≠ 0 → G'.1 189 k = G.1 189 k) (h3 : G'.2.1.2 = G.2.1.2) : Inv G' := by
  obtain ⟨a, b, c, d, e, f⟩ := h
  unfold Inv
  rw [h3, lg_same (M := G.1) (M' := G'.1) (b := 0) (fun q _ h => h1 q (by omega)), h1 190 (by decide)]
  refine ⟨a, HI_fr b (fun q _ _ => h1 q (by omega)) (h1 _ (by decide)) (h1 _ (by decide)) (h2 _ (by decide)) (h2 _ (by decide)), SI_fr c (fun q _ _ => h1 q (by omega)) (by rw [h1 165 (by decide)]) (h2 _ (by decide)) (h1 _ (by decide)), EI_fr d (by rw [h1 165 (by decide)]) (by rw [h1 165 (by decide)]) (h2 _ (by decide)) (h2 _ (by decide)), XI_fr e (by rw [h1 168 (by decide)]) (h1 _ (by decide)) (h2 _ (by decide)) (h1 _ (by decide)), OI_fr f (h1 _ (by decide)) (h1 _ (by decide)) (h2 _ (by decide)) (h1 _ (by decide))⟩
theorem Inv_th {G : GS} (h : Inv G) (x : Int32) : Inv (gI G 189 0 x) := Inv_fr h (fun q hq => gI_ne _ _ _ hq) (fun k hk => by rw [gI_at, upd_ne _ _ hk]) rfl
theorem Inv_gL {G : GS} (h : Inv G) (k : Nat) (x : Int64) : Inv (gL G k x) := h
theorem Inv_gD {G : GS} (h : Inv G) (k : Nat) (x : UInt64) : Inv (gD G k x) := h
/-- what the law does behind both calls -/
def FIN (K : GS → Prop) (r3 : Int32) : Int32 → GS → Prop := fun r6 G5 =>
  wpX9_thrown (fun (r8 : Int32) (G7 : GS) =>
      if r8 = r3 then
        if r3 = 0 then
          vp_in 0 1 ∧
            if (lg_cmp (G7.2.2.1 (0 : Int32).toNatClampNeg) r6.toInt64) = 0 then
            K G7
          else
            False
        else
          K G7
      else
        False) G5
theorem lg_cmp_self (x : Int64) : lg_cmp x x = 0 := by
  unfold lg_cmp
  rw [if_neg (Int64.lt_irrefl), if_pos rfl]
theorem vin01 : vp_in 0 1 := vp_in_nI (n := 0) (by decide) (by decide)
theorem fin0 {K : GS → Prop} {G : GS} {r : Int32} (ht : G.1 189 0 = 0) (hv : G.2.2.1 0 = r.toInt64) (h : K G) : FIN K 0 r G := by
  unfold FIN wpX9_thrown
  rw [ht]
  refine ifT rfl (ifT rfl ⟨vin01, ?_⟩)
  show if lg_cmp (G.2.2.1 0) r.toInt64 = 0 then _ else _
  rw [hv, lg_cmp_self]
  exact ifT rfl h
theorem finE {K : GS → Prop} {G : GS} {c r : Int32} (hc : c ≠ 0) (ht : G.1 189 0 = c) (h : K G) : FIN K c r G := by
  unfold FIN wpX9_thrown
  rw [ht]
  exact ifT rfl (ifF hc h)
/-- the history with a row more -/
theorem HI_push {M M' : Nat → Nat → Int32} {j s f : Nat} {a w : Nat → Int32} (hj : j < 8) (hs : s ≤ 8) (hf : f < 8) (old : ∀ i, i < s → RBx (lg M (45 + 15 * ((j + 8 - i) % 8))) (fun k => M 191 (56 * ((f + s + 7 - i) % 8) + k))) (new : RBx a w)
    (h1 : M' 166 1 = nI ((j + 1) % 8)) (h2 : M' 166 2 = nI (s1 s)) (h5 : M' 189 5 = nI (s1 s)) (h6 : M' 189 6 = nI (f1 f s)) (ha : lg M' (45 + 15 * ((j + 1) % 8)) = a) (hl : ∀ t, t < 8 → t ≠ (j + 1) % 8 → lg M' (45 + 15 * t) = lg M (45 + 15 * t))
    (hw : ∀ k, k < 56 → M' 191 (56 * ((f1 f s + s1 s + 7) % 8) + k) = w k) (ho : ∀ k, (k < 56 * ((f1 f s + s1 s + 7) % 8) ∨ 56 * ((f1 f s + s1 s + 7) % 8) + 56 ≤ k) → M' 191 k = M 191 k) : HI M' := by
  have es : (s = 8 ∧ s1 s = 8 ∧ f1 f s = (f + 1) % 8) ∨ (s < 8 ∧ s1 s = s + 1 ∧ f1 f s = f) := by
    unfold s1 f1
    by_cases e : s = 8
    · rw [if_pos e, if_pos e]; exact Or.inl ⟨e, rfl, rfl⟩
    · rw [if_neg e, if_neg e]; exact Or.inr ⟨by omega, rfl, rfl⟩
  refine ⟨(j + 1) % 8, s1 s, f1 f s, Nat.mod_lt _ (by decide), by omega, by omega, h1, h2, h5, h6, fun i hi => ?_⟩
  by_cases c : i = 0
  · subst c
    rw [show ((j + 1) % 8 + 8 - 0) % 8 = (j + 1) % 8 by omega, ha, Nat.sub_zero]
    exact RBx_cong new hw
  · have o := old (i - 1) (by omega)
    rw [show ((j + 1) % 8 + 8 - i) % 8 = (j + 8 - (i - 1)) % 8 by omega, hl _ (Nat.mod_lt _ (by decide)) (by omega)]
    refine RBx_cong o (fun k hk => ?_)
    rw [show (f1 f s + s1 s + 7 - i) % 8 = (f + s + 7 - (i - 1)) % 8 by omega]
    exact ho _ (by omega)
/-- a call that changes something, whichever -/
theorem chg {n : Nat} {R : Nat → Nat} {A : Nat → Nat → Nat} {wx : (Nat → GS → Prop) → GS → Prop} {wm ax am : (Int32 → GS → Prop) → GS → Prop} {cd : Nat → Int32} {al : List Nat} {Kp : Prop} {vq : Int32 → Prop} {G : GS} {px : Int32 → GS → Prop} {gx : String → GS → Prop} {Y : Int32 → GS → Prop} {pm : Int32 → Int32 → GS → Prop} {pf : Int32 → Int32 → GS → Prop}
    (I : Inv G) (C : CR (lg G.1 0) n R A) (M : MR (G.1 190) n R A) (T : TR (lg G.1 0) (G.1 190))
    (hN : Nots n R A wx wm cd al Kp) (hD : Kp → Does n R A ax am vq) (hal : ∀ o, o ∈ al → o < 5) (hc0 : cd 0 = 0) (hcd : ∀ o, o ∈ al → o ≠ 0 → cd o ≠ 0)
    (hg : ∀ o, o ∈ al → o ≠ 0 → ∀ G', Y (cd o) G' → gx (xn o) G') (hp : ∀ val G', vq val → Y 0 (gL G' 0 val.toInt64) → px val G')
    (hY : ∀ c G', wm (fun r3 G2 => if r3 = 0 then wpX9_remembers (fun G5 => am (fun r7 G6 => pm c r7 G6) G5) G2 else pf c r3 G2) (gI G' 189 0 0) → Y c G')
    (hfin : ∀ val G', vq val → G'.1 189 0 = 0 → G'.2.2.1 0 = val.toInt64 → Inv G' → pm 0 val G')
    (hpf : ∀ o, o ∈ al → o ≠ 0 → ∀ G', Inv G' → pf (cd o) (cd o) G') :
    wx (fun r2 G1 => r2 < 5 ∧ wpX8_demand (fun G4 => wpX2_remember (fun G5 => ax (fun r7 G6 => px r7 G6) G5) 0 G4) gx r2 G1) G := by
  obtain ⟨o, ho, hx, hm, hk⟩ := hN
  by_cases e : o = 0
  · subst e
    obtain ⟨n', R', A', val, fa, fr, da, dm, dr, dv⟩ := hD (hk rfl)
    refine hx G _ C ⟨by decide, s_demand0 ?_⟩
    have I0 := I
    obtain ⟨Ia, Ih, Is, Ie, Ix, Io⟩ := I
    obtain ⟨j, s, f, hj, hs, hf, h1, h2, h5, h6, old⟩ := Ih
    have hj8 := Nat.mod_lt (j + 1) (show 0 < 8 by decide)
    refine s_remember (c := 0) (Or.inl rfl) hj hs h1 h2 (fun G1 g1 => ?_)
    obtain ⟨u1, u2, u3, u4, u5⟩ := g1
    have L1 : lg G1.1 0 = lg G.1 0 := lg_same (fun q _ hq => u4 q (by omega) (by omega))
    refine da G1 _ (by rw [L1]; exact C) (fun G2 g2 => hp val G2 dv (hY 0 _ ?_))
    rw [L1] at g2
    obtain ⟨v1, v2, v3⟩ := g2
    -- the model
    refine hm _ _ ?_ ?_
    · rw [gI_ne _ _ _ (by decide), gL_1, v2 190 (by omega), u4 190 (by omega) (by omega)]; exact M
    rw [hc0]
    refine ifT rfl ?_
    have k9 : ∀ k, k ≠ 0 → (gI (gL G2 0 val.toInt64) 189 0 0).1 189 k = G.1 189 k := fun k hk => by
      rw [gI_at, upd_ne _ _ hk, gL_1, v2 189 (by omega), u4 189 (by omega) (by omega)]
    refine m_remembers hf hs (by rw [k9 5 (by decide)]; exact h5) (by rw [k9 6 (by decide)]; exact h6) (fun G4 G5 g4 g5 => ?_)
    obtain ⟨w1, w2, w3, w4⟩ := g4
    obtain ⟨x1, x2, x3, x4, x5, x6, x7⟩ := g5
    have a190 : G5.1 190 = G.1 190 := by
      rw [x5 190 (by decide) (by decide), w3 190 (by decide), gI_ne _ _ _ (by decide), gL_1, v2 190 (by omega), u4 190 (by omega) (by omega)]
    refine dm G5 _ (by rw [a190]; exact M) (fun G6 g6 => ?_)
    obtain ⟨y1, y2, y3⟩ := g6
    rw [a190] at y1
    have far : ∀ q, 15 ≤ q → (q < 45 ∨ 165 ≤ q) → q ≠ 166 → q ≠ 189 → q ≠ 190 → q ≠ 191 → q ≠ 193 → G6.1 q = G.1 q := fun q a b c d e f g => by
      rw [y2 q e, x5 q d f, w3 q g, gI_ne _ _ _ d, gL_1, v2 q (by omega), u4 q c (by omega)]
    have low : ∀ q, q < 165 → G6.1 q = G2.1 q := fun q a => by
      rw [y2 q (by omega), x5 q (by omega) (by omega), w3 q (by omega), gI_ne _ _ _ (by omega), gL_1]
    have n9 : ∀ k, k ≠ 0 → k ≠ 5 → k ≠ 6 → G6.1 189 k = G.1 189 k := fun k a b c => by
      rw [y2 189 (by decide), x6 k b c, w3 189 (by decide), k9 k a]
    refine hfin val G6 dv ?_ ?_ ?_
    · rw [y2 189 (by decide), x6 0 (by decide) (by decide), w3 189 (by decide), gI_at, upd_at]
    · rw [y3, x7, w4]; rfl
    · refine ⟨?_, ?_, ?_, ?_, ?_, ?_⟩
      · rw [lg_same (M := G2.1) (fun q _ hq => low q (by omega)), v1, y1]
        exact ⟨n', R', A', dr _ _ C M T⟩
      · refine HI_push (M := G.1) hj hs hf old Ia ?_ ?_ ?_ ?_ ?_ ?_ ?_ ?_
        · rw [y2 166 (by decide), x5 166 (by decide) (by decide), w3 166 (by decide), gI_ne _ _ _ (by decide), gL_1, v2 166 (by omega), u1]
        · rw [y2 166 (by decide), x5 166 (by decide) (by decide), w3 166 (by decide), gI_ne _ _ _ (by decide), gL_1, v2 166 (by omega), u2]
        · rw [y2 189 (by decide), x1]
        · rw [y2 189 (by decide), x2]
        · rw [lg_same (M := G1.1) (fun q a b => by rw [low q (by omega), v2 q (by omega)])]; exact u3
        · intro t ht hne
          refine lg_same (fun q a b => ?_)
          rw [low q (by omega), v2 q (by omega), u4 q (by omega) (by omega)]
        · intro k hk
          rw [y2 191 (by decide), x3 k hk]
          have := w1 k hk
          rw [Nat.zero_add] at this
          rw [this, gI_ne _ _ _ (by decide), gL_1, v2 190 (by omega), u4 190 (by omega) (by omega)]
        · intro k hk
          rw [y2 191 (by decide), x4 k hk, w3 191 (by decide), gI_ne _ _ _ (by decide), gL_1, v2 191 (by omega), u4 191 (by omega) (by omega)]
      · exact SI_fr Is (fun q a b => far q (by omega) (by omega) (by omega) (by omega) (by omega) (by omega) (by omega)) (by rw [far 165 (by decide) (by decide) (by decide) (by decide) (by decide) (by decide) (by decide)]) (n9 _ (by decide) (by decide) (by decide)) (far 192 (by decide) (by decide) (by decide) (by decide) (by decide) (by decide) (by decide))
      · exact EI_fr Ie (by rw [far 165 (by decide) (by decide) (by decide) (by decide) (by decide) (by decide) (by decide)]) (by rw [far 165 (by decide) (by decide) (by decide) (by decide) (by decide) (by decide) (by decide)]) (n9 _ (by decide) (by decide) (by decide)) (n9 _ (by decide) (by decide) (by decide))
      · exact XI_fr Ix (by rw [far 168 (by decide) (by decide) (by decide) (by decide) (by decide) (by decide) (by decide)]) (far 169 (by decide) (by decide) (by decide) (by decide) (by decide) (by decide) (by decide)) (n9 _ (by decide) (by decide) (by decide)) (far 195 (by decide) (by decide) (by decide) (by decide) (by decide) (by decide) (by decide))
      · rw [show G6.2.1.2 = G.2.1.2 by rw [y3, x7, w4]; show G2.2.1.2 = _; rw [v3, u5]]
        exact OI_fr Io (far 187 (by decide) (by decide) (by decide) (by decide) (by decide) (by decide) (by decide)) (far 188 (by decide) (by decide) (by decide) (by decide) (by decide) (by decide) (by decide)) (n9 _ (by decide) (by decide) (by decide)) (far 194 (by decide) (by decide) (by decide) (by decide) (by decide) (by decide) (by decide))
  · have lt := hal o ho
    refine hx G _ C ⟨lt, s_demand (by omega) lt (hg o ho e G (hY _ _ (hm _ _ ?_ ?_)))⟩
    · rw [gI_ne _ _ _ (by decide)]; exact M
    · exact ifF (hcd o ho e) (hpf o ho e _ (Inv_th I _))
