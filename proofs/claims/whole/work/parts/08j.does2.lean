/-! the changes: what they do, the rest: a new vault, an audit, days -/
theorem upd_self {f : Nat → Int32} {i : Nat} {x : Int32} (h : f i = x) : upd f i x = f := by
  funext k
  by_cases c : k = i
  · subst c; rw [upd_at, h]
  · rw [upd_ne _ _ c]
theorem Lgd_1 {b : Nat} {a : Nat → Int32} {G : GS} (h : lg G.1 b = a) : Lgd b a G G := ⟨h, fun _ _ => rfl, rfl⟩
theorem Lgd_tr {b : Nat} {a1 a2 : Nat → Int32} {G G1 G2 : GS} (h1 : Lgd b a1 G G1) (h2 : Lgd b a2 G1 G2) : Lgd b a2 G G2 :=
  ⟨h2.1, fun q hq => (h2.2.1 q hq).trans (h1.2.1 q hq), h2.2.2.trans h1.2.2⟩
theorem Lgd_v (G : GS) {v j : Nat} (hv : v < 5) (h0 : 1 ≤ j) (hj : j < 6) (x : Int32) : Lgd 0 (upd (lg G.1 0) (16 + 8 * v + (j + 2)) x) G (gI G (0 + 1 + 4 + v) j x) :=
  ⟨lg_uv G 0 hv h0 hj x, fun q hq => gI_ne _ _ _ (by omega), rfl⟩
theorem Lgd_t (G : GS) {j : Nat} (hj : j < 5) (x : Int32) : Lgd 0 (upd (lg G.1 0) (11 + j) x) G (gI G 0 (6 + j) x) :=
  ⟨lg_ut G 0 hj x, fun q hq => gI_ne _ _ _ (by omega), rfl⟩
theorem Mrw_tr {a1 a2 : Nat → Int32} {G G1 G2 : GS} (h1 : Mrw a1 G G1) (h2 : Mrw a2 G1 G2) : Mrw a2 G G2 :=
  ⟨h2.1, fun q hq => (h2.2.1 q hq).trans (h1.2.1 q hq), h2.2.2.trans h1.2.2⟩
theorem Mrw_0 {a : Nat → Int32} {G : GS} (h : G.1 190 = a) : Mrw a G G := ⟨h, fun _ _ => rfl, rfl⟩
section DOES
variable {n : Nat} {R : Nat → Nat} {A : Nat → Nat → Nat}
theorem wing_up : ∀ w, w < 4 → (if (3 : Int32) < nI w + 1 then 3 else nI w + 1) = nI (if w < 3 then w + 1 else 3) := by decide +kernel
theorem wing_dn : ∀ w, w < 4 → (if nI w - 1 < 0 then 0 else nI w - 1) = nI (w - 1) := by decide +kernel
theorem d_inspect (B : NB n R A) {v : Nat} (hv : v < n) : Does n R A (fun post G => wpX3_inspect post 0 (nI v) G) (fun post G => wpX9_audits post (nI v) G) (fun r => r = 0 ∨ r = 1) := by
  have h5 := B.1
  have hv5 : v < 5 := by omega
  have hw : A v 5 < 4 := by have := B.2.2.1 v 5 hv5 (by decide); simp only [ub] at this; simp at this; omega
  have hd := A_le B (v := v) (j := 4) hv5 (by decide)
  have hV := vl_le B hv5
  have K := bk_le R (A v)
  have m14 : ∀ {G : GS} {Q : GS → Prop}, Q (gI G 190 14 (G.1 190 14 + 1)) → (vp_in 14 (ln 190) ∧ vp_in 14 (ln 190) ∧ ∀ G3 : GS, G3 = gI G 190 ((14 : Int32).toNatClampNeg) ((G.1 190 (14 : Int32).toNatClampNeg) + 1) → Q G3) := by
    intro G Q h
    refine ⟨in56 (i := 14) (by decide), in56 (i := 14) (by decide), ?_⟩
    rintro G3 rfl
    exact h
  have m15 : ∀ {G : GS} {Q : GS → Prop}, Q (gI G 190 15 (G.1 190 15 + 1)) → (vp_in 15 (ln 190) ∧ vp_in 15 (ln 190) ∧ ∀ G3 : GS, G3 = gI G 190 ((15 : Int32).toNatClampNeg) ((G.1 190 (15 : Int32).toNatClampNeg) + 1) → Q G3) := by
    intro G Q h
    refine ⟨in56 (i := 15) (by decide), in56 (i := 15) (by decide), ?_⟩
    rintro G3 rfl
    exact h
  by_cases s : bk R (A v) < A v 4
  · by_cases z : A v 5 - 1 = 0
    · refine ⟨n, R, uA (uA A v 5 0) v 7 5, 0, fun a => upd (upd (upd a 14 (a 14 + 1)) (16 + 8 * v + 5) (nI 0)) (16 + 8 * v + 7) (nI 5), fun a => upd (upd (upd a 14 (a 14 + 1)) (16 + 8 * v + 5) (nI 0)) (16 + 8 * v + 7) (nI 5), ?_, ?_, ?_, Or.inl rfl⟩
      · intro G post C h
        refine ⟨vp_in_nI hv5 (by decide), ?_⟩
        rw [nI_clamp (show v < 2 ^ 31 by omega)]
        refine s_sound C B hv5 ?_
        rw [if_pos s]
        rintro G4 rfl
        refine ifT rfl ⟨vp_in_nI hv5 (by decide), ?_⟩
        rintro G5 rfl
        rw [gI_ne G 9 _ (show 0 + 1 + 4 + v ≠ 0 by omega), cf_3 C hv5, wing_dn _ hw, z, gI_at, upd_at]
        refine ifT rfl ?_
        rintro G6 rfl
        refine ⟨nb_01.2, h _ ?_⟩
        have t := Lgd_t G (j := 3) (by decide) (G.1 0 9 + 1)
        have t2 := Lgd_tr t (Lgd_v _ (j := 3) hv5 (by decide) (by decide) (nI 0))
        have t3 := Lgd_tr t2 (Lgd_v _ (j := 5) hv5 (by decide) (by decide) (nI 5))
        rw [t2.1, t.1] at t3
        exact t3
      · intro G post M h
        refine m14 ?_
        have M1 : MR ((gI G 190 14 (G.1 190 14 + 1)).1 190) n R A := by rw [gI_at]; exact MR_t M (by unfold tk; omega) _
        have q1 := Mrw_1 G 14 (G.1 190 14 + 1)
        refine m_spare M1 B hv (ifT ((sp_lt (by omega) (by omega)).mpr s) ?_)
        refine m_ofN (j := 5) M1 B hv (by decide) ?_
        have fin : ∀ G1 : GS, Mrw (upd (upd (G.1 190) 14 (G.1 190 14 + 1)) (16 + 8 * v + 5) (nI 0)) G G1 → wbX9_audits_65 post (nI v) G1 := by
          intro G1 g
          refine m_of (j := 5) hv5 (by decide) ?_
          rw [g.1, upd_at]
          refine ifT rfl (m_puts (j := 7) hv5 (by decide) (h _ ?_))
          exact Mrw_s g _ _
        by_cases e : A v 5 = 0
        · rw [e]
          refine ifT (by decide) (fin _ ?_)
          rw [upd_self (f := upd (G.1 190) 14 (G.1 190 14 + 1)) (by rw [← gI_at G 190, M1.2.2 v 5 hv (by decide), e])]
          exact q1
        · refine ifF (nI_nle (by omega) (by omega)) (m_adds (j := 5) hv5 (by decide) (fin _ ?_))
          rw [M1.2.2 v 5 hv (by decide), show A v 5 = 1 by omega]
          exact Mrw_s q1 _ _
      · intro a r C M T
        have t := T 14 (by unfold tk; omega)
        exact ⟨NB_h (NB_h B hv (Nat.zero_le _)) hv (by decide), CR_h (CR_h (CR_t C (by unfold tk; omega) _) hv5 (by omega) rfl) hv5 (by omega) rfl, MR_h (MR_h (MR_t M (by unfold tk; omega) _) (by omega) rfl) (by omega) rfl, TR_m (TR_m (TR_a (TR_a (TR_t T 14 (by rw [t])) (ntk_h v 5) _) (ntk_h v 7) _) (ntk_h v 5) _) (ntk_h v 7) _⟩
    · refine ⟨n, R, uA A v 5 (A v 5 - 1), 0, fun a => upd (upd a 14 (a 14 + 1)) (16 + 8 * v + 5) (nI (A v 5 - 1)), fun a => upd (upd a 14 (a 14 + 1)) (16 + 8 * v + 5) (nI (A v 5 - 1)), ?_, ?_, ?_, Or.inl rfl⟩
      · intro G post C h
        refine ⟨vp_in_nI hv5 (by decide), ?_⟩
        rw [nI_clamp (show v < 2 ^ 31 by omega)]
        refine s_sound C B hv5 ?_
        rw [if_pos s]
        rintro G4 rfl
        refine ifT rfl ⟨vp_in_nI hv5 (by decide), ?_⟩
        rintro G5 rfl
        rw [gI_ne G 9 _ (show 0 + 1 + 4 + v ≠ 0 by omega), cf_3 C hv5, wing_dn _ hw, gI_at, upd_at]
        refine ifF (nI_ne0 (by omega) (by omega)) ⟨nb_01.2, h _ ?_⟩
        have t := Lgd_t G (j := 3) (by decide) (G.1 0 9 + 1)
        have t2 := Lgd_tr t (Lgd_v _ (j := 3) hv5 (by decide) (by decide) (nI (A v 5 - 1)))
        rw [t.1] at t2
        exact t2
      · intro G post M h
        refine m14 ?_
        have M1 : MR ((gI G 190 14 (G.1 190 14 + 1)).1 190) n R A := by rw [gI_at]; exact MR_t M (by unfold tk; omega) _
        have q1 := Mrw_1 G 14 (G.1 190 14 + 1)
        refine m_spare M1 B hv (ifT ((sp_lt (by omega) (by omega)).mpr s) ?_)
        refine m_ofN (j := 5) M1 B hv (by decide) ?_
        refine ifF (nI_nle (by omega) (by omega)) (m_adds (j := 5) hv5 (by decide) ?_)
        rw [M1.2.2 v 5 hv (by decide), show nI (A v 5) + (-1) = nI (A v 5 - 1) by rw [show A v 5 = A v 5 - 1 + 1 by omega, pk_m1, Nat.add_sub_cancel]]
        refine m_of (j := 5) hv5 (by decide) ?_
        rw [gI_at, upd_at]
        refine ifF (nI_ne0 (by omega) (by omega)) (h _ ?_)
        exact Mrw_s q1 _ _
      · intro a r C M T
        have t := T 14 (by unfold tk; omega)
        exact ⟨NB_h B hv (by show _ ≤ 3; omega), CR_h (CR_t C (by unfold tk; omega) _) hv5 (by omega) rfl, MR_h (MR_t M (by unfold tk; omega) _) (by omega) rfl, TR_m (TR_a (TR_t T 14 (by rw [t])) (ntk_h v 5) _) (ntk_h v 5) _⟩
  · refine ⟨n, R, uA A v 5 (if A v 5 < 3 then A v 5 + 1 else 3), 1, fun a => upd (upd (upd a 14 (a 14 + 1)) 15 (a 15 + 1)) (16 + 8 * v + 5) (nI (if A v 5 < 3 then A v 5 + 1 else 3)), fun a => upd (upd (upd a 14 (a 14 + 1)) 15 (a 15 + 1)) (16 + 8 * v + 5) (nI (if A v 5 < 3 then A v 5 + 1 else 3)), ?_, ?_, ?_, Or.inr rfl⟩
    · intro G post C h
      refine ⟨vp_in_nI hv5 (by decide), ?_⟩
      rw [nI_clamp (show v < 2 ^ 31 by omega)]
      refine s_sound C B hv5 ?_
      rw [if_neg s]
      rintro G4 rfl
      refine ifF (by decide) ?_
      rintro G9 rfl
      refine ⟨vp_in_nI hv5 (by decide), ?_⟩
      rintro G5 rfl
      refine ⟨nb_01.1, h _ ?_⟩
      rw [gI_ne _ _ _ (show 0 + 1 + 4 + v ≠ 0 by omega), gI_ne G 9 _ (show 0 + 1 + 4 + v ≠ 0 by omega), cf_3 C hv5, wing_up _ hw, gI_at, upd_ne _ _ (show 10 ≠ 9 by decide)]
      have t := Lgd_t G (j := 3) (by decide) (G.1 0 9 + 1)
      have t1 := Lgd_tr t (Lgd_t _ (j := 4) (by decide) (G.1 0 10 + 1))
      have t2 := Lgd_tr t1 (Lgd_v _ (j := 3) hv5 (by decide) (by decide) (nI (if A v 5 < 3 then A v 5 + 1 else 3)))
      rw [t1.1, t.1] at t2
      exact t2
    · intro G post M h
      refine m14 ?_
      have M1 : MR ((gI G 190 14 (G.1 190 14 + 1)).1 190) n R A := by rw [gI_at]; exact MR_t M (by unfold tk; omega) _
      have q1 := Mrw_1 G 14 (G.1 190 14 + 1)
      refine m_spare M1 B hv (ifF (fun g => s ((sp_lt (by omega) (by omega)).mp g)) (m15 ?_))
      have e15 : (gI G 190 14 (G.1 190 14 + 1)).1 190 15 = G.1 190 15 := by rw [gI_at, upd_ne _ _ (by decide)]
      rw [e15]
      have q2 := Mrw_s q1 15 (G.1 190 15 + 1)
      have M2 : MR ((gI (gI G 190 14 (G.1 190 14 + 1)) 190 15 (G.1 190 15 + 1)).1 190) n R A := by rw [gI_at]; exact MR_t M1 (by unfold tk; omega) _
      refine m_ofN (j := 5) M2 B hv (by decide) ?_
      by_cases e : A v 5 < 3
      · refine ifF (nI_ge (b := 3) e (by decide)) (m_adds (j := 5) hv5 (by decide) (h _ ?_))
        rw [M2.2.2 v 5 hv (by decide), nI_1, if_pos e]
        exact Mrw_s q2 _ _
      · refine ifT (nI_le (a := 3) (by omega) (by omega)) (h _ ?_)
        rw [if_neg e, show (fun a : Nat → Int32 => upd (upd (upd a 14 (a 14 + 1)) 15 (a 15 + 1)) (16 + 8 * v + 5) (nI 3)) (G.1 190) = upd (upd (G.1 190) 14 (G.1 190 14 + 1)) 15 (G.1 190 15 + 1) from upd_self (by rw [← q2.1, M2.2.2 v 5 hv (by decide), show A v 5 = 3 by omega])]
        exact q2
    · intro a r C M T
      have t := T 14 (by unfold tk; omega)
      have t' := T 15 (by unfold tk; omega)
      refine ⟨NB_h B hv ?_, CR_h (CR_t (CR_t C (by unfold tk; omega) _) (by unfold tk; omega) _) hv5 (by omega) rfl, MR_h (MR_t (MR_t M (by unfold tk; omega) _) (by unfold tk; omega) _) (by omega) rfl, TR_m (TR_a (TR_t (TR_t T 14 (by rw [t])) 15 (by rw [t'])) (ntk_h v 5) _) (ntk_h v 5) _⟩
      show (if A v 5 < 3 then A v 5 + 1 else 3) ≤ 3
      split <;> omega
/-- the model's row when the first i numbers of a new vault are cleared -/
def avr (r : Nat → Int32) (n i : Nat) : Nat → Int32 := fun k => if 16 + 8 * n ≤ k ∧ k < 16 + 8 * n + i then 0 else upd r 0 (nI (n + 1)) k
theorem avr_s (r : Nat → Int32) (n i : Nat) : upd (avr r n i) (16 + 8 * n + i) 0 = avr r n (i + 1) := by
  funext k
  by_cases c : k = 16 + 8 * n + i
  · subst c
    rw [upd_at]
    exact (if_pos ⟨by omega, by omega⟩).symm
  · rw [upd_ne _ _ c]
    unfold avr
    by_cases d : 16 + 8 * n ≤ k ∧ k < 16 + 8 * n + i
    · rw [if_pos d, if_pos ⟨d.1, by omega⟩]
    · rw [if_neg d, if_neg (by omega)]
theorem lp_addsV {G : GS} {post : Int32 → GS → Prop} (hn : n < 5) {t : Int32} (h : ∀ G' : GS, Mrw (upd (upd (avr (G.1 190) n 8) (16 + 8 * n + 5) 1) (16 + 8 * n + 6) t) G G' → post (nI n) G') : ∀ m i G0, i + m = 8 → Mrw (avr (G.1 190) n i) G G0 → wlX9_addsVault_19 post t (m + 1) G0 (nI n) (nI i) := by
  intro m
  induction m with
  | zero =>
    intro i G0 hi I
    have e : i = 8 := by omega
    subst e
    rw [wlX9_addsVault_19]
    refine ifT (nI_le (a := 8) (b := 8) (by decide) (by decide)) ?_
    refine m_puts (j := 5) hn (by decide) (m_puts (j := 6) hn (by decide) (h _ ?_))
    exact Mrw_s (Mrw_s I _ _) _ _
  | succ m ih =>
    intro i G0 hi I
    rw [wlX9_addsVault_19]
    refine ifF (nI_ge (b := 8) (by omega) (by decide)) ?_
    refine m_puts hn (by omega) ?_
    rintro z rfl
    rw [nI_1]
    refine ih (i + 1) _ (by omega) ?_
    rw [← avr_s]
    exact Mrw_s I _ _
theorem d_open (B : NB n R A) {t : Nat} (ht : t ≤ 9) (hn : n < 5) : Does n R A (fun post G => wpX3_open post 0 (nI t) G) (fun post G => wpX9_addsVault post (nI t) G) (fun _ => True) := by
  have dead := B.2.2.2
  refine ⟨n + 1, R, uA A n 6 t, nI n, fun a => upd (upd a (16 + 8 * n + 6) (nI t)) 0 (nI (n + 1)), fun r => upd (upd (avr r n 8) (16 + 8 * n + 5) 1) (16 + 8 * n + 6) (nI t), ?_, ?_, ?_, trivial⟩
  · intro G post C h
    unfold wpX3_open
    rintro z rfl
    rw [cf_n C]
    refine ⟨vp_in_nI hn (by decide), ?_⟩
    rw [nI_clamp (show n < 2 ^ 31 by omega)]
    rintro G3 rfl G4 rfl
    refine h _ ⟨?_, ?_, rfl⟩
    · rw [lg_u0, lg_uv _ 0 hn (by decide) (by decide), gI_ne _ _ _ (by omega), cf_n C, nI_1]
    · intro q hq; rw [gI_ne _ _ _ (by omega), gI_ne _ _ _ (by omega)]
  · intro G post M h
    unfold wpX9_addsVault
    refine ⟨in56 (i := 0) (by decide), ?_⟩
    rintro z rfl
    refine ⟨in56 (i := 0) (by decide), in56 (i := 0) (by decide), ?_⟩
    rintro G5 rfl
    show ∃ nn, wlX9_addsVault_19 post (nI t) nn (gI G 190 0 (G.1 190 0 + 1)) (G.1 190 0) 0
    rw [M.1, nI_1]
    refine ⟨8 + 1, lp_addsV (G := G) hn h 8 0 _ rfl ?_⟩
    have e : avr (G.1 190) n 0 = upd (G.1 190) 0 (nI (n + 1)) := by
      funext k
      exact if_neg (by omega)
    rw [e]
    exact Mrw_1 _ _ _
  · intro a r C M T
    have C1 := CR_h C hn (j := 6) (by decide) (y := nI t) rfl
    show NB (n + 1) R (uA A n 6 t) ∧ CR (upd (upd a (16 + 8 * n + 6) (nI t)) 0 (nI (n + 1))) (n + 1) R (uA A n 6 t) ∧ MR (upd (upd (avr r n 8) (16 + 8 * n + 5) 1) (16 + 8 * n + 6) (nI t)) (n + 1) R (uA A n 6 t) ∧ TR (upd (upd a (16 + 8 * n + 6) (nI t)) 0 (nI (n + 1))) (upd (upd (avr r n 8) (16 + 8 * n + 5) 1) (16 + 8 * n + 6) (nI t))
    refine ⟨⟨by omega, B.2.1, fun v j hv hj => ?_, fun v j h1 hv hj => ?_⟩, ⟨upd_at _ _ _, fun k hk => ?_, fun v j hv hj => ?_⟩, ⟨?_, fun k hk => ?_, fun v j hv hj => ?_⟩, ?_⟩
    · by_cases c : v = n ∧ j = 6
      · obtain ⟨rfl, rfl⟩ := c; rw [uA_at]; exact ht
      · rw [uA_ne _ _ (by omega)]; exact B.2.2.1 v j hv hj
    · rw [uA_ne _ _ (by omega)]; exact dead v j (by omega) hv hj
    · rw [upd_ne _ _ (by omega)]; exact C1.2.1 k hk
    · rw [upd_ne _ _ (by omega)]; exact C1.2.2 v j hv hj
    · rw [upd_ne _ _ (by omega), upd_ne _ _ (by omega)]
      unfold avr
      rw [if_neg (by omega), upd_at]
    · rw [upd_ne _ _ (by omega), upd_ne _ _ (by omega)]
      unfold avr
      rw [if_neg (by omega), upd_ne _ _ (by omega)]
      exact M.2.1 k hk
    · by_cases c : v = n
      · subst c
        by_cases c6 : j = 6
        · subst c6; rw [upd_at, uA_at]
        rw [upd_ne _ _ (by omega), uA_ne _ _ (by omega), dead v j (by omega) hn hj]
        by_cases c5 : j = 5
        · subst c5; rw [upd_at]; rfl
        rw [upd_ne _ _ (by omega), if_neg c5]
        unfold avr
        rw [if_pos ⟨by omega, by omega⟩]; rfl
      · rw [upd_ne _ _ (by omega), upd_ne _ _ (by omega), uA_ne _ _ (by omega)]
        unfold avr
        rw [if_neg (by omega), upd_ne _ _ (by omega)]
        exact M.2.2 v j (by omega) hj
    · intro k hk
      have := tk_lt hk
      rw [upd_ne _ _ (by omega), upd_ne _ _ (by omega), upd_ne _ _ (by omega), upd_ne _ _ (by omega)]
      unfold avr
      rw [if_neg (by omega), upd_ne _ _ (by omega)]
      exact T k hk
end DOES
