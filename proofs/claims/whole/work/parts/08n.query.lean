/-! queries of one vault; printed by wip/whole/gen/gen_n.py -/
theorem kd3v {v : Nat} (h : v < 5) : kd (0 + 1 + 4 + v) = 3 := by
  obtain rfl | rfl | rfl | rfl | rfl : v = 0 ∨ v = 1 ∨ v = 2 ∨ v = 3 ∨ v = 4 := by omega
  all_goals decide
theorem gL_at (G : GS) (x : Int64) : (gL G 0 x).2.2.1 0 = x := by
  show (if (0 : Nat) = 0 then x else G.2.2.1 0) = x
  exact if_pos rfl
theorem s_atT {G : GS} {n : Nat} {R : Nat → Nat} {A : Nat → Nat → Nat} {pn : Nat → GS → Prop} {xpost : String → GS → Prop} (C : CR (lg G.1 0) n R A) (B : NB n R A) {v : Nat} (hv : v < n) (h : pn (0 + 1 + 4 + v) G) : wpX8_vaultAt pn xpost (nI v) G := by
  have h5 := B.1
  refine s_hasT C B hv (ifF (by decide) ⟨vp_in_nI (by omega) (by decide), ?_⟩)
  rw [nI_clamp (by omega)]
  exact h
theorem s_atF {G : GS} {n : Nat} {R : Nat → Nat} {A : Nat → Nat → Nat} {pn : Nat → GS → Prop} {xpost : String → GS → Prop} (C : CR (lg G.1 0) n R A) {x : Int32} (hx : x < 0 ∨ nI n ≤ x) (h : xpost "java/lang/IndexOutOfBoundsException" G) : wpX8_vaultAt pn xpost x G :=
  s_hasF C hx (ifT rfl h)
theorem th_M {G : GS} {n : Nat} {R : Nat → Nat} {A : Nat → Nat → Nat} (M : MR (G.1 190) n R A) (y : Int64) : MR ((gI (gL G 0 y) 189 0 0).1 190) n R A := by
  rw [gI_ne _ _ _ (by decide)]; exact M
theorem th_M0 {G : GS} {n : Nat} {R : Nat → Nat} {A : Nat → Nat → Nat} (M : MR (G.1 190) n R A) : MR ((gI G 189 0 0).1 190) n R A := by
  rw [gI_ne _ _ _ (by decide)]; exact M
theorem fin0q {G : GS} (I : Inv G) {r r' : Int32} (e : r' = r) : FIN Inv 0 r' (gI (gL G 0 r.toInt64) 189 0 0) := by
  subst e
  exact fin0 (by rw [gI_at, upd_at]) (gL_at G _) (Inv_th (Inv_gL I _ _) _)
theorem finEq {G : GS} (I : Inv G) {c r : Int32} (hc : c ≠ 0) : FIN Inv c r (gI (gI G 189 0 0) 189 0 c) := finE hc (by rw [gI_at, upd_at]) (Inv_th (Inv_th I _) _)
theorem finb0q {G : GS} (I : Inv G) {r r' : Int32} (e : r' = r) (hr : r = 0 ∨ r = 1) {y : Int64} (hy : y = r.toInt64) : FINb Inv 0 r' (gI (gL G 0 y) 189 0 0) := by
  subst e hy
  exact finb0 hr (by rw [gI_at, upd_at]) (gL_at G _) (Inv_th (Inv_gL I _ _) _)
theorem finbEq {G : GS} (I : Inv G) {c r : Int32} (hc : c ≠ 0) : FINb Inv c r (gI (gI G 189 0 0) 189 0 c) := finbE hc (by rw [gI_at, upd_at]) (Inv_th (Inv_th I _) _)
theorem EQq {G : GS} (I : Inv G) {r r' : Int32} (e : r = r') : (if r = r' then Inv (gI G 189 0 0) else False) := ifT e (Inv_th I 0)
theorem w_crumbs {G : GS} (I : Inv G) (a1 : Int32) {PL : Int32 → GS → Prop} (h : ∀ c G', wpX9_crumbs (FIN Inv c) a1 G' → PL c G') : wpL_crumbs PL a1 G := by
  obtain ⟨n, R, A, B, C, M, T⟩ := I.1
  have h5 := B.1
  have bad : a1 < 0 ∨ nI n ≤ a1 → wpL_crumbs PL a1 G := fun hx => by
    unfold wpL_crumbs wpX8_crumbs
    refine s_atF C hx ?_
    refine ifT rfl (h _ _ ?_)
    unfold wpX9_crumbs wpX9_asksVault
    rintro G1 rfl
    refine m_isF (th_M0 M).1 h5 hx (ifT rfl (m_fails ?_))
    exact finEq I (by decide)
  rcases pk_ix a1 (n := n) (by omega) with hx | hx | ⟨v, hv, rfl⟩
  · exact bad (Or.inl hx)
  · exact bad (Or.inr hx)
  clear bad
  have hv5 : v < 5 := by omega
  unfold wpL_crumbs wpX8_crumbs
  refine s_atT C B hv ?_
  refine ⟨kd3v hv5, ?_⟩
  rw [cf_1 C hv5]
  refine ⟨vin01, ?_⟩
  rintro G5 rfl
  refine h _ _ ?_
  unfold wpX9_crumbs wpX9_asksVault
  rintro G1 rfl
  refine m_isT (th_M M _).1 h5 hv (ifF (by decide) ?_)
  exact m_ofN (j := 3) (th_M M _) B hv (by decide) (fin0q I rfl)
theorem k_law_12 {L : Nat} {xs : Nat → Int32} {v5 : Int32} {G : GS} (I : Inv G) (hv : ∀ j, j < 5 → vp_in (v5 + nI j) L) : wpL_law_12 Inv L xs v5 G :=
  ⟨hv 1 (by decide), w_crumbs I _ (fun c G' y => ⟨hv 1 (by decide), y⟩)⟩
theorem w_dew {G : GS} (I : Inv G) (a1 : Int32) {PL : Int32 → GS → Prop} (h : ∀ c G', wpX9_dew (FIN Inv c) a1 G' → PL c G') : wpL_dew PL a1 G := by
  obtain ⟨n, R, A, B, C, M, T⟩ := I.1
  have h5 := B.1
  have bad : a1 < 0 ∨ nI n ≤ a1 → wpL_dew PL a1 G := fun hx => by
    unfold wpL_dew wpX8_dew
    refine s_atF C hx ?_
    refine ifT rfl (h _ _ ?_)
    unfold wpX9_dew wpX9_asksVault
    rintro G1 rfl
    refine m_isF (th_M0 M).1 h5 hx (ifT rfl (m_fails ?_))
    exact finEq I (by decide)
  rcases pk_ix a1 (n := n) (by omega) with hx | hx | ⟨v, hv, rfl⟩
  · exact bad (Or.inl hx)
  · exact bad (Or.inr hx)
  clear bad
  have hv5 : v < 5 := by omega
  unfold wpL_dew wpX8_dew
  refine s_atT C B hv ?_
  refine ⟨kd3v hv5, ?_⟩
  rw [cf_2 C hv5]
  refine ⟨vin01, ?_⟩
  rintro G5 rfl
  refine h _ _ ?_
  unfold wpX9_dew wpX9_asksVault
  rintro G1 rfl
  refine m_isT (th_M M _).1 h5 hv (ifF (by decide) ?_)
  exact m_ofN (j := 4) (th_M M _) B hv (by decide) (fin0q I rfl)
theorem k_law_13 {L : Nat} {xs : Nat → Int32} {v5 : Int32} {G : GS} (I : Inv G) (hv : ∀ j, j < 5 → vp_in (v5 + nI j) L) : wpL_law_13 Inv L xs v5 G :=
  ⟨hv 1 (by decide), w_dew I _ (fun c G' y => ⟨hv 1 (by decide), y⟩)⟩
theorem w_wings {G : GS} (I : Inv G) (a1 : Int32) {PL : Int32 → GS → Prop} (h : ∀ c G', wpX9_wings (FIN Inv c) a1 G' → PL c G') : wpL_wings PL a1 G := by
  obtain ⟨n, R, A, B, C, M, T⟩ := I.1
  have h5 := B.1
  have bad : a1 < 0 ∨ nI n ≤ a1 → wpL_wings PL a1 G := fun hx => by
    unfold wpL_wings wpX8_wings
    refine s_atF C hx ?_
    refine ifT rfl (h _ _ ?_)
    unfold wpX9_wings wpX9_asksVault
    rintro G1 rfl
    refine m_isF (th_M0 M).1 h5 hx (ifT rfl (m_fails ?_))
    exact finEq I (by decide)
  rcases pk_ix a1 (n := n) (by omega) with hx | hx | ⟨v, hv, rfl⟩
  · exact bad (Or.inl hx)
  · exact bad (Or.inr hx)
  clear bad
  have hv5 : v < 5 := by omega
  unfold wpL_wings wpX8_wings
  refine s_atT C B hv ?_
  refine ⟨kd3v hv5, ?_⟩
  rw [cf_3 C hv5]
  refine ⟨vin01, ?_⟩
  rintro G5 rfl
  refine h _ _ ?_
  unfold wpX9_wings wpX9_asksVault
  rintro G1 rfl
  refine m_isT (th_M M _).1 h5 hv (ifF (by decide) ?_)
  exact m_ofN (j := 5) (th_M M _) B hv (by decide) (fin0q I rfl)
theorem k_law_14 {L : Nat} {xs : Nat → Int32} {v5 : Int32} {G : GS} (I : Inv G) (hv : ∀ j, j < 5 → vp_in (v5 + nI j) L) : wpL_law_14 Inv L xs v5 G :=
  ⟨hv 1 (by decide), w_wings I _ (fun c G' y => ⟨hv 1 (by decide), y⟩)⟩
theorem w_stickiness {G : GS} (I : Inv G) (a1 : Int32) {PL : Int32 → GS → Prop} (h : ∀ c G', wpX9_stickiness (FIN Inv c) a1 G' → PL c G') : wpL_stickiness PL a1 G := by
  obtain ⟨n, R, A, B, C, M, T⟩ := I.1
  have h5 := B.1
  have bad : a1 < 0 ∨ nI n ≤ a1 → wpL_stickiness PL a1 G := fun hx => by
    unfold wpL_stickiness wpX8_stickiness
    refine s_atF C hx ?_
    refine ifT rfl (h _ _ ?_)
    unfold wpX9_stickiness wpX9_asksVault
    rintro G1 rfl
    refine m_isF (th_M0 M).1 h5 hx (ifT rfl (m_fails ?_))
    exact finEq I (by decide)
  rcases pk_ix a1 (n := n) (by omega) with hx | hx | ⟨v, hv, rfl⟩
  · exact bad (Or.inl hx)
  · exact bad (Or.inr hx)
  clear bad
  have hv5 : v < 5 := by omega
  unfold wpL_stickiness wpX8_stickiness
  refine s_atT C B hv ?_
  refine ⟨kd3v hv5, ?_⟩
  rw [cf_4 C hv5]
  refine ⟨vin01, ?_⟩
  rintro G5 rfl
  refine h _ _ ?_
  unfold wpX9_stickiness wpX9_asksVault
  rintro G1 rfl
  refine m_isT (th_M M _).1 h5 hv (ifF (by decide) ?_)
  exact m_ofN (j := 6) (th_M M _) B hv (by decide) (fin0q I rfl)
theorem k_law_15 {L : Nat} {xs : Nat → Int32} {v5 : Int32} {G : GS} (I : Inv G) (hv : ∀ j, j < 5 → vp_in (v5 + nI j) L) : wpL_law_15 Inv L xs v5 G :=
  ⟨hv 1 (by decide), w_stickiness I _ (fun c G' y => ⟨hv 1 (by decide), y⟩)⟩
theorem w_isFrozen {G : GS} (I : Inv G) (a1 : Int32) {PL : Int32 → GS → Prop} (h : ∀ c G', wpX9_isFrozen (FINb Inv c) a1 G' → PL c G') : wpL_isFrozen PL a1 G := by
  obtain ⟨n, R, A, B, C, M, T⟩ := I.1
  have h5 := B.1
  have bad : a1 < 0 ∨ nI n ≤ a1 → wpL_isFrozen PL a1 G := fun hx => by
    unfold wpL_isFrozen wpX8_isFrozen
    refine s_atF C hx ?_
    refine ifT rfl (h _ _ ?_)
    unfold wpX9_isFrozen wpX9_asksVault
    rintro G1 rfl
    refine m_isF (th_M0 M).1 h5 hx (ifT rfl (m_fails ?_))
    exact ifT (by decide) (finbEq I (by decide))
  rcases pk_ix a1 (n := n) (by omega) with hx | hx | ⟨v, hv, rfl⟩
  · exact bad (Or.inl hx)
  · exact bad (Or.inr hx)
  clear bad
  have hv5 : v < 5 := by omega
  unfold wpL_isFrozen wpX8_isFrozen
  refine s_atT C B hv ?_
  refine ⟨kd3v hv5, ?_⟩
  have h7 := A_le B hv5 (j := 7) (by decide)
  refine s_frozen C B hv5 ?_
  by_cases c : A v 7 = 0
  · rw [if_pos c]
    refine ⟨nb_01.2, ifT rfl ⟨vin01, ?_⟩⟩
    rintro G5 rfl
    refine h _ _ ?_
    unfold wpX9_isFrozen wpX9_asksVault
    rintro G1 rfl
    refine m_isT (th_M M _).1 h5 hv (ifF (by decide) (m_ofN (j := 7) (th_M M _) B hv (by decide) ?_))
    rw [c]
    exact ifT (by decide) (finb0q I rfl (Or.inl rfl) (by decide))
  · rw [if_neg c]
    refine ⟨nb_01.1, ifF (by decide) ⟨vin01, ?_⟩⟩
    rintro G5 rfl
    refine h _ _ ?_
    unfold wpX9_isFrozen wpX9_asksVault
    rintro G1 rfl
    refine m_isT (th_M M _).1 h5 hv (ifF (by decide) (m_ofN (j := 7) (th_M M _) B hv (by decide) ?_))
    exact ifF (nI_nle (by omega) (by omega)) (finb0q I rfl (Or.inr rfl) (by decide))

theorem k_law_16 {L : Nat} {xs : Nat → Int32} {v5 : Int32} {G : GS} (I : Inv G) (hv : ∀ j, j < 5 → vp_in (v5 + nI j) L) : wpL_law_16 Inv L xs v5 G :=
  ⟨hv 1 (by decide), w_isFrozen I _ (fun c G' y => ⟨hv 1 (by decide), y⟩)⟩
theorem w_daysUntilThaw {G : GS} (I : Inv G) (a1 : Int32) {PL : Int32 → GS → Prop} (h : ∀ c G', wpX9_daysUntilThaw (FIN Inv c) a1 G' → PL c G') : wpL_daysUntilThaw PL a1 G := by
  obtain ⟨n, R, A, B, C, M, T⟩ := I.1
  have h5 := B.1
  have bad : a1 < 0 ∨ nI n ≤ a1 → wpL_daysUntilThaw PL a1 G := fun hx => by
    unfold wpL_daysUntilThaw wpX8_daysUntilThaw
    refine s_atF C hx ?_
    refine ifT rfl (h _ _ ?_)
    unfold wpX9_daysUntilThaw
    rintro G1 rfl
    refine m_isF (th_M0 M).1 h5 hx (ifT rfl (m_fails ?_))
    exact finEq I (by decide)
  rcases pk_ix a1 (n := n) (by omega) with hx | hx | ⟨v, hv, rfl⟩
  · exact bad (Or.inl hx)
  · exact bad (Or.inr hx)
  clear bad
  have hv5 : v < 5 := by omega
  unfold wpL_daysUntilThaw wpX8_daysUntilThaw
  refine s_atT C B hv ?_
  refine ⟨kd3v hv5, ?_⟩
  have h7 := A_le B hv5 (j := 7) (by decide)
  refine s_frozen C B hv5 ?_
  by_cases c : A v 7 = 0
  · rw [if_pos c]
    refine ifT rfl (ifF (by decide +kernel) (ifT rfl (h _ _ ?_)))
    unfold wpX9_daysUntilThaw
    rintro G1 rfl
    refine m_isT (th_M0 M).1 h5 hv (ifF (by decide) (m_ofN (j := 7) (th_M0 M) B hv (by decide) ?_))
    rw [c]
    exact ifT (by decide) (m_fails (finEq I (by decide)))
  · rw [if_neg c]
    refine ifF (by decide) ?_
    rw [cf_5 C hv5]
    refine ⟨vin01, ?_⟩
    rintro G5 rfl
    refine h _ _ ?_
    unfold wpX9_daysUntilThaw
    rintro G1 rfl
    refine m_isT (th_M M _).1 h5 hv (ifF (by decide) (m_ofN (j := 7) (th_M M _) B hv (by decide) ?_))
    exact ifF (nI_nle (by omega) (by omega)) (m_ofN (j := 7) (th_M M _) B hv (by decide) (fin0q I rfl))

theorem k_law_17 {L : Nat} {xs : Nat → Int32} {v5 : Int32} {G : GS} (I : Inv G) (hv : ∀ j, j < 5 → vp_in (v5 + nI j) L) : wpL_law_17 Inv L xs v5 G :=
  ⟨hv 1 (by decide), w_daysUntilThaw I _ (fun c G' y => ⟨hv 1 (by decide), y⟩)⟩
theorem w_value {G : GS} (I : Inv G) (a1 : Int32) {PL : Int32 → GS → Prop} (h : ∀ c G', wpX9_value (FIN Inv c) a1 G' → PL c G') : wpL_value PL a1 G := by
  obtain ⟨n, R, A, B, C, M, T⟩ := I.1
  have h5 := B.1
  have bad : a1 < 0 ∨ nI n ≤ a1 → wpL_value PL a1 G := fun hx => by
    unfold wpL_value wpX8_value
    refine s_atF C hx ?_
    refine ifT rfl (h _ _ ?_)
    unfold wpX9_value
    rintro G1 rfl
    refine m_isF (th_M0 M).1 h5 hx (ifT rfl (m_fails ?_))
    exact finEq I (by decide)
  rcases pk_ix a1 (n := n) (by omega) with hx | hx | ⟨v, hv, rfl⟩
  · exact bad (Or.inl hx)
  · exact bad (Or.inr hx)
  clear bad
  have hv5 : v < 5 := by omega
  unfold wpL_value wpX8_value
  refine s_atT C B hv ?_
  refine ⟨kd3v hv5, ?_⟩
  refine s_legsV C hv5 ?_
  refine ⟨vin01, ?_⟩
  rintro G5 rfl
  refine h _ _ ?_
  unfold wpX9_value
  rintro G1 rfl
  refine m_isT (th_M M _).1 h5 hv (ifF (by decide) ?_)
  exact m_value (th_M M _) B hv (fin0q I rfl)
theorem k_law_18 {L : Nat} {xs : Nat → Int32} {v5 : Int32} {G : GS} (I : Inv G) (hv : ∀ j, j < 5 → vp_in (v5 + nI j) L) : wpL_law_18 Inv L xs v5 G :=
  ⟨hv 1 (by decide), w_value I _ (fun c G' y => ⟨hv 1 (by decide), y⟩)⟩
theorem w_reserve {G : GS} (I : Inv G) (a1 : Int32) {PL : Int32 → GS → Prop} (h : ∀ c G', wpX9_reserve (FIN Inv c) a1 G' → PL c G') : wpL_reserve PL a1 G := by
  obtain ⟨n, R, A, B, C, M, T⟩ := I.1
  have h5 := B.1
  have bad : a1 < 0 ∨ nI n ≤ a1 → wpL_reserve PL a1 G := fun hx => by
    unfold wpL_reserve wpX8_reserve
    refine s_atF C hx ?_
    refine ifT rfl (h _ _ ?_)
    unfold wpX9_reserve
    rintro G1 rfl
    refine m_isF (th_M0 M).1 h5 hx (ifT rfl (m_fails ?_))
    exact finEq I (by decide)
  rcases pk_ix a1 (n := n) (by omega) with hx | hx | ⟨v, hv, rfl⟩
  · exact bad (Or.inl hx)
  · exact bad (Or.inr hx)
  clear bad
  have hv5 : v < 5 := by omega
  unfold wpL_reserve wpX8_reserve
  refine s_atT C B hv ?_
  refine ⟨kd3v hv5, ?_⟩
  have V := vl_le B hv5
  refine s_legsV C hv5 ?_
  unfold wpX7_reserveOf
  rw [cf_4 C hv5, (rsv_num (by omega) (B.2.2.1 v 6 hv5 (by decide))).1]
  refine ⟨vin01, ?_⟩
  rintro G5 rfl
  refine h _ _ ?_
  unfold wpX9_reserve
  rintro G1 rfl
  refine m_isT (th_M M _).1 h5 hv (ifF (by decide) ?_)
  exact m_reserve (th_M M _) B hv (fin0q I rfl)
theorem k_law_19 {L : Nat} {xs : Nat → Int32} {v5 : Int32} {G : GS} (I : Inv G) (hv : ∀ j, j < 5 → vp_in (v5 + nI j) L) : wpL_law_19 Inv L xs v5 G :=
  ⟨hv 1 (by decide), w_reserve I _ (fun c G' y => ⟨hv 1 (by decide), y⟩)⟩
theorem w_isSound {G : GS} (I : Inv G) (a1 : Int32) {PL : Int32 → GS → Prop} (h : ∀ c G', wpX9_isSound (FINb Inv c) a1 G' → PL c G') : wpL_isSound PL a1 G := by
  obtain ⟨n, R, A, B, C, M, T⟩ := I.1
  have h5 := B.1
  have bad : a1 < 0 ∨ nI n ≤ a1 → wpL_isSound PL a1 G := fun hx => by
    unfold wpL_isSound wpX8_isSound
    refine s_atF C hx ?_
    refine ifT rfl (h _ _ ?_)
    unfold wpX9_isSound
    rintro G1 rfl
    refine m_isF (th_M0 M).1 h5 hx (ifT rfl (m_fails ?_))
    exact ifT (by decide) (finbEq I (by decide))
  rcases pk_ix a1 (n := n) (by omega) with hx | hx | ⟨v, hv, rfl⟩
  · exact bad (Or.inl hx)
  · exact bad (Or.inr hx)
  clear bad
  have hv5 : v < 5 := by omega
  have V := vl_le B hv5
  have D := A_le B hv5 (j := 4) (by decide)
  have K := bk_le R (A v)
  unfold wpL_isSound wpX8_isSound
  refine s_atT C B hv ?_
  refine ⟨kd3v hv5, ?_⟩
  refine s_sound C B hv5 ?_
  by_cases c : bk R (A v) < A v 4
  · rw [if_pos c]
    refine ⟨nb_01.2, ifT rfl ⟨vin01, ?_⟩⟩
    rintro G5 rfl
    refine h _ _ ?_
    unfold wpX9_isSound
    rintro G1 rfl
    refine m_isT (th_M M _).1 h5 hv (ifF (by decide) (m_spare (th_M M _) B hv ?_))
    exact ifT ((sp_lt (by omega) (by omega)).mpr c) (finb0q I rfl (Or.inl rfl) (by decide))
  · rw [if_neg c]
    refine ⟨nb_01.1, ifF (by decide) ⟨vin01, ?_⟩⟩
    rintro G5 rfl
    refine h _ _ ?_
    unfold wpX9_isSound
    rintro G1 rfl
    refine m_isT (th_M M _).1 h5 hv (ifF (by decide) (m_spare (th_M M _) B hv ?_))
    exact ifF (fun e => c ((sp_lt (by omega) (by omega)).mp e)) (finb0q I rfl (Or.inr rfl) (by decide))

theorem k_law_20 {L : Nat} {xs : Nat → Int32} {v5 : Int32} {G : GS} (I : Inv G) (hv : ∀ j, j < 5 → vp_in (v5 + nI j) L) : wpL_law_20 Inv L xs v5 G :=
  ⟨hv 1 (by decide), w_isSound I _ (fun c G' y => ⟨hv 1 (by decide), y⟩)⟩
theorem w_mintable {G : GS} (I : Inv G) (a1 : Int32) {PL : Int32 → GS → Prop} (h : ∀ c G', wpX9_mintable (FIN Inv c) a1 G' → PL c G') : wpL_mintable PL a1 G := by
  obtain ⟨n, R, A, B, C, M, T⟩ := I.1
  have h5 := B.1
  have bad : a1 < 0 ∨ nI n ≤ a1 → wpL_mintable PL a1 G := fun hx => by
    unfold wpL_mintable wpX8_mintable
    refine s_atF C hx ?_
    refine ifT rfl (h _ _ ?_)
    unfold wpX9_mintable
    rintro G1 rfl
    refine m_isF (th_M0 M).1 h5 hx (ifT rfl (m_fails ?_))
    exact finEq I (by decide)
  rcases pk_ix a1 (n := n) (by omega) with hx | hx | ⟨v, hv, rfl⟩
  · exact bad (Or.inl hx)
  · exact bad (Or.inr hx)
  clear bad
  have hv5 : v < 5 := by omega
  have V := vl_le B hv5
  have D := A_le B hv5 (j := 4) (by decide)
  have K := bk_le R (A v)
  unfold wpL_mintable wpX8_mintable
  refine s_atT C B hv ?_
  refine ⟨kd3v hv5, ?_⟩
  refine s_free C B hv5 ?_
  refine ⟨vin01, ?_⟩
  rintro G5 rfl
  refine h _ _ ?_
  unfold wpX9_mintable
  rintro G1 rfl
  refine m_isT (th_M M _).1 h5 hv (ifF (by decide) ?_)
  refine m_spare (th_M M _) B hv ?_
  by_cases c : bk R (A v) ≤ A v 4
  · exact ifT ((sp_le (by omega) (by omega)).mpr c) (fin0q I (by rw [Nat.sub_eq_zero_of_le c]; rfl))
  · exact ifF (fun e => c ((sp_le (by omega) (by omega)).mp e)) (m_spare (th_M M _) B hv (fin0q I (pk_sub (by omega))))
theorem k_law_21 {L : Nat} {xs : Nat → Int32} {v5 : Int32} {G : GS} (I : Inv G) (hv : ∀ j, j < 5 → vp_in (v5 + nI j) L) : wpL_law_21 Inv L xs v5 G :=
  ⟨hv 1 (by decide), w_mintable I _ (fun c G' y => ⟨hv 1 (by decide), y⟩)⟩
theorem w_daysUntilSound {G : GS} (I : Inv G) (a1 : Int32) {PL : Int32 → GS → Prop} (h : ∀ c G', wpX9_daysUntilSound (FIN Inv c) a1 G' → PL c G') : wpL_daysUntilSound PL a1 G := by
  obtain ⟨n, R, A, B, C, M, T⟩ := I.1
  have h5 := B.1
  have bad : a1 < 0 ∨ nI n ≤ a1 → wpL_daysUntilSound PL a1 G := fun hx => by
    unfold wpL_daysUntilSound wpX8_daysUntilSound
    refine s_atF C hx ?_
    refine ifT rfl (h _ _ ?_)
    unfold wpX9_daysUntilSound
    rintro G1 rfl
    refine m_isF (th_M0 M).1 h5 hx (ifT rfl (m_fails ?_))
    exact finEq I (by decide)
  rcases pk_ix a1 (n := n) (by omega) with hx | hx | ⟨v, hv, rfl⟩
  · exact bad (Or.inl hx)
  · exact bad (Or.inr hx)
  clear bad
  have hv5 : v < 5 := by omega
  have V := vl_le B hv5
  have D := A_le B hv5 (j := 4) (by decide)
  have K := bk_le R (A v)
  unfold wpL_daysUntilSound wpX8_daysUntilSound
  refine s_atT C B hv ?_
  refine ⟨kd3v hv5, ?_⟩
  refine s_dsub C B hv5 ?_
  refine ⟨vin01, ?_⟩
  rintro G5 rfl
  refine h _ _ ?_
  unfold wpX9_daysUntilSound
  rintro G1 rfl
  refine m_isT (th_M M _).1 h5 hv (ifF (by decide) ?_)
  refine m_spare (th_M M _) B hv ?_
  by_cases c : A v 4 ≤ bk R (A v)
  · exact ifT ((sp_ge (by omega) (by omega)).mpr c) (fin0q I (by rw [Nat.sub_eq_zero_of_le c]; rfl))
  · exact ifF (fun e => c ((sp_ge (by omega) (by omega)).mp e)) (m_spare (th_M M _) B hv (fin0q I (sp_neg (by omega))))
theorem k_law_22 {L : Nat} {xs : Nat → Int32} {v5 : Int32} {G : GS} (I : Inv G) (hv : ∀ j, j < 5 → vp_in (v5 + nI j) L) : wpL_law_22 Inv L xs v5 G :=
  ⟨hv 1 (by decide), w_daysUntilSound I _ (fun c G' y => ⟨hv 1 (by decide), y⟩)⟩
theorem w_daysUntilSoundByCounting {G : GS} (I : Inv G) (a1 : Int32) {PL : Int32 → GS → Prop} (h : ∀ c G', wpX9_daysUntilSoundByCounting (FIN Inv c) a1 G' → PL c G') : wpL_daysUntilSoundByCounting PL a1 G := by
  obtain ⟨n, R, A, B, C, M, T⟩ := I.1
  have h5 := B.1
  have bad : a1 < 0 ∨ nI n ≤ a1 → wpL_daysUntilSoundByCounting PL a1 G := fun hx => by
    unfold wpL_daysUntilSoundByCounting wpX8_daysUntilSoundByCounting
    refine s_atF C hx ?_
    refine ifT rfl (h _ _ ?_)
    unfold wpX9_daysUntilSoundByCounting wpX9_daysUntilSound
    rintro G1 rfl
    refine m_isF (th_M0 M).1 h5 hx (ifT rfl (m_fails ?_))
    exact finEq I (by decide)
  rcases pk_ix a1 (n := n) (by omega) with hx | hx | ⟨v, hv, rfl⟩
  · exact bad (Or.inl hx)
  · exact bad (Or.inr hx)
  clear bad
  have hv5 : v < 5 := by omega
  have V := vl_le B hv5
  have D := A_le B hv5 (j := 4) (by decide)
  have K := bk_le R (A v)
  unfold wpL_daysUntilSoundByCounting wpX8_daysUntilSoundByCounting
  refine s_atT C B hv ?_
  refine ⟨kd3v hv5, ?_⟩
  refine s_dcount C B hv5 ?_
  refine ⟨vin01, ?_⟩
  rintro G5 rfl
  refine h _ _ ?_
  unfold wpX9_daysUntilSoundByCounting wpX9_daysUntilSound
  rintro G1 rfl
  refine m_isT (th_M M _).1 h5 hv (ifF (by decide) ?_)
  refine m_spare (th_M M _) B hv ?_
  by_cases c : A v 4 ≤ bk R (A v)
  · exact ifT ((sp_ge (by omega) (by omega)).mpr c) (fin0q I (by rw [Nat.sub_eq_zero_of_le c]; rfl))
  · exact ifF (fun e => c ((sp_ge (by omega) (by omega)).mp e)) (m_spare (th_M M _) B hv (fin0q I (sp_neg (by omega))))
theorem k_law_23 {L : Nat} {xs : Nat → Int32} {v5 : Int32} {G : GS} (I : Inv G) (hv : ∀ j, j < 5 → vp_in (v5 + nI j) L) : wpL_law_23 Inv L xs v5 G :=
  ⟨hv 1 (by decide), w_daysUntilSoundByCounting I _ (fun c G' y => ⟨hv 1 (by decide), y⟩)⟩
theorem k_law_10 {L : Nat} {xs : Nat → Int32} {v5 : Int32} {G : GS} (I : Inv G) : wpL_law_10 Inv L xs v5 G := by
  obtain ⟨n, R, A, B, C, M, T⟩ := I.1
  have e : G.1 0 4 = G.1 190 0 := (cf_n C).trans M.1.symm
  unfold wpL_law_10 wpX8_vaultCount wpX9_vaultCount wpX9_asks
  rintro G1 rfl
  refine ⟨in56 (i := 0) (by decide), ?_⟩
  exact ifT (e.trans (by rw [gI_ne _ _ _ (show 190 ≠ 189 by decide)]; rfl)) (Inv_th I 0)
theorem k_law_33 {L : Nat} {xs : Nat → Int32} {v5 : Int32} {G : GS} (I : Inv G) : wpL_law_33 Inv L xs v5 G := by
  obtain ⟨n, R, A, B, C, M, T⟩ := I.1
  have e : G.1 0 5 = G.1 190 1 := T 1 (by unfold tk; omega)
  unfold wpL_law_33 wpX8_day wpX9_day wpX9_asks
  rintro G1 rfl
  refine ⟨in56 (i := 1) (by decide), ?_⟩
  exact ifT (e.trans (by rw [gI_ne _ _ _ (show 190 ≠ 189 by decide)]; rfl)) (Inv_th I 0)
theorem k_law_34 {L : Nat} {xs : Nat → Int32} {v5 : Int32} {G : GS} (I : Inv G) : wpL_law_34 Inv L xs v5 G := by
  obtain ⟨n, R, A, B, C, M, T⟩ := I.1
  have e : G.1 0 6 = G.1 190 11 := ((lg_t G.1 0 (k := 0) (by decide)).symm).trans (T 11 (by unfold tk; omega))
  unfold wpL_law_34 wpX8_mintedTotal wpX9_mintedTotal wpX9_asks
  rintro G1 rfl
  refine ⟨in56 (i := 11) (by decide), ?_⟩
  exact ifT (e.trans (by rw [gI_ne _ _ _ (show 190 ≠ 189 by decide)]; rfl)) (Inv_th I 0)
theorem k_law_35 {L : Nat} {xs : Nat → Int32} {v5 : Int32} {G : GS} (I : Inv G) : wpL_law_35 Inv L xs v5 G := by
  obtain ⟨n, R, A, B, C, M, T⟩ := I.1
  have e : G.1 0 7 = G.1 190 12 := ((lg_t G.1 0 (k := 1) (by decide)).symm).trans (T 12 (by unfold tk; omega))
  unfold wpL_law_35 wpX8_redeemedTotal wpX9_redeemedTotal wpX9_asks
  rintro G1 rfl
  refine ⟨in56 (i := 12) (by decide), ?_⟩
  exact ifT (e.trans (by rw [gI_ne _ _ _ (show 190 ≠ 189 by decide)]; rfl)) (Inv_th I 0)
theorem k_law_36 {L : Nat} {xs : Nat → Int32} {v5 : Int32} {G : GS} (I : Inv G) : wpL_law_36 Inv L xs v5 G := by
  obtain ⟨n, R, A, B, C, M, T⟩ := I.1
  have e : G.1 0 8 = G.1 190 13 := ((lg_t G.1 0 (k := 2) (by decide)).symm).trans (T 13 (by unfold tk; omega))
  unfold wpL_law_36 wpX8_evaporatedTotal wpX9_evaporatedTotal wpX9_asks
  rintro G1 rfl
  refine ⟨in56 (i := 13) (by decide), ?_⟩
  exact ifT (e.trans (by rw [gI_ne _ _ _ (show 190 ≠ 189 by decide)]; rfl)) (Inv_th I 0)
theorem k_law_37 {L : Nat} {xs : Nat → Int32} {v5 : Int32} {G : GS} (I : Inv G) : wpL_law_37 Inv L xs v5 G := by
  obtain ⟨n, R, A, B, C, M, T⟩ := I.1
  have e : G.1 0 9 = G.1 190 14 := ((lg_t G.1 0 (k := 3) (by decide)).symm).trans (T 14 (by unfold tk; omega))
  unfold wpL_law_37 wpX8_auditTotal wpX9_auditTotal wpX9_asks
  rintro G1 rfl
  refine ⟨in56 (i := 14) (by decide), ?_⟩
  exact ifT (e.trans (by rw [gI_ne _ _ _ (show 190 ≠ 189 by decide)]; rfl)) (Inv_th I 0)
theorem k_law_38 {L : Nat} {xs : Nat → Int32} {v5 : Int32} {G : GS} (I : Inv G) : wpL_law_38 Inv L xs v5 G := by
  obtain ⟨n, R, A, B, C, M, T⟩ := I.1
  have e : G.1 0 10 = G.1 190 15 := ((lg_t G.1 0 (k := 4) (by decide)).symm).trans (T 15 (by unfold tk; omega))
  unfold wpL_law_38 wpX8_soundAuditTotal wpX9_soundAuditTotal wpX9_asks
  rintro G1 rfl
  refine ⟨in56 (i := 15) (by decide), ?_⟩
  exact ifT (e.trans (by rw [gI_ne _ _ _ (show 190 ≠ 189 by decide)]; rfl)) (Inv_th I 0)
