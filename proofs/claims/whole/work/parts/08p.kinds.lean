/-! queries of a kind, of all, of the means -/
section KINDS
variable {G : GS} {n : Nat} {R : Nat → Nat} {A : Nat → Nat → Nat} {post : Int32 → GS → Prop} {xpost : String → GS → Prop}
theorem s_knT {x : Int32} {k : Nat} (hk : k < 3) (ek : kn x = nI k) (h : post (nI k) G) : wpX8_kindNumber post xpost x G := by
  refine s_kind ?_
  rw [ek]
  exact ifT (nI_pos' (by omega)) h
theorem s_knF {x : Int32} (ek : kn x = -1) (h : xpost "java/lang/IllegalArgumentException" G) : wpX8_kindNumber post xpost x G := by
  refine s_kind ?_
  rw [ek]
  exact ifF (by decide) h
theorem gD_at (G : GS) (x : UInt64) : (gD G 0 x).2.2.2 0 = x := by
  show (if (0 : Nat) = 0 then x else G.2.2.2 0) = x
  exact if_pos rfl
end KINDS
theorem w_flies {G : GS} (I : Inv G) (a1 a2 : Int32) {PL : Int32 → GS → Prop} (h : ∀ c G', wpX9_flies (FIN Inv c) a1 a2 G' → PL c G') : wpL_flies PL a1 a2 G := by
  obtain ⟨n, R, A, B, C, M, T⟩ := I.1
  have h5 := B.1
  have bad : a1 < 0 ∨ nI n ≤ a1 → wpL_flies PL a1 a2 G := fun hx => by
    unfold wpL_flies wpX8_flies
    refine s_atF C hx ?_
    refine ifT rfl (h _ _ ?_)
    unfold wpX9_flies
    rintro G1 rfl
    exact m_isF (th_M0 M).1 h5 hx (ifT rfl (m_fails (finEq I (by decide))))
  rcases pk_ix a1 (n := n) (by omega) with hx | hx | ⟨v, hv, rfl⟩
  · exact bad (Or.inl hx)
  · exact bad (Or.inr hx)
  clear bad
  have hv5 : v < 5 := by omega
  unfold wpL_flies wpX8_flies
  refine s_atT C B hv ?_
  refine ⟨kd3v hv5, ?_⟩
  rcases kn_cases a2 with ⟨k, hk, ek⟩ | ek
  · refine s_knT hk ek ?_
    refine ⟨vin3 hk (by omega), ?_⟩
    rw [nI_clamp (by omega), cf_h C hv5 k hk]
    refine ⟨vin01, ?_⟩
    rintro G5 rfl
    refine h _ _ ?_
    unfold wpX9_flies
    rintro G1 rfl
    refine m_isT (th_M M _).1 h5 hv (ifF (by decide) (m_kind ?_))
    rw [ek]
    refine ifT (nI_pos' (by omega)) (m_kind ?_)
    rw [ek]
    exact m_ofN (th_M M _) B hv (by omega) (fin0q I rfl)
  · refine s_knF ek ?_
    refine ifF (by decide +kernel) (ifT rfl (h _ _ ?_))
    unfold wpX9_flies
    rintro G1 rfl
    refine m_isT (th_M0 M).1 h5 hv (ifF (by decide) (m_kind ?_))
    rw [ek]
    exact ifF (by decide) (m_fails (finEq I (by decide)))
theorem k_law_11 {L : Nat} {xs : Nat → Int32} {v5 : Int32} {G : GS} (I : Inv G) (hv : ∀ j, j < 5 → vp_in (v5 + nI j) L) : wpL_law_11 Inv L xs v5 G :=
  ⟨hv 1 (by decide), hv 2 (by decide), w_flies I _ _ (fun c G' y => ⟨hv 1 (by decide), hv 2 (by decide), y⟩)⟩
theorem w_mostFlies {G : GS} (I : Inv G) (a1 a2 : Int32) {PL : Int32 → GS → Prop} (h : ∀ c G', wpX9_mostFlies (FIN Inv c) a1 a2 G' → PL c G') : wpL_mostFlies PL a1 a2 G ∧ wpL_mostFliesByExchanges PL a1 a2 G := by
  obtain ⟨n, R, A, B, C, M, T⟩ := I.1
  have h5 := B.1
  have mbad : a1 < 0 ∨ nI n ≤ a1 → wpX9_mostFlies (FIN Inv 1) a1 a2 G := fun hx => by
    unfold wpX9_mostFlies
    rintro G1 rfl
    exact m_isF (th_M0 M).1 h5 hx (ifT rfl (m_fails (finEq I (by decide))))
  have bad : a1 < 0 ∨ nI n ≤ a1 → wpL_mostFlies PL a1 a2 G ∧ wpL_mostFliesByExchanges PL a1 a2 G := fun hx => by
    constructor
    · unfold wpL_mostFlies wpX8_mostFlies
      refine s_atF C hx ?_
      exact ifT rfl (h _ _ (mbad hx))
    · unfold wpL_mostFliesByExchanges wpX8_mostFliesByExchanges
      refine s_atF C hx ?_
      exact ifT rfl (h _ _ (mbad hx))
  rcases pk_ix a1 (n := n) (by omega) with hx | hx | ⟨v, hv, rfl⟩
  · exact bad (Or.inl hx)
  · exact bad (Or.inr hx)
  clear bad mbad
  have hv5 : v < 5 := by omega
  have V := vl_le B hv5
  rcases kn_cases a2 with ⟨k, hk, ek⟩ | ek
  · have Rk := B.2.1 k hk
    have mm : ∀ y : Int64, y = (nI (vl R (A v) / R k)).toInt64 → wpX9_mostFlies (FIN Inv 0) (nI v) a2 (gL G 0 y) := by
      rintro y rfl
      unfold wpX9_mostFlies
      rintro G1 rfl
      refine m_isT (th_M M _).1 h5 hv (ifF (by decide) (m_kind ?_))
      rw [ek]
      refine ifT (nI_pos' (by omega)) (m_value (th_M M _) B hv (m_kind ?_))
      rw [ek, show (2 : Int32) = nI 2 from rfl, nI_add, nI_clamp (by omega), (th_M M _).2.1 k hk, pk_div (by omega) Rk.1 (by omega)]
      exact ⟨in56 (by omega), nI_ne0 Rk.1 (by omega), fin0q I rfl⟩
    constructor
    · unfold wpL_mostFlies wpX8_mostFlies
      refine s_atT C B hv ?_
      refine ⟨kd3v hv5, ?_⟩
      refine s_knT hk ek ?_
      refine s_mostV C B hv5 hk ⟨vin01, ?_⟩
      rintro G5 rfl
      exact h _ _ (mm _ rfl)
    · unfold wpL_mostFliesByExchanges wpX8_mostFliesByExchanges
      refine s_atT C B hv ?_
      refine ⟨kd3v hv5, ?_⟩
      refine s_knT hk ek ?_
      refine s_mostS C B hv5 hk ⟨vin01, ?_⟩
      rintro G5 rfl
      exact h _ _ (mm _ rfl)
  · have mm : wpX9_mostFlies (FIN Inv 2) (nI v) a2 G := by
      unfold wpX9_mostFlies
      rintro G1 rfl
      refine m_isT (th_M0 M).1 h5 hv (ifF (by decide) (m_kind ?_))
      rw [ek]
      exact ifF (by decide) (m_fails (finEq I (by decide)))
    constructor
    · unfold wpL_mostFlies wpX8_mostFlies
      refine s_atT C B hv ?_
      refine ⟨kd3v hv5, ?_⟩
      refine s_knF ek ?_
      exact ifF (by decide +kernel) (ifT rfl (h _ _ mm))
    · unfold wpL_mostFliesByExchanges wpX8_mostFliesByExchanges
      refine s_atT C B hv ?_
      refine ⟨kd3v hv5, ?_⟩
      refine s_knF ek ?_
      exact ifF (by decide +kernel) (ifT rfl (h _ _ mm))
theorem k_law_24 {L : Nat} {xs : Nat → Int32} {v5 : Int32} {G : GS} (I : Inv G) (hv : ∀ j, j < 5 → vp_in (v5 + nI j) L) : wpL_law_24 Inv L xs v5 G :=
  ⟨hv 1 (by decide), hv 2 (by decide), (w_mostFlies I _ _ (fun c G' y => ⟨hv 1 (by decide), hv 2 (by decide), y⟩)).1⟩
theorem k_law_25 {L : Nat} {xs : Nat → Int32} {v5 : Int32} {G : GS} (I : Inv G) (hv : ∀ j, j < 5 → vp_in (v5 + nI j) L) : wpL_law_25 Inv L xs v5 G :=
  ⟨hv 1 (by decide), hv 2 (by decide), (w_mostFlies I _ _ (fun c G' y => ⟨hv 1 (by decide), hv 2 (by decide), y⟩)).2⟩
theorem k_law_26 {L : Nat} {xs : Nat → Int32} {v5 : Int32} {G : GS} (I : Inv G) (hv : ∀ j, j < 5 → vp_in (v5 + nI j) L) : wpL_law_26 Inv L xs v5 G := by
  obtain ⟨n, R, A, B, C, M, T⟩ := I.1
  have mk := fun (c : Int32) (G' : GS) (y : wpX9_rate (FIN Inv c) (((xs (v5 + 1).toNatClampNeg).toUInt32 % 65536).toInt32) G') => (⟨hv 1 (by decide), y⟩ : vp_in (v5 + 1) L ∧ _)
  unfold wpL_law_26 wpL_rate wpX8_rate
  refine ⟨hv 1 (by decide), ?_⟩
  rcases kn_cases (((xs (v5 + 1).toNatClampNeg).toUInt32 % 65536).toInt32) with ⟨k, hk, ek⟩ | ek
  · refine s_knT hk ek ⟨vin3 hk (by decide), ?_⟩
    rw [nI_clamp (by omega), cf_r C k hk]
    refine ⟨vin01, ?_⟩
    rintro G5 rfl
    refine mk _ _ ?_
    unfold wpX9_rate
    rintro G1 rfl
    refine m_kind ?_
    rw [ek]
    refine ifT (nI_pos' (by omega)) (m_kind ?_)
    rw [ek, show (2 : Int32) = nI 2 from rfl, nI_add, nI_clamp (by omega)]
    exact ⟨in56 (by omega), fin0q I ((th_M M _).2.1 k hk)⟩
  · refine s_knF ek (ifT rfl (mk _ _ ?_))
    unfold wpX9_rate
    rintro G1 rfl
    refine m_kind ?_
    rw [ek]
    exact ifF (by decide) (m_fails (finEq I (by decide)))
theorem k_law_27 {L : Nat} {xs : Nat → Int32} {v5 : Int32} {G : GS} (I : Inv G) (hv : ∀ j, j < 5 → vp_in (v5 + nI j) L) : wpL_law_27 Inv L xs v5 G := by
  obtain ⟨n, R, A, B, C, M, T⟩ := I.1
  have mk := fun (c : Int32) (G' : GS) (y : wpX9_totalFlies (FIN Inv c) (((xs (v5 + 1).toNatClampNeg).toUInt32 % 65536).toInt32) G') => (⟨hv 1 (by decide), y⟩ : vp_in (v5 + 1) L ∧ _)
  unfold wpL_law_27 wpL_totalFlies wpX8_totalFlies
  refine ⟨hv 1 (by decide), ?_⟩
  rcases kn_cases (((xs (v5 + 1).toNatClampNeg).toUInt32 % 65536).toInt32) with ⟨k, hk, ek⟩ | ek
  · refine s_knT hk ek (s_fbv C B hk ⟨vin01, ?_⟩)
    rintro G5 rfl
    refine mk _ _ ?_
    unfold wpX9_totalFlies
    rintro G1 rfl
    refine m_kind ?_
    rw [ek]
    refine ifT (nI_pos' (by omega)) (m_kind ?_)
    rw [ek]
    exact m_fo (th_M M _) B hk (fin0q I rfl)
  · refine s_knF ek (ifT rfl (mk _ _ ?_))
    unfold wpX9_totalFlies
    rintro G1 rfl
    refine m_kind ?_
    rw [ek]
    exact ifF (by decide) (m_fails (finEq I (by decide)))
theorem k_law_28 {L : Nat} {xs : Nat → Int32} {v5 : Int32} {G : GS} (I : Inv G) (hv : ∀ j, j < 5 → vp_in (v5 + nI j) L) : wpL_law_28 Inv L xs v5 G := by
  obtain ⟨n, R, A, B, C, M, T⟩ := I.1
  have mk := fun (c : Int32) (G' : GS) (y : wpX9_totalFliesByAccounts (FIN Inv c) (((xs (v5 + 1).toNatClampNeg).toUInt32 % 65536).toInt32) G') => (⟨hv 1 (by decide), y⟩ : vp_in (v5 + 1) L ∧ _)
  unfold wpL_law_28 wpL_totalFliesByAccounts wpX8_totalFliesByAccounts
  refine ⟨hv 1 (by decide), ?_⟩
  rcases kn_cases (((xs (v5 + 1).toNatClampNeg).toUInt32 % 65536).toInt32) with ⟨k, hk, ek⟩ | ek
  · refine s_knT hk ek ⟨vin3 hk (by decide), vin3 hk (by decide), ⟨vin01, ?_⟩⟩
    rintro G5 rfl
    refine mk _ _ ?_
    unfold wpX9_totalFliesByAccounts
    rintro G1 rfl
    refine m_kind ?_
    rw [ek]
    refine ifT (nI_pos' (by omega)) (m_kind ?_)
    rw [ek, show (5 : Int32) = nI 5 from rfl, nI_add]
    refine ⟨in56 (by omega), m_kind ?_⟩
    rw [ek, show (8 : Int32) = nI 8 from rfl, nI_add, nI_clamp (by omega), nI_clamp (by omega), nI_clamp (by omega)]
    refine ⟨in56 (by omega), fin0q I ?_⟩
    rw [gI_ne _ _ _ (show 190 ≠ 189 by decide), gL_1, ← T (5 + k) (by unfold tk; omega), ← T (8 + k) (by unfold tk; omega), lg_i _ _ hk, lg_o _ _ hk]
  · refine s_knF ek (ifT rfl (mk _ _ ?_))
    unfold wpX9_totalFliesByAccounts
    rintro G1 rfl
    refine m_kind ?_
    rw [ek]
    exact ifF (by decide) (m_fails (finEq I (by decide)))
theorem k_law_29 {L : Nat} {xs : Nat → Int32} {v5 : Int32} {G : GS} (I : Inv G) : wpL_law_29 Inv L xs v5 G := by
  obtain ⟨n, R, A, B, C, M, T⟩ := I.1
  unfold wpL_law_29 wpX8_totalValue
  refine s_vbv C B ?_
  show wpX9_totalValue _ G
  unfold wpX9_totalValue
  rintro G1 rfl
  exact m_va (th_M0 M) B (ifT rfl (Inv_th I 0))
theorem k_law_30 {L : Nat} {xs : Nat → Int32} {v5 : Int32} {G : GS} (I : Inv G) : wpL_law_30 Inv L xs v5 G := by
  obtain ⟨n, R, A, B, C, M, T⟩ := I.1
  unfold wpL_law_30 wpX8_totalValueByKinds
  refine s_vbk C B ?_
  show wpX9_totalValueByKinds _ G
  unfold wpX9_totalValueByKinds wpX9_totalValue
  rintro G1 rfl
  exact m_va (th_M0 M) B (ifT rfl (Inv_th I 0))
theorem k_law_39 {L : Nat} {xs : Nat → Int32} {v5 : Int32} {G : GS} (I : Inv G) : wpL_law_39 Inv L xs v5 G := by
  obtain ⟨n, R, A, B, C, M, T⟩ := I.1
  have h5 := B.1
  unfold wpL_law_39 wpL_meanValue wpX8_meanValue
  rw [cf_n C]
  by_cases e : n = 0
  · subst e
    refine ifT rfl (ifT rfl ?_)
    show wpX9_meanValue _ G
    unfold wpX9_meanValue
    rintro G1 rfl
    refine ⟨in56 (i := 0) (by decide), ?_⟩
    show if (gI G 189 0 0).1 190 0 = 0 then _ else _
    rw [(th_M0 M).1]
    refine ifT rfl (m_fails ?_)
    unfold wpX9_thrown
    refine ifT ?_ (ifF (by decide) (Inv_th (Inv_th I 0) 1))
    rw [gI_at, upd_at]
  · have ne : nI n ≠ 0 := nI_ne0 (by omega) (by omega)
    refine ifF ne (s_vbv C B ?_)
    rw [cf_n C]
    have nn := FP_mean (a := nI (sv R A n)) ne
    obtain ⟨V, hV⟩ : ∃ V, V = FP.ddiv (FP.i2d (nI (sv R A n))) (FP.i2d (nI n)) := ⟨_, rfl⟩
    rw [← hV] at nn ⊢
    refine ⟨FP_nn64 nn, vin01, ?_⟩
    rintro G5 rfl
    show wpX9_meanValue _ (gD G 0 V)
    unfold wpX9_meanValue
    rintro G1 rfl
    have M1 : MR ((gI (gD G 0 V) 189 0 0).1 190) n R A := by rw [gI_ne _ _ _ (by decide)]; exact M
    refine ⟨in56 (i := 0) (by decide), ?_⟩
    show if (gI (gD G 0 V) 189 0 0).1 190 0 = 0 then _ else _
    have e0 : (gI (gD G 0 V) 189 0 0).1 190 ((0 : Int32).toNatClampNeg) = nI n := M1.1
    have e1 : (gI (gD G 0 V) 189 0 0).2.2.2 ((0 : Int32).toNatClampNeg) = V := gD_at G V
    rw [M1.1]
    refine ifF ne (m_va M1 B ⟨in56 (i := 0) (by decide), ?_⟩)
    rw [e0, ← hV]
    refine ⟨FP_nn64 nn, ?_⟩
    unfold wpX9_thrown
    refine ifT ?_ (ifT rfl ⟨vin01, ifT ?_ (Inv_th (Inv_gD I _ _) 0)⟩)
    · rw [gI_at, upd_at]
    · rw [e1]
      exact FP_cmp nn
theorem k_law_40 {L : Nat} {xs : Nat → Int32} {v5 : Int32} {G : GS} (I : Inv G) : wpL_law_40 Inv L xs v5 G := by
  obtain ⟨n, R, A, B, C, M, T⟩ := I.1
  have e9 : G.1 0 9 = G.1 190 14 := ((lg_t G.1 0 (k := 3) (by decide)).symm).trans (T 14 (by unfold tk; omega))
  have e10 : G.1 0 10 = G.1 190 15 := ((lg_t G.1 0 (k := 4) (by decide)).symm).trans (T 15 (by unfold tk; omega))
  unfold wpL_law_40 wpL_soundShare wpX8_soundShare
  rw [e9, e10]
  by_cases e : G.1 190 14 = 0
  · refine ifT e (ifT rfl ?_)
    show wpX9_soundShare _ G
    unfold wpX9_soundShare
    rintro G1 rfl
    refine ⟨in56 (i := 14) (by decide), ?_⟩
    show if (gI G 189 0 0).1 190 14 = 0 then _ else _
    rw [gI_ne _ _ _ (by decide)]
    refine ifT e (m_fails ?_)
    unfold wpX9_thrown
    refine ifT ?_ (ifF (by decide) (Inv_th (Inv_th I 0) 1))
    rw [gI_at, upd_at]
  · have nn := FP_share (a := G.1 190 15) e
    obtain ⟨V, hV⟩ : ∃ V, V = FP.fdiv (FP.i2f (G.1 190 15)) (FP.i2f (G.1 190 14)) := ⟨_, rfl⟩
    rw [← hV] at nn ⊢
    have nw := FP_f2d nn
    refine ifF e ⟨FP_nn32 nn, ?_⟩
    refine ⟨FP_nn64 nw, vin01, ?_⟩
    rintro G5 rfl
    show wpX9_soundShare _ (gD G 0 (FP.f2d V))
    unfold wpX9_soundShare
    rintro G1 rfl
    have e14 : (gI (gD G 0 (FP.f2d V)) 189 0 0).1 190 14 = G.1 190 14 := by rw [gI_ne _ _ _ (by decide), gD_1]
    have e15 : (gI (gD G 0 (FP.f2d V)) 189 0 0).1 190 ((15 : Int32).toNatClampNeg) = G.1 190 15 := by rw [gI_ne _ _ _ (by decide), gD_1]; rfl
    have e14' : (gI (gD G 0 (FP.f2d V)) 189 0 0).1 190 ((14 : Int32).toNatClampNeg) = G.1 190 14 := e14
    have e1 : (gI (gD G 0 (FP.f2d V)) 189 0 0).2.2.2 ((0 : Int32).toNatClampNeg) = FP.f2d V := gD_at G _
    rw [e14', e15, ← hV]
    refine ⟨in56 (i := 14) (by decide), ifF e ⟨in56 (i := 15) (by decide), in56 (i := 14) (by decide), FP_nn32 nn, ?_⟩⟩
    unfold wpX9_thrown
    refine ifT ?_ (ifT rfl ⟨vin01, FP_nn64 nw, ifT ?_ (Inv_th (Inv_gD I _ _) 0)⟩)
    · rw [gI_at, upd_at]
    · rw [e1]
      exact FP_cmp nw
