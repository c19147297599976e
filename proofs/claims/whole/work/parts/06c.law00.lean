def wpL_law_0 (K : GS → Prop) (L : Nat) (xs : Nat → Int32) (v5 : Int32) (G : GS) : Prop :=
  vp_in (v5 + 1) L ∧
  wpL_addVault (fun (r3 : Int32) (G2 : GS) =>
  vp_in (v5 + 1) L ∧
    wpX9_addVault (fun (r6 : Int32) (G5 : GS) =>
    wpX9_thrown (fun (r8 : Int32) (G7 : GS) =>
      if r8 = r3 then
        if r3 = 0 then
          vp_in 0 1 ∧
            if (lg_cmp (G7.2.2.1 (0 : Int32).toNatClampNeg) r6.toInt64) = 0 then
            K G7
          else
            False
        else
          K G7
      else
        False)  G5) (xs (v5 + 1).toNatClampNeg) G2) (xs (v5 + 1).toNatClampNeg) G
set_option maxHeartbeats 4000000 in
set_option maxRecDepth 100000 in
theorem okL_law_0 {p : Program} {e : Env} {s : State} {m : MethodId} {below : List Frame} {meth : Method} {c : Code} (l : Launch) (hfl : l.stackTraces = false) {b L : Nat} {xs : Nat → Int32} (C0 : lw_At p s m meth c b L xs) {X : Cx} (hE : Ev X s s.heap) (hz : (X.2.2.2.2) ≤ s.heap.size) (hbA : ¬ xA X b) {K : GS → Prop} {v5 : Int32} {G : GS} {H : Heap} {locs : List Loc} {ls : Array Slot} {cc0 ss0 : Nat} {Q : State → Prop} (hc9 : cc0 + 40 ≤ 603072) (hs9 : ss0 + 3000 ≤ 7211114) (hw : wpL_law_0 K L xs v5 G) (hP : va_P (xD X) vwCl (pool X G) H) (hD : va_D (xA X) (pool X G)) (hS : va_S (xA X) s.heap H locs) (hl : lv_has ls 9 [(0, .ref b), (1, .ref (xa X 165)), (2, .ref (xa X 189)), (3, .ref (xa X 197)), (4, .ref (xa X 198)), (5, .int v5)])
    (kk : ∀ (G : GS) (H : Heap) (locs : List Loc) (ls : Array Slot), K G → va_P (xD X) vwCl (pool X G) H → va_D (xA X) (pool X G) → va_S (xA X) s.heap H locs → lv_has ls 9 [(0, .ref b), (1, .ref (xa X 165)), (2, .ref (xa X 189)), (3, .ref (xa X 197)), (4, .ref (xa X 198)), (5, .int v5)] → W p l e room_1 s m #[Value.ref b] below meth c H locs (cc0 + 40) (ss0 + 3000) Q (F0 m 2836 ls [])) : W p l e room_1 s m #[Value.ref b] below meth c H locs cc0 ss0 Q (F0 m 268 ls []) := by
  obtain ⟨hx, hb, hr, hml, hown, hts, hX, hbl, hlocks, hgv⟩ := id C0
  unfold wpL_law_0 at hw
  refine lv_aload_n hx hb dL_law_268 rfl (lv_at hl 1 rfl) ?_
  refine lv_aload_n hx hb dL_law_269 rfl (lv_at hl 0 rfl) ?_
  refine lv_iload hx hb dL_law_270 (lv_at hl 5 rfl) ?_
  refine lv_iconst (v := 1) hx hb dL_law_272 (by decide) ?_
  refine lv_iadd hx hb dL_law_273 ?_
  obtain ⟨y1, hw⟩ := hw
  refine va_sld hx hb hX hbl hbA hS y1 dL_law_274 ?_
  refine lv_aload_n hx hb dL_law_275 rfl (lv_at hl 3 rfl) ?_
  refine call_i (run_SW (cc := cL_law) (As := [.ref (xa X 165), .int (xs (v5 + 1).toNatClampNeg), .ref (xa X 197)]) (rest := []) hx hb hml hown hE hz (okL_addVault X l hfl  hw) qw_851 qw_852 qw_73 qw_853 (myL_addVault).2 ⟨Nat.le_of_ble_eq_true rfl, Nat.le_of_ble_eq_true rfl⟩ hP hD hS rfl hl.1 rfl (Nat.le_of_ble_eq_true rfl) dL_law_276 ⟨(by show _ ≤ 603072; omega), (by show _ ≤ 7211114; omega)⟩) hS (fun r3 G2 H locs hw hP hD hS => ?_)
  refine lv_istore (lv' := [(6, .int r3), (0, .ref b), (1, .ref (xa X 165)), (2, .ref (xa X 189)), (3, .ref (xa X 197)), (4, .ref (xa X 198)), (5, .int v5)]) hx hb dL_law_279 hl (by decide) rfl (fun ls hl => ?_)
  refine lv_aload_n hx hb dL_law_281 rfl (lv_at hl 3 rfl) ?_
  refine lv_aload_n hx hb dL_law_282 rfl (lv_at hl 1 rfl) ?_
  refine lv_iload hx hb dL_law_283 (lv_at hl 6 rfl) ?_
  refine lv_iconst (v := 1) hx hb dL_law_285 (by decide) ?_
  refine lv_iadd hx hb dL_law_286 ?_
  obtain ⟨y4, hw⟩ := hw
  refine va_sld hx hb hX hbl hbA hS y4 dL_law_287 ?_
  refine call_i (run_V (cc := cL_law) (As := [.int (xs (v5 + 1).toNatClampNeg)]) (rest := []) hx hb hml hown hE hz (okX9_addVault X l hfl  hw) qw_1625 qw_1626 qw_1627 qw_86 qw_1628 (myX9_addVault) ⟨Nat.le_of_ble_eq_true rfl, Nat.le_of_ble_eq_true rfl⟩ (rv_X9 hE hP rfl) hP hD hS rfl hl.1 rfl (Nat.le_of_ble_eq_true rfl) dL_law_288 ⟨(by show _ ≤ 603072; omega), (by show _ ≤ 7211114; omega)⟩) hS (fun r6 G5 H locs hw hP hD hS => ?_)
  refine lv_istore (lv' := [(7, .int r6), (6, .int r3), (0, .ref b), (1, .ref (xa X 165)), (2, .ref (xa X 189)), (3, .ref (xa X 197)), (4, .ref (xa X 198)), (5, .int v5)]) hx hb dL_law_291 hl (by decide) rfl (fun ls hl => ?_)
  refine lv_aload_n hx hb dL_law_293 rfl (lv_at hl 4 rfl) ?_
  refine call_i (run_V (cc := cL_law) (As := []) (rest := []) hx hb hml hown hE hz (okX9_thrown X l hfl  hw) qw_1560 qw_1561 qw_1562 qw_86 qw_1563 (myX9_thrown) ⟨Nat.le_of_ble_eq_true rfl, Nat.le_of_ble_eq_true rfl⟩ (rv_X9 hE hP rfl) hP hD hS rfl hl.1 rfl (Nat.le_of_ble_eq_true rfl) dL_law_294 ⟨(by show _ ≤ 603072; omega), (by show _ ≤ 7211114; omega)⟩) hS (fun r8 G7 H locs hw hP hD hS => ?_)
  refine lv_iload hx hb dL_law_297 (lv_at hl 1 rfl) ?_
  refine lv_icmp_eq (tgt := 304) hx hb dL_law_299 (by decide) (fun c9 => ?_) (fun c9 => ?_)
  · replace hw := ite_t hw c9
    refine lv_iload hx hb dL_law_304 (lv_at hl 1 rfl) ?_
    refine lv_if_ne (tgt := 321) hx hb dL_law_306 (by decide) (fun c10 => ?_) (fun c10 => ?_)
    · replace hw := ite_f hw c10
      refine lv_goto (tgt := 2836) hx hb dL_law_321 (by decide) ?_
      refine W.widen (k := cc0 + 40) (n := ss0 + 3000) (by omega) (by omega) ?_
      exact kk G7 _ _ _ hw hP hD hS (lv_sub hl [2, 3, 4, 5, 6, 7] rfl)
    · replace hw := ite_t hw c10
      refine lv_aload_n hx hb dL_law_309 rfl (lv_at hl 5 rfl) ?_
      refine lv_iconst (v := 0) hx hb dL_law_310 (by decide) ?_
      obtain ⟨y11, hw⟩ := hw
      refine lald_14 hx hb hE hP y11 dL_law_311 ?_
      refine lv_iload hx hb dL_law_312 (lv_at hl 0 rfl) ?_
      refine lv_i2l hx hb dL_law_314 rfl ?_
      refine W.lcmp hx hb dL_law_315 ?_
      refine lv_if_eq (tgt := 321) hx hb dL_law_316 (by decide) (fun c12 => ?_) (fun c12 => ?_)
      · replace hw := ite_t hw c12
        refine lv_goto (tgt := 2836) hx hb dL_law_321 (by decide) ?_
        refine W.widen (k := cc0 + 40) (n := ss0 + 3000) (by omega) (by omega) ?_
        exact kk G7 _ _ _ hw hP hD hS (lv_sub hl [2, 3, 4, 5, 6, 7] rfl)
      · replace hw := ite_f hw c12
        exact hw.elim
  · replace hw := ite_f hw c9
    exact hw.elim
def wpL_law_1 (K : GS → Prop) (L : Nat) (xs : Nat → Int32) (v5 : Int32) (G : GS) : Prop :=
  vp_in (v5 + 1) L ∧
  vp_in (v5 + 2) L ∧
  vp_in (v5 + 3) L ∧
  wpL_deposit (fun (r5 : Int32) (G4 : GS) =>
  vp_in (v5 + 1) L ∧
    vp_in (v5 + 2) L ∧
    vp_in (v5 + 3) L ∧
    wpX9_deposit (fun (r10 : Int32) (G9 : GS) =>
    wpX9_thrown (fun (r12 : Int32) (G11 : GS) =>
      if r12 = r5 then
        if r5 = 0 then
          vp_in 0 1 ∧
            if (lg_cmp (G11.2.2.1 (0 : Int32).toNatClampNeg) r10.toInt64) = 0 then
            K G11
          else
            False
        else
          K G11
      else
        False)  G9) (xs (v5 + 1).toNatClampNeg) (((xs (v5 + 2).toNatClampNeg).toUInt32 % 65536).toInt32) (xs (v5 + 3).toNatClampNeg) G4) (xs (v5 + 1).toNatClampNeg) (((xs (v5 + 2).toNatClampNeg).toUInt32 % 65536).toInt32) (xs (v5 + 3).toNatClampNeg) G
set_option maxHeartbeats 4000000 in
set_option maxRecDepth 100000 in
theorem okL_law_1 {p : Program} {e : Env} {s : State} {m : MethodId} {below : List Frame} {meth : Method} {c : Code} (l : Launch) (hfl : l.stackTraces = false) {b L : Nat} {xs : Nat → Int32} (C0 : lw_At p s m meth c b L xs) {X : Cx} (hE : Ev X s s.heap) (hz : (X.2.2.2.2) ≤ s.heap.size) (hbA : ¬ xA X b) {K : GS → Prop} {v5 : Int32} {G : GS} {H : Heap} {locs : List Loc} {ls : Array Slot} {cc0 ss0 : Nat} {Q : State → Prop} (hc9 : cc0 + 40 ≤ 603072) (hs9 : ss0 + 3000 ≤ 7211114) (hw : wpL_law_1 K L xs v5 G) (hP : va_P (xD X) vwCl (pool X G) H) (hD : va_D (xA X) (pool X G)) (hS : va_S (xA X) s.heap H locs) (hl : lv_has ls 9 [(0, .ref b), (1, .ref (xa X 165)), (2, .ref (xa X 189)), (3, .ref (xa X 197)), (4, .ref (xa X 198)), (5, .int v5)])
    (kk : ∀ (G : GS) (H : Heap) (locs : List Loc) (ls : Array Slot), K G → va_P (xD X) vwCl (pool X G) H → va_D (xA X) (pool X G) → va_S (xA X) s.heap H locs → lv_has ls 9 [(0, .ref b), (1, .ref (xa X 165)), (2, .ref (xa X 189)), (3, .ref (xa X 197)), (4, .ref (xa X 198)), (5, .int v5)] → W p l e room_1 s m #[Value.ref b] below meth c H locs (cc0 + 40) (ss0 + 3000) Q (F0 m 2836 ls [])) : W p l e room_1 s m #[Value.ref b] below meth c H locs cc0 ss0 Q (F0 m 324 ls []) := by
  obtain ⟨hx, hb, hr, hml, hown, hts, hX, hbl, hlocks, hgv⟩ := id C0
  unfold wpL_law_1 at hw
  refine lv_aload_n hx hb dL_law_324 rfl (lv_at hl 1 rfl) ?_
  refine lv_aload_n hx hb dL_law_325 rfl (lv_at hl 0 rfl) ?_
  refine lv_iload hx hb dL_law_326 (lv_at hl 5 rfl) ?_
  refine lv_iconst (v := 1) hx hb dL_law_328 (by decide) ?_
  refine lv_iadd hx hb dL_law_329 ?_
  obtain ⟨y1, hw⟩ := hw
  refine va_sld hx hb hX hbl hbA hS y1 dL_law_330 ?_
  refine lv_aload_n hx hb dL_law_331 rfl (lv_at hl 0 rfl) ?_
  refine lv_iload hx hb dL_law_332 (lv_at hl 5 rfl) ?_
  refine lv_iconst (v := 2) hx hb dL_law_334 (by decide) ?_
  refine lv_iadd hx hb dL_law_335 ?_
  obtain ⟨y2, hw⟩ := hw
  refine va_sld hx hb hX hbl hbA hS y2 dL_law_336 ?_
  refine lv_i2c hx hb dL_law_337 rfl ?_
  refine lv_aload_n hx hb dL_law_338 rfl (lv_at hl 0 rfl) ?_
  refine lv_iload hx hb dL_law_339 (lv_at hl 5 rfl) ?_
  refine lv_iconst (v := 3) hx hb dL_law_341 (by decide) ?_
  refine lv_iadd hx hb dL_law_342 ?_
  obtain ⟨y3, hw⟩ := hw
  refine va_sld hx hb hX hbl hbA hS y3 dL_law_343 ?_
  refine lv_aload_n hx hb dL_law_344 rfl (lv_at hl 3 rfl) ?_
  refine call_i (run_SW (cc := cL_law) (As := [.ref (xa X 165), .int (xs (v5 + 1).toNatClampNeg), .int (((xs (v5 + 2).toNatClampNeg).toUInt32 % 65536).toInt32), .int (xs (v5 + 3).toNatClampNeg), .ref (xa X 197)]) (rest := []) hx hb hml hown hE hz (okL_deposit X l hfl  hw) qw_942 qw_943 qw_73 qw_944 (myL_deposit).2 ⟨Nat.le_of_ble_eq_true rfl, Nat.le_of_ble_eq_true rfl⟩ hP hD hS rfl hl.1 rfl (Nat.le_of_ble_eq_true rfl) dL_law_345 ⟨(by show _ ≤ 603072; omega), (by show _ ≤ 7211114; omega)⟩) hS (fun r5 G4 H locs hw hP hD hS => ?_)
  refine lv_istore (lv' := [(6, .int r5), (0, .ref b), (1, .ref (xa X 165)), (2, .ref (xa X 189)), (3, .ref (xa X 197)), (4, .ref (xa X 198)), (5, .int v5)]) hx hb dL_law_348 hl (by decide) rfl (fun ls hl => ?_)
  refine lv_aload_n hx hb dL_law_350 rfl (lv_at hl 3 rfl) ?_
  refine lv_aload_n hx hb dL_law_351 rfl (lv_at hl 1 rfl) ?_
  refine lv_iload hx hb dL_law_352 (lv_at hl 6 rfl) ?_
  refine lv_iconst (v := 1) hx hb dL_law_354 (by decide) ?_
  refine lv_iadd hx hb dL_law_355 ?_
  obtain ⟨y6, hw⟩ := hw
  refine va_sld hx hb hX hbl hbA hS y6 dL_law_356 ?_
  refine lv_aload_n hx hb dL_law_357 rfl (lv_at hl 1 rfl) ?_
  refine lv_iload hx hb dL_law_358 (lv_at hl 6 rfl) ?_
  refine lv_iconst (v := 2) hx hb dL_law_360 (by decide) ?_
  refine lv_iadd hx hb dL_law_361 ?_
  obtain ⟨y7, hw⟩ := hw
  refine va_sld hx hb hX hbl hbA hS y7 dL_law_362 ?_
  refine lv_i2c hx hb dL_law_363 rfl ?_
  refine lv_aload_n hx hb dL_law_364 rfl (lv_at hl 1 rfl) ?_
  refine lv_iload hx hb dL_law_365 (lv_at hl 6 rfl) ?_
  refine lv_iconst (v := 3) hx hb dL_law_367 (by decide) ?_
  refine lv_iadd hx hb dL_law_368 ?_
  obtain ⟨y8, hw⟩ := hw
  refine va_sld hx hb hX hbl hbA hS y8 dL_law_369 ?_
  refine call_i (run_V (cc := cL_law) (As := [.int (xs (v5 + 1).toNatClampNeg), .int (((xs (v5 + 2).toNatClampNeg).toUInt32 % 65536).toInt32), .int (xs (v5 + 3).toNatClampNeg)]) (rest := []) hx hb hml hown hE hz (okX9_deposit X l hfl  hw) qw_1660 qw_1661 qw_1662 qw_86 qw_1663 (myX9_deposit) ⟨Nat.le_of_ble_eq_true rfl, Nat.le_of_ble_eq_true rfl⟩ (rv_X9 hE hP rfl) hP hD hS rfl hl.1 rfl (Nat.le_of_ble_eq_true rfl) dL_law_370 ⟨(by show _ ≤ 603072; omega), (by show _ ≤ 7211114; omega)⟩) hS (fun r10 G9 H locs hw hP hD hS => ?_)
  refine lv_istore (lv' := [(7, .int r10), (6, .int r5), (0, .ref b), (1, .ref (xa X 165)), (2, .ref (xa X 189)), (3, .ref (xa X 197)), (4, .ref (xa X 198)), (5, .int v5)]) hx hb dL_law_373 hl (by decide) rfl (fun ls hl => ?_)
  refine lv_aload_n hx hb dL_law_375 rfl (lv_at hl 4 rfl) ?_
  refine call_i (run_V (cc := cL_law) (As := []) (rest := []) hx hb hml hown hE hz (okX9_thrown X l hfl  hw) qw_1560 qw_1561 qw_1562 qw_86 qw_1563 (myX9_thrown) ⟨Nat.le_of_ble_eq_true rfl, Nat.le_of_ble_eq_true rfl⟩ (rv_X9 hE hP rfl) hP hD hS rfl hl.1 rfl (Nat.le_of_ble_eq_true rfl) dL_law_376 ⟨(by show _ ≤ 603072; omega), (by show _ ≤ 7211114; omega)⟩) hS (fun r12 G11 H locs hw hP hD hS => ?_)
  refine lv_iload hx hb dL_law_379 (lv_at hl 1 rfl) ?_
  refine lv_icmp_eq (tgt := 386) hx hb dL_law_381 (by decide) (fun c13 => ?_) (fun c13 => ?_)
  · replace hw := ite_t hw c13
    refine lv_iload hx hb dL_law_386 (lv_at hl 1 rfl) ?_
    refine lv_if_ne (tgt := 403) hx hb dL_law_388 (by decide) (fun c14 => ?_) (fun c14 => ?_)
    · replace hw := ite_f hw c14
      refine lv_goto (tgt := 2836) hx hb dL_law_403 (by decide) ?_
      refine W.widen (k := cc0 + 40) (n := ss0 + 3000) (by omega) (by omega) ?_
      exact kk G11 _ _ _ hw hP hD hS (lv_sub hl [2, 3, 4, 5, 6, 7] rfl)
    · replace hw := ite_t hw c14
      refine lv_aload_n hx hb dL_law_391 rfl (lv_at hl 5 rfl) ?_
      refine lv_iconst (v := 0) hx hb dL_law_392 (by decide) ?_
      obtain ⟨y15, hw⟩ := hw
      refine lald_14 hx hb hE hP y15 dL_law_393 ?_
      refine lv_iload hx hb dL_law_394 (lv_at hl 0 rfl) ?_
      refine lv_i2l hx hb dL_law_396 rfl ?_
      refine W.lcmp hx hb dL_law_397 ?_
      refine lv_if_eq (tgt := 403) hx hb dL_law_398 (by decide) (fun c16 => ?_) (fun c16 => ?_)
      · replace hw := ite_t hw c16
        refine lv_goto (tgt := 2836) hx hb dL_law_403 (by decide) ?_
        refine W.widen (k := cc0 + 40) (n := ss0 + 3000) (by omega) (by omega) ?_
        exact kk G11 _ _ _ hw hP hD hS (lv_sub hl [2, 3, 4, 5, 6, 7] rfl)
      · replace hw := ite_f hw c16
        exact hw.elim
  · replace hw := ite_f hw c13
    exact hw.elim
def wpL_law_2 (K : GS → Prop) (L : Nat) (xs : Nat → Int32) (v5 : Int32) (G : GS) : Prop :=
  vp_in (v5 + 1) L ∧
  vp_in (v5 + 2) L ∧
  vp_in (v5 + 3) L ∧
  wpL_withdraw (fun (r5 : Int32) (G4 : GS) =>
  vp_in (v5 + 1) L ∧
    vp_in (v5 + 2) L ∧
    vp_in (v5 + 3) L ∧
    wpX9_withdraw (fun (r10 : Int32) (G9 : GS) =>
    wpX9_thrown (fun (r12 : Int32) (G11 : GS) =>
      if r12 = r5 then
        if r5 = 0 then
          vp_in 0 1 ∧
            if (lg_cmp (G11.2.2.1 (0 : Int32).toNatClampNeg) r10.toInt64) = 0 then
            K G11
          else
            False
        else
          K G11
      else
        False)  G9) (xs (v5 + 1).toNatClampNeg) (((xs (v5 + 2).toNatClampNeg).toUInt32 % 65536).toInt32) (xs (v5 + 3).toNatClampNeg) G4) (xs (v5 + 1).toNatClampNeg) (((xs (v5 + 2).toNatClampNeg).toUInt32 % 65536).toInt32) (xs (v5 + 3).toNatClampNeg) G
set_option maxHeartbeats 4000000 in
set_option maxRecDepth 100000 in
theorem okL_law_2 {p : Program} {e : Env} {s : State} {m : MethodId} {below : List Frame} {meth : Method} {c : Code} (l : Launch) (hfl : l.stackTraces = false) {b L : Nat} {xs : Nat → Int32} (C0 : lw_At p s m meth c b L xs) {X : Cx} (hE : Ev X s s.heap) (hz : (X.2.2.2.2) ≤ s.heap.size) (hbA : ¬ xA X b) {K : GS → Prop} {v5 : Int32} {G : GS} {H : Heap} {locs : List Loc} {ls : Array Slot} {cc0 ss0 : Nat} {Q : State → Prop} (hc9 : cc0 + 40 ≤ 603072) (hs9 : ss0 + 3000 ≤ 7211114) (hw : wpL_law_2 K L xs v5 G) (hP : va_P (xD X) vwCl (pool X G) H) (hD : va_D (xA X) (pool X G)) (hS : va_S (xA X) s.heap H locs) (hl : lv_has ls 9 [(0, .ref b), (1, .ref (xa X 165)), (2, .ref (xa X 189)), (3, .ref (xa X 197)), (4, .ref (xa X 198)), (5, .int v5)])
    (kk : ∀ (G : GS) (H : Heap) (locs : List Loc) (ls : Array Slot), K G → va_P (xD X) vwCl (pool X G) H → va_D (xA X) (pool X G) → va_S (xA X) s.heap H locs → lv_has ls 9 [(0, .ref b), (1, .ref (xa X 165)), (2, .ref (xa X 189)), (3, .ref (xa X 197)), (4, .ref (xa X 198)), (5, .int v5)] → W p l e room_1 s m #[Value.ref b] below meth c H locs (cc0 + 40) (ss0 + 3000) Q (F0 m 2836 ls [])) : W p l e room_1 s m #[Value.ref b] below meth c H locs cc0 ss0 Q (F0 m 406 ls []) := by
  obtain ⟨hx, hb, hr, hml, hown, hts, hX, hbl, hlocks, hgv⟩ := id C0
  unfold wpL_law_2 at hw
  refine lv_aload_n hx hb dL_law_406 rfl (lv_at hl 1 rfl) ?_
  refine lv_aload_n hx hb dL_law_407 rfl (lv_at hl 0 rfl) ?_
  refine lv_iload hx hb dL_law_408 (lv_at hl 5 rfl) ?_
  refine lv_iconst (v := 1) hx hb dL_law_410 (by decide) ?_
  refine lv_iadd hx hb dL_law_411 ?_
  obtain ⟨y1, hw⟩ := hw
  refine va_sld hx hb hX hbl hbA hS y1 dL_law_412 ?_
  refine lv_aload_n hx hb dL_law_413 rfl (lv_at hl 0 rfl) ?_
  refine lv_iload hx hb dL_law_414 (lv_at hl 5 rfl) ?_
  refine lv_iconst (v := 2) hx hb dL_law_416 (by decide) ?_
  refine lv_iadd hx hb dL_law_417 ?_
  obtain ⟨y2, hw⟩ := hw
  refine va_sld hx hb hX hbl hbA hS y2 dL_law_418 ?_
  refine lv_i2c hx hb dL_law_419 rfl ?_
  refine lv_aload_n hx hb dL_law_420 rfl (lv_at hl 0 rfl) ?_
  refine lv_iload hx hb dL_law_421 (lv_at hl 5 rfl) ?_
  refine lv_iconst (v := 3) hx hb dL_law_423 (by decide) ?_
  refine lv_iadd hx hb dL_law_424 ?_
  obtain ⟨y3, hw⟩ := hw
  refine va_sld hx hb hX hbl hbA hS y3 dL_law_425 ?_
  refine lv_aload_n hx hb dL_law_426 rfl (lv_at hl 3 rfl) ?_
  refine call_i (run_SW (cc := cL_law) (As := [.ref (xa X 165), .int (xs (v5 + 1).toNatClampNeg), .int (((xs (v5 + 2).toNatClampNeg).toUInt32 % 65536).toInt32), .int (xs (v5 + 3).toNatClampNeg), .ref (xa X 197)]) (rest := []) hx hb hml hown hE hz (okL_withdraw X l hfl  hw) qw_1013 qw_1014 qw_73 qw_1015 (myL_withdraw).2 ⟨Nat.le_of_ble_eq_true rfl, Nat.le_of_ble_eq_true rfl⟩ hP hD hS rfl hl.1 rfl (Nat.le_of_ble_eq_true rfl) dL_law_427 ⟨(by show _ ≤ 603072; omega), (by show _ ≤ 7211114; omega)⟩) hS (fun r5 G4 H locs hw hP hD hS => ?_)
  refine lv_istore (lv' := [(6, .int r5), (0, .ref b), (1, .ref (xa X 165)), (2, .ref (xa X 189)), (3, .ref (xa X 197)), (4, .ref (xa X 198)), (5, .int v5)]) hx hb dL_law_430 hl (by decide) rfl (fun ls hl => ?_)
  refine lv_aload_n hx hb dL_law_432 rfl (lv_at hl 3 rfl) ?_
  refine lv_aload_n hx hb dL_law_433 rfl (lv_at hl 1 rfl) ?_
  refine lv_iload hx hb dL_law_434 (lv_at hl 6 rfl) ?_
  refine lv_iconst (v := 1) hx hb dL_law_436 (by decide) ?_
  refine lv_iadd hx hb dL_law_437 ?_
  obtain ⟨y6, hw⟩ := hw
  refine va_sld hx hb hX hbl hbA hS y6 dL_law_438 ?_
  refine lv_aload_n hx hb dL_law_439 rfl (lv_at hl 1 rfl) ?_
  refine lv_iload hx hb dL_law_440 (lv_at hl 6 rfl) ?_
  refine lv_iconst (v := 2) hx hb dL_law_442 (by decide) ?_
  refine lv_iadd hx hb dL_law_443 ?_
  obtain ⟨y7, hw⟩ := hw
  refine va_sld hx hb hX hbl hbA hS y7 dL_law_444 ?_
  refine lv_i2c hx hb dL_law_445 rfl ?_
  refine lv_aload_n hx hb dL_law_446 rfl (lv_at hl 1 rfl) ?_
  refine lv_iload hx hb dL_law_447 (lv_at hl 6 rfl) ?_
  refine lv_iconst (v := 3) hx hb dL_law_449 (by decide) ?_
  refine lv_iadd hx hb dL_law_450 ?_
  obtain ⟨y8, hw⟩ := hw
  refine va_sld hx hb hX hbl hbA hS y8 dL_law_451 ?_
  refine call_i (run_V (cc := cL_law) (As := [.int (xs (v5 + 1).toNatClampNeg), .int (((xs (v5 + 2).toNatClampNeg).toUInt32 % 65536).toInt32), .int (xs (v5 + 3).toNatClampNeg)]) (rest := []) hx hb hml hown hE hz (okX9_withdraw X l hfl  hw) qw_1687 qw_1688 qw_1689 qw_86 qw_1690 (myX9_withdraw) ⟨Nat.le_of_ble_eq_true rfl, Nat.le_of_ble_eq_true rfl⟩ (rv_X9 hE hP rfl) hP hD hS rfl hl.1 rfl (Nat.le_of_ble_eq_true rfl) dL_law_452 ⟨(by show _ ≤ 603072; omega), (by show _ ≤ 7211114; omega)⟩) hS (fun r10 G9 H locs hw hP hD hS => ?_)
  refine lv_istore (lv' := [(7, .int r10), (6, .int r5), (0, .ref b), (1, .ref (xa X 165)), (2, .ref (xa X 189)), (3, .ref (xa X 197)), (4, .ref (xa X 198)), (5, .int v5)]) hx hb dL_law_455 hl (by decide) rfl (fun ls hl => ?_)
  refine lv_aload_n hx hb dL_law_457 rfl (lv_at hl 4 rfl) ?_
  refine call_i (run_V (cc := cL_law) (As := []) (rest := []) hx hb hml hown hE hz (okX9_thrown X l hfl  hw) qw_1560 qw_1561 qw_1562 qw_86 qw_1563 (myX9_thrown) ⟨Nat.le_of_ble_eq_true rfl, Nat.le_of_ble_eq_true rfl⟩ (rv_X9 hE hP rfl) hP hD hS rfl hl.1 rfl (Nat.le_of_ble_eq_true rfl) dL_law_458 ⟨(by show _ ≤ 603072; omega), (by show _ ≤ 7211114; omega)⟩) hS (fun r12 G11 H locs hw hP hD hS => ?_)
  refine lv_iload hx hb dL_law_461 (lv_at hl 1 rfl) ?_
  refine lv_icmp_eq (tgt := 468) hx hb dL_law_463 (by decide) (fun c13 => ?_) (fun c13 => ?_)
  · replace hw := ite_t hw c13
    refine lv_iload hx hb dL_law_468 (lv_at hl 1 rfl) ?_
    refine lv_if_ne (tgt := 485) hx hb dL_law_470 (by decide) (fun c14 => ?_) (fun c14 => ?_)
    · replace hw := ite_f hw c14
      refine lv_goto (tgt := 2836) hx hb dL_law_485 (by decide) ?_
      refine W.widen (k := cc0 + 40) (n := ss0 + 3000) (by omega) (by omega) ?_
      exact kk G11 _ _ _ hw hP hD hS (lv_sub hl [2, 3, 4, 5, 6, 7] rfl)
    · replace hw := ite_t hw c14
      refine lv_aload_n hx hb dL_law_473 rfl (lv_at hl 5 rfl) ?_
      refine lv_iconst (v := 0) hx hb dL_law_474 (by decide) ?_
      obtain ⟨y15, hw⟩ := hw
      refine lald_14 hx hb hE hP y15 dL_law_475 ?_
      refine lv_iload hx hb dL_law_476 (lv_at hl 0 rfl) ?_
      refine lv_i2l hx hb dL_law_478 rfl ?_
      refine W.lcmp hx hb dL_law_479 ?_
      refine lv_if_eq (tgt := 485) hx hb dL_law_480 (by decide) (fun c16 => ?_) (fun c16 => ?_)
      · replace hw := ite_t hw c16
        refine lv_goto (tgt := 2836) hx hb dL_law_485 (by decide) ?_
        refine W.widen (k := cc0 + 40) (n := ss0 + 3000) (by omega) (by omega) ?_
        exact kk G11 _ _ _ hw hP hD hS (lv_sub hl [2, 3, 4, 5, 6, 7] rfl)
      · replace hw := ite_f hw c16
        exact hw.elim
  · replace hw := ite_f hw c13
    exact hw.elim
def wpL_law_3 (K : GS → Prop) (L : Nat) (xs : Nat → Int32) (v5 : Int32) (G : GS) : Prop :=
  vp_in (v5 + 1) L ∧
  vp_in (v5 + 2) L ∧
  vp_in (v5 + 3) L ∧
  vp_in (v5 + 4) L ∧
  wpL_exchange (fun (r6 : Int32) (G5 : GS) =>
  vp_in (v5 + 1) L ∧
    vp_in (v5 + 2) L ∧
    vp_in (v5 + 3) L ∧
    vp_in (v5 + 4) L ∧
    wpX9_exchange (fun (r12 : Int32) (G11 : GS) =>
    wpX9_thrown (fun (r14 : Int32) (G13 : GS) =>
      if r14 = r6 then
        if r6 = 0 then
          vp_in 0 1 ∧
            if (lg_cmp (G13.2.2.1 (0 : Int32).toNatClampNeg) r12.toInt64) = 0 then
            K G13
          else
            False
        else
          K G13
      else
        False)  G11) (xs (v5 + 1).toNatClampNeg) (((xs (v5 + 2).toNatClampNeg).toUInt32 % 65536).toInt32) (((xs (v5 + 3).toNatClampNeg).toUInt32 % 65536).toInt32) (xs (v5 + 4).toNatClampNeg) G5) (xs (v5 + 1).toNatClampNeg) (((xs (v5 + 2).toNatClampNeg).toUInt32 % 65536).toInt32) (((xs (v5 + 3).toNatClampNeg).toUInt32 % 65536).toInt32) (xs (v5 + 4).toNatClampNeg) G
set_option maxHeartbeats 4000000 in
set_option maxRecDepth 100000 in
theorem okL_law_3 {p : Program} {e : Env} {s : State} {m : MethodId} {below : List Frame} {meth : Method} {c : Code} (l : Launch) (hfl : l.stackTraces = false) {b L : Nat} {xs : Nat → Int32} (C0 : lw_At p s m meth c b L xs) {X : Cx} (hE : Ev X s s.heap) (hz : (X.2.2.2.2) ≤ s.heap.size) (hbA : ¬ xA X b) {K : GS → Prop} {v5 : Int32} {G : GS} {H : Heap} {locs : List Loc} {ls : Array Slot} {cc0 ss0 : Nat} {Q : State → Prop} (hc9 : cc0 + 40 ≤ 603072) (hs9 : ss0 + 3000 ≤ 7211114) (hw : wpL_law_3 K L xs v5 G) (hP : va_P (xD X) vwCl (pool X G) H) (hD : va_D (xA X) (pool X G)) (hS : va_S (xA X) s.heap H locs) (hl : lv_has ls 9 [(0, .ref b), (1, .ref (xa X 165)), (2, .ref (xa X 189)), (3, .ref (xa X 197)), (4, .ref (xa X 198)), (5, .int v5)])
    (kk : ∀ (G : GS) (H : Heap) (locs : List Loc) (ls : Array Slot), K G → va_P (xD X) vwCl (pool X G) H → va_D (xA X) (pool X G) → va_S (xA X) s.heap H locs → lv_has ls 9 [(0, .ref b), (1, .ref (xa X 165)), (2, .ref (xa X 189)), (3, .ref (xa X 197)), (4, .ref (xa X 198)), (5, .int v5)] → W p l e room_1 s m #[Value.ref b] below meth c H locs (cc0 + 40) (ss0 + 3000) Q (F0 m 2836 ls [])) : W p l e room_1 s m #[Value.ref b] below meth c H locs cc0 ss0 Q (F0 m 488 ls []) := by
  obtain ⟨hx, hb, hr, hml, hown, hts, hX, hbl, hlocks, hgv⟩ := id C0
  unfold wpL_law_3 at hw
  refine lv_aload_n hx hb dL_law_488 rfl (lv_at hl 1 rfl) ?_
  refine lv_aload_n hx hb dL_law_489 rfl (lv_at hl 0 rfl) ?_
  refine lv_iload hx hb dL_law_490 (lv_at hl 5 rfl) ?_
  refine lv_iconst (v := 1) hx hb dL_law_492 (by decide) ?_
  refine lv_iadd hx hb dL_law_493 ?_
  obtain ⟨y1, hw⟩ := hw
  refine va_sld hx hb hX hbl hbA hS y1 dL_law_494 ?_
  refine lv_aload_n hx hb dL_law_495 rfl (lv_at hl 0 rfl) ?_
  refine lv_iload hx hb dL_law_496 (lv_at hl 5 rfl) ?_
  refine lv_iconst (v := 2) hx hb dL_law_498 (by decide) ?_
  refine lv_iadd hx hb dL_law_499 ?_
  obtain ⟨y2, hw⟩ := hw
  refine va_sld hx hb hX hbl hbA hS y2 dL_law_500 ?_
  refine lv_i2c hx hb dL_law_501 rfl ?_
  refine lv_aload_n hx hb dL_law_502 rfl (lv_at hl 0 rfl) ?_
  refine lv_iload hx hb dL_law_503 (lv_at hl 5 rfl) ?_
  refine lv_iconst (v := 3) hx hb dL_law_505 (by decide) ?_
  refine lv_iadd hx hb dL_law_506 ?_
  obtain ⟨y3, hw⟩ := hw
  refine va_sld hx hb hX hbl hbA hS y3 dL_law_507 ?_
  refine lv_i2c hx hb dL_law_508 rfl ?_
  refine lv_aload_n hx hb dL_law_509 rfl (lv_at hl 0 rfl) ?_
  refine lv_iload hx hb dL_law_510 (lv_at hl 5 rfl) ?_
  refine lv_iconst (v := 4) hx hb dL_law_512 (by decide) ?_
  refine lv_iadd hx hb dL_law_513 ?_
  obtain ⟨y4, hw⟩ := hw
  refine va_sld hx hb hX hbl hbA hS y4 dL_law_514 ?_
  refine lv_aload_n hx hb dL_law_515 rfl (lv_at hl 3 rfl) ?_
  refine call_i (run_SW (cc := cL_law) (As := [.ref (xa X 165), .int (xs (v5 + 1).toNatClampNeg), .int (((xs (v5 + 2).toNatClampNeg).toUInt32 % 65536).toInt32), .int (((xs (v5 + 3).toNatClampNeg).toUInt32 % 65536).toInt32), .int (xs (v5 + 4).toNatClampNeg), .ref (xa X 197)]) (rest := []) hx hb hml hown hE hz (okL_exchange X l hfl  hw) qw_1036 qw_1037 qw_73 qw_1038 (myL_exchange).2 ⟨Nat.le_of_ble_eq_true rfl, Nat.le_of_ble_eq_true rfl⟩ hP hD hS rfl hl.1 rfl (Nat.le_of_ble_eq_true rfl) dL_law_516 ⟨(by show _ ≤ 603072; omega), (by show _ ≤ 7211114; omega)⟩) hS (fun r6 G5 H locs hw hP hD hS => ?_)
  refine lv_istore (lv' := [(6, .int r6), (0, .ref b), (1, .ref (xa X 165)), (2, .ref (xa X 189)), (3, .ref (xa X 197)), (4, .ref (xa X 198)), (5, .int v5)]) hx hb dL_law_519 hl (by decide) rfl (fun ls hl => ?_)
  refine lv_aload_n hx hb dL_law_521 rfl (lv_at hl 3 rfl) ?_
  refine lv_aload_n hx hb dL_law_522 rfl (lv_at hl 1 rfl) ?_
  refine lv_iload hx hb dL_law_523 (lv_at hl 6 rfl) ?_
  refine lv_iconst (v := 1) hx hb dL_law_525 (by decide) ?_
  refine lv_iadd hx hb dL_law_526 ?_
  obtain ⟨y7, hw⟩ := hw
  refine va_sld hx hb hX hbl hbA hS y7 dL_law_527 ?_
  refine lv_aload_n hx hb dL_law_528 rfl (lv_at hl 1 rfl) ?_
  refine lv_iload hx hb dL_law_529 (lv_at hl 6 rfl) ?_
  refine lv_iconst (v := 2) hx hb dL_law_531 (by decide) ?_
  refine lv_iadd hx hb dL_law_532 ?_
  obtain ⟨y8, hw⟩ := hw
  refine va_sld hx hb hX hbl hbA hS y8 dL_law_533 ?_
  refine lv_i2c hx hb dL_law_534 rfl ?_
  refine lv_aload_n hx hb dL_law_535 rfl (lv_at hl 1 rfl) ?_
  refine lv_iload hx hb dL_law_536 (lv_at hl 6 rfl) ?_
  refine lv_iconst (v := 3) hx hb dL_law_538 (by decide) ?_
  refine lv_iadd hx hb dL_law_539 ?_
  obtain ⟨y9, hw⟩ := hw
  refine va_sld hx hb hX hbl hbA hS y9 dL_law_540 ?_
  refine lv_i2c hx hb dL_law_541 rfl ?_
  refine lv_aload_n hx hb dL_law_542 rfl (lv_at hl 1 rfl) ?_
  refine lv_iload hx hb dL_law_543 (lv_at hl 6 rfl) ?_
  refine lv_iconst (v := 4) hx hb dL_law_545 (by decide) ?_
  refine lv_iadd hx hb dL_law_546 ?_
  obtain ⟨y10, hw⟩ := hw
  refine va_sld hx hb hX hbl hbA hS y10 dL_law_547 ?_
  refine call_i (run_V (cc := cL_law) (As := [.int (xs (v5 + 1).toNatClampNeg), .int (((xs (v5 + 2).toNatClampNeg).toUInt32 % 65536).toInt32), .int (((xs (v5 + 3).toNatClampNeg).toUInt32 % 65536).toInt32), .int (xs (v5 + 4).toNatClampNeg)]) (rest := []) hx hb hml hown hE hz (okX9_exchange X l hfl  hw) qw_1715 qw_1716 qw_1717 qw_86 qw_1718 (myX9_exchange) ⟨Nat.le_of_ble_eq_true rfl, Nat.le_of_ble_eq_true rfl⟩ (rv_X9 hE hP rfl) hP hD hS rfl hl.1 rfl (Nat.le_of_ble_eq_true rfl) dL_law_548 ⟨(by show _ ≤ 603072; omega), (by show _ ≤ 7211114; omega)⟩) hS (fun r12 G11 H locs hw hP hD hS => ?_)
  refine lv_istore (lv' := [(7, .int r12), (6, .int r6), (0, .ref b), (1, .ref (xa X 165)), (2, .ref (xa X 189)), (3, .ref (xa X 197)), (4, .ref (xa X 198)), (5, .int v5)]) hx hb dL_law_551 hl (by decide) rfl (fun ls hl => ?_)
  refine lv_aload_n hx hb dL_law_553 rfl (lv_at hl 4 rfl) ?_
  refine call_i (run_V (cc := cL_law) (As := []) (rest := []) hx hb hml hown hE hz (okX9_thrown X l hfl  hw) qw_1560 qw_1561 qw_1562 qw_86 qw_1563 (myX9_thrown) ⟨Nat.le_of_ble_eq_true rfl, Nat.le_of_ble_eq_true rfl⟩ (rv_X9 hE hP rfl) hP hD hS rfl hl.1 rfl (Nat.le_of_ble_eq_true rfl) dL_law_554 ⟨(by show _ ≤ 603072; omega), (by show _ ≤ 7211114; omega)⟩) hS (fun r14 G13 H locs hw hP hD hS => ?_)
  refine lv_iload hx hb dL_law_557 (lv_at hl 1 rfl) ?_
  refine lv_icmp_eq (tgt := 564) hx hb dL_law_559 (by decide) (fun c15 => ?_) (fun c15 => ?_)
  · replace hw := ite_t hw c15
    refine lv_iload hx hb dL_law_564 (lv_at hl 1 rfl) ?_
    refine lv_if_ne (tgt := 581) hx hb dL_law_566 (by decide) (fun c16 => ?_) (fun c16 => ?_)
    · replace hw := ite_f hw c16
      refine lv_goto (tgt := 2836) hx hb dL_law_581 (by decide) ?_
      refine W.widen (k := cc0 + 40) (n := ss0 + 3000) (by omega) (by omega) ?_
      exact kk G13 _ _ _ hw hP hD hS (lv_sub hl [2, 3, 4, 5, 6, 7] rfl)
    · replace hw := ite_t hw c16
      refine lv_aload_n hx hb dL_law_569 rfl (lv_at hl 5 rfl) ?_
      refine lv_iconst (v := 0) hx hb dL_law_570 (by decide) ?_
      obtain ⟨y17, hw⟩ := hw
      refine lald_14 hx hb hE hP y17 dL_law_571 ?_
      refine lv_iload hx hb dL_law_572 (lv_at hl 0 rfl) ?_
      refine lv_i2l hx hb dL_law_574 rfl ?_
      refine W.lcmp hx hb dL_law_575 ?_
      refine lv_if_eq (tgt := 581) hx hb dL_law_576 (by decide) (fun c18 => ?_) (fun c18 => ?_)
      · replace hw := ite_t hw c18
        refine lv_goto (tgt := 2836) hx hb dL_law_581 (by decide) ?_
        refine W.widen (k := cc0 + 40) (n := ss0 + 3000) (by omega) (by omega) ?_
        exact kk G13 _ _ _ hw hP hD hS (lv_sub hl [2, 3, 4, 5, 6, 7] rfl)
      · replace hw := ite_f hw c18
        exact hw.elim
  · replace hw := ite_f hw c15
    exact hw.elim
def wpL_law_4 (K : GS → Prop) (L : Nat) (xs : Nat → Int32) (v5 : Int32) (G : GS) : Prop :=
  vp_in (v5 + 1) L ∧
  vp_in (v5 + 2) L ∧
  wpL_mint (fun (r4 : Int32) (G3 : GS) =>
  vp_in (v5 + 1) L ∧
    vp_in (v5 + 2) L ∧
    wpX9_mint (fun (r8 : Int32) (G7 : GS) =>
    wpX9_thrown (fun (r10 : Int32) (G9 : GS) =>
      if r10 = r4 then
        if r4 = 0 then
          vp_in 0 1 ∧
            if (lg_cmp (G9.2.2.1 (0 : Int32).toNatClampNeg) r8.toInt64) = 0 then
            K G9
          else
            False
        else
          K G9
      else
        False)  G7) (xs (v5 + 1).toNatClampNeg) (xs (v5 + 2).toNatClampNeg) G3) (xs (v5 + 1).toNatClampNeg) (xs (v5 + 2).toNatClampNeg) G
set_option maxHeartbeats 4000000 in
set_option maxRecDepth 100000 in
theorem okL_law_4 {p : Program} {e : Env} {s : State} {m : MethodId} {below : List Frame} {meth : Method} {c : Code} (l : Launch) (hfl : l.stackTraces = false) {b L : Nat} {xs : Nat → Int32} (C0 : lw_At p s m meth c b L xs) {X : Cx} (hE : Ev X s s.heap) (hz : (X.2.2.2.2) ≤ s.heap.size) (hbA : ¬ xA X b) {K : GS → Prop} {v5 : Int32} {G : GS} {H : Heap} {locs : List Loc} {ls : Array Slot} {cc0 ss0 : Nat} {Q : State → Prop} (hc9 : cc0 + 40 ≤ 603072) (hs9 : ss0 + 3000 ≤ 7211114) (hw : wpL_law_4 K L xs v5 G) (hP : va_P (xD X) vwCl (pool X G) H) (hD : va_D (xA X) (pool X G)) (hS : va_S (xA X) s.heap H locs) (hl : lv_has ls 9 [(0, .ref b), (1, .ref (xa X 165)), (2, .ref (xa X 189)), (3, .ref (xa X 197)), (4, .ref (xa X 198)), (5, .int v5)])
    (kk : ∀ (G : GS) (H : Heap) (locs : List Loc) (ls : Array Slot), K G → va_P (xD X) vwCl (pool X G) H → va_D (xA X) (pool X G) → va_S (xA X) s.heap H locs → lv_has ls 9 [(0, .ref b), (1, .ref (xa X 165)), (2, .ref (xa X 189)), (3, .ref (xa X 197)), (4, .ref (xa X 198)), (5, .int v5)] → W p l e room_1 s m #[Value.ref b] below meth c H locs (cc0 + 40) (ss0 + 3000) Q (F0 m 2836 ls [])) : W p l e room_1 s m #[Value.ref b] below meth c H locs cc0 ss0 Q (F0 m 584 ls []) := by
  obtain ⟨hx, hb, hr, hml, hown, hts, hX, hbl, hlocks, hgv⟩ := id C0
  unfold wpL_law_4 at hw
  refine lv_aload_n hx hb dL_law_584 rfl (lv_at hl 1 rfl) ?_
  refine lv_aload_n hx hb dL_law_585 rfl (lv_at hl 0 rfl) ?_
  refine lv_iload hx hb dL_law_586 (lv_at hl 5 rfl) ?_
  refine lv_iconst (v := 1) hx hb dL_law_588 (by decide) ?_
  refine lv_iadd hx hb dL_law_589 ?_
  obtain ⟨y1, hw⟩ := hw
  refine va_sld hx hb hX hbl hbA hS y1 dL_law_590 ?_
  refine lv_aload_n hx hb dL_law_591 rfl (lv_at hl 0 rfl) ?_
  refine lv_iload hx hb dL_law_592 (lv_at hl 5 rfl) ?_
  refine lv_iconst (v := 2) hx hb dL_law_594 (by decide) ?_
  refine lv_iadd hx hb dL_law_595 ?_
  obtain ⟨y2, hw⟩ := hw
  refine va_sld hx hb hX hbl hbA hS y2 dL_law_596 ?_
  refine lv_aload_n hx hb dL_law_597 rfl (lv_at hl 3 rfl) ?_
  refine call_i (run_SW (cc := cL_law) (As := [.ref (xa X 165), .int (xs (v5 + 1).toNatClampNeg), .int (xs (v5 + 2).toNatClampNeg), .ref (xa X 197)]) (rest := []) hx hb hml hown hE hz (okL_mint X l hfl  hw) qw_1054 qw_1055 qw_73 qw_1056 (myL_mint).2 ⟨Nat.le_of_ble_eq_true rfl, Nat.le_of_ble_eq_true rfl⟩ hP hD hS rfl hl.1 rfl (Nat.le_of_ble_eq_true rfl) dL_law_598 ⟨(by show _ ≤ 603072; omega), (by show _ ≤ 7211114; omega)⟩) hS (fun r4 G3 H locs hw hP hD hS => ?_)
  refine lv_istore (lv' := [(6, .int r4), (0, .ref b), (1, .ref (xa X 165)), (2, .ref (xa X 189)), (3, .ref (xa X 197)), (4, .ref (xa X 198)), (5, .int v5)]) hx hb dL_law_601 hl (by decide) rfl (fun ls hl => ?_)
  refine lv_aload_n hx hb dL_law_603 rfl (lv_at hl 3 rfl) ?_
  refine lv_aload_n hx hb dL_law_604 rfl (lv_at hl 1 rfl) ?_
  refine lv_iload hx hb dL_law_605 (lv_at hl 6 rfl) ?_
  refine lv_iconst (v := 1) hx hb dL_law_607 (by decide) ?_
  refine lv_iadd hx hb dL_law_608 ?_
  obtain ⟨y5, hw⟩ := hw
  refine va_sld hx hb hX hbl hbA hS y5 dL_law_609 ?_
  refine lv_aload_n hx hb dL_law_610 rfl (lv_at hl 1 rfl) ?_
  refine lv_iload hx hb dL_law_611 (lv_at hl 6 rfl) ?_
  refine lv_iconst (v := 2) hx hb dL_law_613 (by decide) ?_
  refine lv_iadd hx hb dL_law_614 ?_
  obtain ⟨y6, hw⟩ := hw
  refine va_sld hx hb hX hbl hbA hS y6 dL_law_615 ?_
  refine call_i (run_V (cc := cL_law) (As := [.int (xs (v5 + 1).toNatClampNeg), .int (xs (v5 + 2).toNatClampNeg)]) (rest := []) hx hb hml hown hE hz (okX9_mint X l hfl  hw) qw_1731 qw_1732 qw_1733 qw_86 qw_1734 (myX9_mint) ⟨Nat.le_of_ble_eq_true rfl, Nat.le_of_ble_eq_true rfl⟩ (rv_X9 hE hP rfl) hP hD hS rfl hl.1 rfl (Nat.le_of_ble_eq_true rfl) dL_law_616 ⟨(by show _ ≤ 603072; omega), (by show _ ≤ 7211114; omega)⟩) hS (fun r8 G7 H locs hw hP hD hS => ?_)
  refine lv_istore (lv' := [(7, .int r8), (6, .int r4), (0, .ref b), (1, .ref (xa X 165)), (2, .ref (xa X 189)), (3, .ref (xa X 197)), (4, .ref (xa X 198)), (5, .int v5)]) hx hb dL_law_619 hl (by decide) rfl (fun ls hl => ?_)
  refine lv_aload_n hx hb dL_law_621 rfl (lv_at hl 4 rfl) ?_
  refine call_i (run_V (cc := cL_law) (As := []) (rest := []) hx hb hml hown hE hz (okX9_thrown X l hfl  hw) qw_1560 qw_1561 qw_1562 qw_86 qw_1563 (myX9_thrown) ⟨Nat.le_of_ble_eq_true rfl, Nat.le_of_ble_eq_true rfl⟩ (rv_X9 hE hP rfl) hP hD hS rfl hl.1 rfl (Nat.le_of_ble_eq_true rfl) dL_law_622 ⟨(by show _ ≤ 603072; omega), (by show _ ≤ 7211114; omega)⟩) hS (fun r10 G9 H locs hw hP hD hS => ?_)
  refine lv_iload hx hb dL_law_625 (lv_at hl 1 rfl) ?_
  refine lv_icmp_eq (tgt := 632) hx hb dL_law_627 (by decide) (fun c11 => ?_) (fun c11 => ?_)
  · replace hw := ite_t hw c11
    refine lv_iload hx hb dL_law_632 (lv_at hl 1 rfl) ?_
    refine lv_if_ne (tgt := 649) hx hb dL_law_634 (by decide) (fun c12 => ?_) (fun c12 => ?_)
    · replace hw := ite_f hw c12
      refine lv_goto (tgt := 2836) hx hb dL_law_649 (by decide) ?_
      refine W.widen (k := cc0 + 40) (n := ss0 + 3000) (by omega) (by omega) ?_
      exact kk G9 _ _ _ hw hP hD hS (lv_sub hl [2, 3, 4, 5, 6, 7] rfl)
    · replace hw := ite_t hw c12
      refine lv_aload_n hx hb dL_law_637 rfl (lv_at hl 5 rfl) ?_
      refine lv_iconst (v := 0) hx hb dL_law_638 (by decide) ?_
      obtain ⟨y13, hw⟩ := hw
      refine lald_14 hx hb hE hP y13 dL_law_639 ?_
      refine lv_iload hx hb dL_law_640 (lv_at hl 0 rfl) ?_
      refine lv_i2l hx hb dL_law_642 rfl ?_
      refine W.lcmp hx hb dL_law_643 ?_
      refine lv_if_eq (tgt := 649) hx hb dL_law_644 (by decide) (fun c14 => ?_) (fun c14 => ?_)
      · replace hw := ite_t hw c14
        refine lv_goto (tgt := 2836) hx hb dL_law_649 (by decide) ?_
        refine W.widen (k := cc0 + 40) (n := ss0 + 3000) (by omega) (by omega) ?_
        exact kk G9 _ _ _ hw hP hD hS (lv_sub hl [2, 3, 4, 5, 6, 7] rfl)
      · replace hw := ite_f hw c14
        exact hw.elim
  · replace hw := ite_f hw c11
    exact hw.elim
def wpL_law_5 (K : GS → Prop) (L : Nat) (xs : Nat → Int32) (v5 : Int32) (G : GS) : Prop :=
  vp_in (v5 + 1) L ∧
  vp_in (v5 + 2) L ∧
  wpL_redeem (fun (r4 : Int32) (G3 : GS) =>
  vp_in (v5 + 1) L ∧
    vp_in (v5 + 2) L ∧
    wpX9_redeem (fun (r8 : Int32) (G7 : GS) =>
    wpX9_thrown (fun (r10 : Int32) (G9 : GS) =>
      if r10 = r4 then
        if r4 = 0 then
          vp_in 0 1 ∧
            if (lg_cmp (G9.2.2.1 (0 : Int32).toNatClampNeg) r8.toInt64) = 0 then
            K G9
          else
            False
        else
          K G9
      else
        False)  G7) (xs (v5 + 1).toNatClampNeg) (xs (v5 + 2).toNatClampNeg) G3) (xs (v5 + 1).toNatClampNeg) (xs (v5 + 2).toNatClampNeg) G
set_option maxHeartbeats 4000000 in
set_option maxRecDepth 100000 in
theorem okL_law_5 {p : Program} {e : Env} {s : State} {m : MethodId} {below : List Frame} {meth : Method} {c : Code} (l : Launch) (hfl : l.stackTraces = false) {b L : Nat} {xs : Nat → Int32} (C0 : lw_At p s m meth c b L xs) {X : Cx} (hE : Ev X s s.heap) (hz : (X.2.2.2.2) ≤ s.heap.size) (hbA : ¬ xA X b) {K : GS → Prop} {v5 : Int32} {G : GS} {H : Heap} {locs : List Loc} {ls : Array Slot} {cc0 ss0 : Nat} {Q : State → Prop} (hc9 : cc0 + 40 ≤ 603072) (hs9 : ss0 + 3000 ≤ 7211114) (hw : wpL_law_5 K L xs v5 G) (hP : va_P (xD X) vwCl (pool X G) H) (hD : va_D (xA X) (pool X G)) (hS : va_S (xA X) s.heap H locs) (hl : lv_has ls 9 [(0, .ref b), (1, .ref (xa X 165)), (2, .ref (xa X 189)), (3, .ref (xa X 197)), (4, .ref (xa X 198)), (5, .int v5)])
    (kk : ∀ (G : GS) (H : Heap) (locs : List Loc) (ls : Array Slot), K G → va_P (xD X) vwCl (pool X G) H → va_D (xA X) (pool X G) → va_S (xA X) s.heap H locs → lv_has ls 9 [(0, .ref b), (1, .ref (xa X 165)), (2, .ref (xa X 189)), (3, .ref (xa X 197)), (4, .ref (xa X 198)), (5, .int v5)] → W p l e room_1 s m #[Value.ref b] below meth c H locs (cc0 + 40) (ss0 + 3000) Q (F0 m 2836 ls [])) : W p l e room_1 s m #[Value.ref b] below meth c H locs cc0 ss0 Q (F0 m 652 ls []) := by
  obtain ⟨hx, hb, hr, hml, hown, hts, hX, hbl, hlocks, hgv⟩ := id C0
  unfold wpL_law_5 at hw
  refine lv_aload_n hx hb dL_law_652 rfl (lv_at hl 1 rfl) ?_
  refine lv_aload_n hx hb dL_law_653 rfl (lv_at hl 0 rfl) ?_
  refine lv_iload hx hb dL_law_654 (lv_at hl 5 rfl) ?_
  refine lv_iconst (v := 1) hx hb dL_law_656 (by decide) ?_
  refine lv_iadd hx hb dL_law_657 ?_
  obtain ⟨y1, hw⟩ := hw
  refine va_sld hx hb hX hbl hbA hS y1 dL_law_658 ?_
  refine lv_aload_n hx hb dL_law_659 rfl (lv_at hl 0 rfl) ?_
  refine lv_iload hx hb dL_law_660 (lv_at hl 5 rfl) ?_
  refine lv_iconst (v := 2) hx hb dL_law_662 (by decide) ?_
  refine lv_iadd hx hb dL_law_663 ?_
  obtain ⟨y2, hw⟩ := hw
  refine va_sld hx hb hX hbl hbA hS y2 dL_law_664 ?_
  refine lv_aload_n hx hb dL_law_665 rfl (lv_at hl 3 rfl) ?_
  refine call_i (run_SW (cc := cL_law) (As := [.ref (xa X 165), .int (xs (v5 + 1).toNatClampNeg), .int (xs (v5 + 2).toNatClampNeg), .ref (xa X 197)]) (rest := []) hx hb hml hown hE hz (okL_redeem X l hfl  hw) qw_1073 qw_1074 qw_73 qw_1075 (myL_redeem).2 ⟨Nat.le_of_ble_eq_true rfl, Nat.le_of_ble_eq_true rfl⟩ hP hD hS rfl hl.1 rfl (Nat.le_of_ble_eq_true rfl) dL_law_666 ⟨(by show _ ≤ 603072; omega), (by show _ ≤ 7211114; omega)⟩) hS (fun r4 G3 H locs hw hP hD hS => ?_)
  refine lv_istore (lv' := [(6, .int r4), (0, .ref b), (1, .ref (xa X 165)), (2, .ref (xa X 189)), (3, .ref (xa X 197)), (4, .ref (xa X 198)), (5, .int v5)]) hx hb dL_law_669 hl (by decide) rfl (fun ls hl => ?_)
  refine lv_aload_n hx hb dL_law_671 rfl (lv_at hl 3 rfl) ?_
  refine lv_aload_n hx hb dL_law_672 rfl (lv_at hl 1 rfl) ?_
  refine lv_iload hx hb dL_law_673 (lv_at hl 6 rfl) ?_
  refine lv_iconst (v := 1) hx hb dL_law_675 (by decide) ?_
  refine lv_iadd hx hb dL_law_676 ?_
  obtain ⟨y5, hw⟩ := hw
  refine va_sld hx hb hX hbl hbA hS y5 dL_law_677 ?_
  refine lv_aload_n hx hb dL_law_678 rfl (lv_at hl 1 rfl) ?_
  refine lv_iload hx hb dL_law_679 (lv_at hl 6 rfl) ?_
  refine lv_iconst (v := 2) hx hb dL_law_681 (by decide) ?_
  refine lv_iadd hx hb dL_law_682 ?_
  obtain ⟨y6, hw⟩ := hw
  refine va_sld hx hb hX hbl hbA hS y6 dL_law_683 ?_
  refine call_i (run_V (cc := cL_law) (As := [.int (xs (v5 + 1).toNatClampNeg), .int (xs (v5 + 2).toNatClampNeg)]) (rest := []) hx hb hml hown hE hz (okX9_redeem X l hfl  hw) qw_1743 qw_1744 qw_1745 qw_86 qw_1746 (myX9_redeem) ⟨Nat.le_of_ble_eq_true rfl, Nat.le_of_ble_eq_true rfl⟩ (rv_X9 hE hP rfl) hP hD hS rfl hl.1 rfl (Nat.le_of_ble_eq_true rfl) dL_law_684 ⟨(by show _ ≤ 603072; omega), (by show _ ≤ 7211114; omega)⟩) hS (fun r8 G7 H locs hw hP hD hS => ?_)
  refine lv_istore (lv' := [(7, .int r8), (6, .int r4), (0, .ref b), (1, .ref (xa X 165)), (2, .ref (xa X 189)), (3, .ref (xa X 197)), (4, .ref (xa X 198)), (5, .int v5)]) hx hb dL_law_687 hl (by decide) rfl (fun ls hl => ?_)
  refine lv_aload_n hx hb dL_law_689 rfl (lv_at hl 4 rfl) ?_
  refine call_i (run_V (cc := cL_law) (As := []) (rest := []) hx hb hml hown hE hz (okX9_thrown X l hfl  hw) qw_1560 qw_1561 qw_1562 qw_86 qw_1563 (myX9_thrown) ⟨Nat.le_of_ble_eq_true rfl, Nat.le_of_ble_eq_true rfl⟩ (rv_X9 hE hP rfl) hP hD hS rfl hl.1 rfl (Nat.le_of_ble_eq_true rfl) dL_law_690 ⟨(by show _ ≤ 603072; omega), (by show _ ≤ 7211114; omega)⟩) hS (fun r10 G9 H locs hw hP hD hS => ?_)
  refine lv_iload hx hb dL_law_693 (lv_at hl 1 rfl) ?_
  refine lv_icmp_eq (tgt := 700) hx hb dL_law_695 (by decide) (fun c11 => ?_) (fun c11 => ?_)
  · replace hw := ite_t hw c11
    refine lv_iload hx hb dL_law_700 (lv_at hl 1 rfl) ?_
    refine lv_if_ne (tgt := 717) hx hb dL_law_702 (by decide) (fun c12 => ?_) (fun c12 => ?_)
    · replace hw := ite_f hw c12
      refine lv_goto (tgt := 2836) hx hb dL_law_717 (by decide) ?_
      refine W.widen (k := cc0 + 40) (n := ss0 + 3000) (by omega) (by omega) ?_
      exact kk G9 _ _ _ hw hP hD hS (lv_sub hl [2, 3, 4, 5, 6, 7] rfl)
    · replace hw := ite_t hw c12
      refine lv_aload_n hx hb dL_law_705 rfl (lv_at hl 5 rfl) ?_
      refine lv_iconst (v := 0) hx hb dL_law_706 (by decide) ?_
      obtain ⟨y13, hw⟩ := hw
      refine lald_14 hx hb hE hP y13 dL_law_707 ?_
      refine lv_iload hx hb dL_law_708 (lv_at hl 0 rfl) ?_
      refine lv_i2l hx hb dL_law_710 rfl ?_
      refine W.lcmp hx hb dL_law_711 ?_
      refine lv_if_eq (tgt := 717) hx hb dL_law_712 (by decide) (fun c14 => ?_) (fun c14 => ?_)
      · replace hw := ite_t hw c14
        refine lv_goto (tgt := 2836) hx hb dL_law_717 (by decide) ?_
        refine W.widen (k := cc0 + 40) (n := ss0 + 3000) (by omega) (by omega) ?_
        exact kk G9 _ _ _ hw hP hD hS (lv_sub hl [2, 3, 4, 5, 6, 7] rfl)
      · replace hw := ite_f hw c14
        exact hw.elim
  · replace hw := ite_f hw c11
    exact hw.elim
def wpL_law_6 (K : GS → Prop) (L : Nat) (xs : Nat → Int32) (v5 : Int32) (G : GS) : Prop :=
  vp_in (v5 + 1) L ∧
  wpL_audit (fun (r3 : Int32) (G2 : GS) =>
  vp_in (v5 + 1) L ∧
    wpX9_audit (fun (r6 : Int32) (G5 : GS) =>
    wpX9_thrown (fun (r8 : Int32) (G7 : GS) =>
      if r8 = r3 then
        if r3 = 0 then
          vp_in 0 1 ∧
            if r6 = 0 then
            if (lg_cmp (G7.2.2.1 (0 : Int32).toNatClampNeg) 0) = 0 then
              K G7
            else
              False
          else
            if (lg_cmp (G7.2.2.1 (0 : Int32).toNatClampNeg) 1) = 0 then
              K G7
            else
              False
        else
          K G7
      else
        False)  G5) (xs (v5 + 1).toNatClampNeg) G2) (xs (v5 + 1).toNatClampNeg) G
set_option maxHeartbeats 4000000 in
set_option maxRecDepth 100000 in
theorem okL_law_6 {p : Program} {e : Env} {s : State} {m : MethodId} {below : List Frame} {meth : Method} {c : Code} (l : Launch) (hfl : l.stackTraces = false) {b L : Nat} {xs : Nat → Int32} (C0 : lw_At p s m meth c b L xs) {X : Cx} (hE : Ev X s s.heap) (hz : (X.2.2.2.2) ≤ s.heap.size) (hbA : ¬ xA X b) {K : GS → Prop} {v5 : Int32} {G : GS} {H : Heap} {locs : List Loc} {ls : Array Slot} {cc0 ss0 : Nat} {Q : State → Prop} (hc9 : cc0 + 40 ≤ 603072) (hs9 : ss0 + 3000 ≤ 7211114) (hw : wpL_law_6 K L xs v5 G) (hP : va_P (xD X) vwCl (pool X G) H) (hD : va_D (xA X) (pool X G)) (hS : va_S (xA X) s.heap H locs) (hl : lv_has ls 9 [(0, .ref b), (1, .ref (xa X 165)), (2, .ref (xa X 189)), (3, .ref (xa X 197)), (4, .ref (xa X 198)), (5, .int v5)])
    (kk : ∀ (G : GS) (H : Heap) (locs : List Loc) (ls : Array Slot), K G → va_P (xD X) vwCl (pool X G) H → va_D (xA X) (pool X G) → va_S (xA X) s.heap H locs → lv_has ls 9 [(0, .ref b), (1, .ref (xa X 165)), (2, .ref (xa X 189)), (3, .ref (xa X 197)), (4, .ref (xa X 198)), (5, .int v5)] → W p l e room_1 s m #[Value.ref b] below meth c H locs (cc0 + 40) (ss0 + 3000) Q (F0 m 2836 ls [])) : W p l e room_1 s m #[Value.ref b] below meth c H locs cc0 ss0 Q (F0 m 720 ls []) := by
  obtain ⟨hx, hb, hr, hml, hown, hts, hX, hbl, hlocks, hgv⟩ := id C0
  unfold wpL_law_6 at hw
  refine lv_aload_n hx hb dL_law_720 rfl (lv_at hl 1 rfl) ?_
  refine lv_aload_n hx hb dL_law_721 rfl (lv_at hl 0 rfl) ?_
  refine lv_iload hx hb dL_law_722 (lv_at hl 5 rfl) ?_
  refine lv_iconst (v := 1) hx hb dL_law_724 (by decide) ?_
  refine lv_iadd hx hb dL_law_725 ?_
  obtain ⟨y1, hw⟩ := hw
  refine va_sld hx hb hX hbl hbA hS y1 dL_law_726 ?_
  refine lv_aload_n hx hb dL_law_727 rfl (lv_at hl 3 rfl) ?_
  refine call_i (run_SW (cc := cL_law) (As := [.ref (xa X 165), .int (xs (v5 + 1).toNatClampNeg), .ref (xa X 197)]) (rest := []) hx hb hml hown hE hz (okL_audit X l hfl  hw) qw_1088 qw_1089 qw_73 qw_1090 (myL_audit).2 ⟨Nat.le_of_ble_eq_true rfl, Nat.le_of_ble_eq_true rfl⟩ hP hD hS rfl hl.1 rfl (Nat.le_of_ble_eq_true rfl) dL_law_728 ⟨(by show _ ≤ 603072; omega), (by show _ ≤ 7211114; omega)⟩) hS (fun r3 G2 H locs hw hP hD hS => ?_)
  refine lv_istore (lv' := [(6, .int r3), (0, .ref b), (1, .ref (xa X 165)), (2, .ref (xa X 189)), (3, .ref (xa X 197)), (4, .ref (xa X 198)), (5, .int v5)]) hx hb dL_law_731 hl (by decide) rfl (fun ls hl => ?_)
  refine lv_aload_n hx hb dL_law_733 rfl (lv_at hl 3 rfl) ?_
  refine lv_aload_n hx hb dL_law_734 rfl (lv_at hl 1 rfl) ?_
  refine lv_iload hx hb dL_law_735 (lv_at hl 6 rfl) ?_
  refine lv_iconst (v := 1) hx hb dL_law_737 (by decide) ?_
  refine lv_iadd hx hb dL_law_738 ?_
  obtain ⟨y4, hw⟩ := hw
  refine va_sld hx hb hX hbl hbA hS y4 dL_law_739 ?_
  refine call_i (run_V (cc := cL_law) (As := [.int (xs (v5 + 1).toNatClampNeg)]) (rest := []) hx hb hml hown hE hz (okX9_audit X l hfl  hw) qw_1755 qw_1756 qw_1757 qw_86 qw_1758 (myX9_audit) ⟨Nat.le_of_ble_eq_true rfl, Nat.le_of_ble_eq_true rfl⟩ (rv_X9 hE hP rfl) hP hD hS rfl hl.1 rfl (Nat.le_of_ble_eq_true rfl) dL_law_740 ⟨(by show _ ≤ 603072; omega), (by show _ ≤ 7211114; omega)⟩) hS (fun r6 G5 H locs hw hP hD hS => ?_)
  refine lv_istore (lv' := [(7, .int r6), (6, .int r3), (0, .ref b), (1, .ref (xa X 165)), (2, .ref (xa X 189)), (3, .ref (xa X 197)), (4, .ref (xa X 198)), (5, .int v5)]) hx hb dL_law_743 hl (by decide) rfl (fun ls hl => ?_)
  refine lv_aload_n hx hb dL_law_745 rfl (lv_at hl 4 rfl) ?_
  refine call_i (run_V (cc := cL_law) (As := []) (rest := []) hx hb hml hown hE hz (okX9_thrown X l hfl  hw) qw_1560 qw_1561 qw_1562 qw_86 qw_1563 (myX9_thrown) ⟨Nat.le_of_ble_eq_true rfl, Nat.le_of_ble_eq_true rfl⟩ (rv_X9 hE hP rfl) hP hD hS rfl hl.1 rfl (Nat.le_of_ble_eq_true rfl) dL_law_746 ⟨(by show _ ≤ 603072; omega), (by show _ ≤ 7211114; omega)⟩) hS (fun r8 G7 H locs hw hP hD hS => ?_)
  refine lv_iload hx hb dL_law_749 (lv_at hl 1 rfl) ?_
  refine lv_icmp_eq (tgt := 756) hx hb dL_law_751 (by decide) (fun c9 => ?_) (fun c9 => ?_)
  · replace hw := ite_t hw c9
    refine lv_iload hx hb dL_law_756 (lv_at hl 1 rfl) ?_
    refine lv_if_ne (tgt := 780) hx hb dL_law_758 (by decide) (fun c10 => ?_) (fun c10 => ?_)
    · replace hw := ite_f hw c10
      refine lv_goto (tgt := 2836) hx hb dL_law_780 (by decide) ?_
      refine W.widen (k := cc0 + 40) (n := ss0 + 3000) (by omega) (by omega) ?_
      exact kk G7 _ _ _ hw hP hD hS (lv_sub hl [2, 3, 4, 5, 6, 7] rfl)
    · replace hw := ite_t hw c10
      refine lv_aload_n hx hb dL_law_761 rfl (lv_at hl 5 rfl) ?_
      refine lv_iconst (v := 0) hx hb dL_law_762 (by decide) ?_
      obtain ⟨y11, hw⟩ := hw
      refine lald_14 hx hb hE hP y11 dL_law_763 ?_
      refine lv_iload hx hb dL_law_764 (lv_at hl 0 rfl) ?_
      refine lv_if_eq (tgt := 773) hx hb dL_law_766 (by decide) (fun c12 => ?_) (fun c12 => ?_)
      · replace hw := ite_t hw c12
        refine lv_lconst (v := 0) hx hb dL_law_773 (by decide) ?_
        refine W.lcmp hx hb dL_law_774 ?_
        refine lv_if_eq (tgt := 780) hx hb dL_law_775 (by decide) (fun c13 => ?_) (fun c13 => ?_)
        · replace hw := ite_t hw c13
          refine lv_goto (tgt := 2836) hx hb dL_law_780 (by decide) ?_
          refine W.widen (k := cc0 + 40) (n := ss0 + 3000) (by omega) (by omega) ?_
          exact kk G7 _ _ _ hw hP hD hS (lv_sub hl [2, 3, 4, 5, 6, 7] rfl)
        · replace hw := ite_f hw c13
          exact hw.elim
      · replace hw := ite_f hw c12
        refine lv_lconst (v := 1) hx hb dL_law_769 (by decide) ?_
        refine lv_goto (tgt := 774) hx hb dL_law_770 (by decide) ?_
        refine W.lcmp hx hb dL_law_774 ?_
        refine lv_if_eq (tgt := 780) hx hb dL_law_775 (by decide) (fun c14 => ?_) (fun c14 => ?_)
        · replace hw := ite_t hw c14
          refine lv_goto (tgt := 2836) hx hb dL_law_780 (by decide) ?_
          refine W.widen (k := cc0 + 40) (n := ss0 + 3000) (by omega) (by omega) ?_
          exact kk G7 _ _ _ hw hP hD hS (lv_sub hl [2, 3, 4, 5, 6, 7] rfl)
        · replace hw := ite_f hw c14
          exact hw.elim
  · replace hw := ite_f hw c9
    exact hw.elim
def wpL_law_7 (K : GS → Prop) (L : Nat) (xs : Nat → Int32) (v5 : Int32) (G : GS) : Prop :=
  vp_in (v5 + 1) L ∧
  vp_in (v5 + 2) L ∧
  wpL_setRate (fun (r4 : Int32) (G3 : GS) =>
  vp_in (v5 + 1) L ∧
    vp_in (v5 + 2) L ∧
    wpX9_setRate (fun (r8 : Int32) (G7 : GS) =>
    wpX9_thrown (fun (r10 : Int32) (G9 : GS) =>
      if r10 = r4 then
        if r4 = 0 then
          vp_in 0 1 ∧
            if (lg_cmp (G9.2.2.1 (0 : Int32).toNatClampNeg) r8.toInt64) = 0 then
            K G9
          else
            False
        else
          K G9
      else
        False)  G7) (((xs (v5 + 1).toNatClampNeg).toUInt32 % 65536).toInt32) (xs (v5 + 2).toNatClampNeg) G3) (((xs (v5 + 1).toNatClampNeg).toUInt32 % 65536).toInt32) (xs (v5 + 2).toNatClampNeg) G
set_option maxHeartbeats 4000000 in
set_option maxRecDepth 100000 in
theorem okL_law_7 {p : Program} {e : Env} {s : State} {m : MethodId} {below : List Frame} {meth : Method} {c : Code} (l : Launch) (hfl : l.stackTraces = false) {b L : Nat} {xs : Nat → Int32} (C0 : lw_At p s m meth c b L xs) {X : Cx} (hE : Ev X s s.heap) (hz : (X.2.2.2.2) ≤ s.heap.size) (hbA : ¬ xA X b) {K : GS → Prop} {v5 : Int32} {G : GS} {H : Heap} {locs : List Loc} {ls : Array Slot} {cc0 ss0 : Nat} {Q : State → Prop} (hc9 : cc0 + 40 ≤ 603072) (hs9 : ss0 + 3000 ≤ 7211114) (hw : wpL_law_7 K L xs v5 G) (hP : va_P (xD X) vwCl (pool X G) H) (hD : va_D (xA X) (pool X G)) (hS : va_S (xA X) s.heap H locs) (hl : lv_has ls 9 [(0, .ref b), (1, .ref (xa X 165)), (2, .ref (xa X 189)), (3, .ref (xa X 197)), (4, .ref (xa X 198)), (5, .int v5)])
    (kk : ∀ (G : GS) (H : Heap) (locs : List Loc) (ls : Array Slot), K G → va_P (xD X) vwCl (pool X G) H → va_D (xA X) (pool X G) → va_S (xA X) s.heap H locs → lv_has ls 9 [(0, .ref b), (1, .ref (xa X 165)), (2, .ref (xa X 189)), (3, .ref (xa X 197)), (4, .ref (xa X 198)), (5, .int v5)] → W p l e room_1 s m #[Value.ref b] below meth c H locs (cc0 + 40) (ss0 + 3000) Q (F0 m 2836 ls [])) : W p l e room_1 s m #[Value.ref b] below meth c H locs cc0 ss0 Q (F0 m 783 ls []) := by
  obtain ⟨hx, hb, hr, hml, hown, hts, hX, hbl, hlocks, hgv⟩ := id C0
  unfold wpL_law_7 at hw
  refine lv_aload_n hx hb dL_law_783 rfl (lv_at hl 1 rfl) ?_
  refine lv_aload_n hx hb dL_law_784 rfl (lv_at hl 0 rfl) ?_
  refine lv_iload hx hb dL_law_785 (lv_at hl 5 rfl) ?_
  refine lv_iconst (v := 1) hx hb dL_law_787 (by decide) ?_
  refine lv_iadd hx hb dL_law_788 ?_
  obtain ⟨y1, hw⟩ := hw
  refine va_sld hx hb hX hbl hbA hS y1 dL_law_789 ?_
  refine lv_i2c hx hb dL_law_790 rfl ?_
  refine lv_aload_n hx hb dL_law_791 rfl (lv_at hl 0 rfl) ?_
  refine lv_iload hx hb dL_law_792 (lv_at hl 5 rfl) ?_
  refine lv_iconst (v := 2) hx hb dL_law_794 (by decide) ?_
  refine lv_iadd hx hb dL_law_795 ?_
  obtain ⟨y2, hw⟩ := hw
  refine va_sld hx hb hX hbl hbA hS y2 dL_law_796 ?_
  refine lv_aload_n hx hb dL_law_797 rfl (lv_at hl 3 rfl) ?_
  refine call_i (run_SW (cc := cL_law) (As := [.ref (xa X 165), .int (((xs (v5 + 1).toNatClampNeg).toUInt32 % 65536).toInt32), .int (xs (v5 + 2).toNatClampNeg), .ref (xa X 197)]) (rest := []) hx hb hml hown hE hz (okL_setRate X l hfl  hw) qw_1116 qw_1117 qw_73 qw_1118 (myL_setRate).2 ⟨Nat.le_of_ble_eq_true rfl, Nat.le_of_ble_eq_true rfl⟩ hP hD hS rfl hl.1 rfl (Nat.le_of_ble_eq_true rfl) dL_law_798 ⟨(by show _ ≤ 603072; omega), (by show _ ≤ 7211114; omega)⟩) hS (fun r4 G3 H locs hw hP hD hS => ?_)
  refine lv_istore (lv' := [(6, .int r4), (0, .ref b), (1, .ref (xa X 165)), (2, .ref (xa X 189)), (3, .ref (xa X 197)), (4, .ref (xa X 198)), (5, .int v5)]) hx hb dL_law_801 hl (by decide) rfl (fun ls hl => ?_)
  refine lv_aload_n hx hb dL_law_803 rfl (lv_at hl 3 rfl) ?_
  refine lv_aload_n hx hb dL_law_804 rfl (lv_at hl 1 rfl) ?_
  refine lv_iload hx hb dL_law_805 (lv_at hl 6 rfl) ?_
  refine lv_iconst (v := 1) hx hb dL_law_807 (by decide) ?_
  refine lv_iadd hx hb dL_law_808 ?_
  obtain ⟨y5, hw⟩ := hw
  refine va_sld hx hb hX hbl hbA hS y5 dL_law_809 ?_
  refine lv_i2c hx hb dL_law_810 rfl ?_
  refine lv_aload_n hx hb dL_law_811 rfl (lv_at hl 1 rfl) ?_
  refine lv_iload hx hb dL_law_812 (lv_at hl 6 rfl) ?_
  refine lv_iconst (v := 2) hx hb dL_law_814 (by decide) ?_
  refine lv_iadd hx hb dL_law_815 ?_
  obtain ⟨y6, hw⟩ := hw
  refine va_sld hx hb hX hbl hbA hS y6 dL_law_816 ?_
  refine call_i (run_V (cc := cL_law) (As := [.int (((xs (v5 + 1).toNatClampNeg).toUInt32 % 65536).toInt32), .int (xs (v5 + 2).toNatClampNeg)]) (rest := []) hx hb hml hown hE hz (okX9_setRate X l hfl  hw) qw_1767 qw_1768 qw_1769 qw_86 qw_1770 (myX9_setRate) ⟨Nat.le_of_ble_eq_true rfl, Nat.le_of_ble_eq_true rfl⟩ (rv_X9 hE hP rfl) hP hD hS rfl hl.1 rfl (Nat.le_of_ble_eq_true rfl) dL_law_817 ⟨(by show _ ≤ 603072; omega), (by show _ ≤ 7211114; omega)⟩) hS (fun r8 G7 H locs hw hP hD hS => ?_)
  refine lv_istore (lv' := [(7, .int r8), (6, .int r4), (0, .ref b), (1, .ref (xa X 165)), (2, .ref (xa X 189)), (3, .ref (xa X 197)), (4, .ref (xa X 198)), (5, .int v5)]) hx hb dL_law_820 hl (by decide) rfl (fun ls hl => ?_)
  refine lv_aload_n hx hb dL_law_822 rfl (lv_at hl 4 rfl) ?_
  refine call_i (run_V (cc := cL_law) (As := []) (rest := []) hx hb hml hown hE hz (okX9_thrown X l hfl  hw) qw_1560 qw_1561 qw_1562 qw_86 qw_1563 (myX9_thrown) ⟨Nat.le_of_ble_eq_true rfl, Nat.le_of_ble_eq_true rfl⟩ (rv_X9 hE hP rfl) hP hD hS rfl hl.1 rfl (Nat.le_of_ble_eq_true rfl) dL_law_823 ⟨(by show _ ≤ 603072; omega), (by show _ ≤ 7211114; omega)⟩) hS (fun r10 G9 H locs hw hP hD hS => ?_)
  refine lv_iload hx hb dL_law_826 (lv_at hl 1 rfl) ?_
  refine lv_icmp_eq (tgt := 833) hx hb dL_law_828 (by decide) (fun c11 => ?_) (fun c11 => ?_)
  · replace hw := ite_t hw c11
    refine lv_iload hx hb dL_law_833 (lv_at hl 1 rfl) ?_
    refine lv_if_ne (tgt := 850) hx hb dL_law_835 (by decide) (fun c12 => ?_) (fun c12 => ?_)
    · replace hw := ite_f hw c12
      refine lv_goto (tgt := 2836) hx hb dL_law_850 (by decide) ?_
      refine W.widen (k := cc0 + 40) (n := ss0 + 3000) (by omega) (by omega) ?_
      exact kk G9 _ _ _ hw hP hD hS (lv_sub hl [2, 3, 4, 5, 6, 7] rfl)
    · replace hw := ite_t hw c12
      refine lv_aload_n hx hb dL_law_838 rfl (lv_at hl 5 rfl) ?_
      refine lv_iconst (v := 0) hx hb dL_law_839 (by decide) ?_
      obtain ⟨y13, hw⟩ := hw
      refine lald_14 hx hb hE hP y13 dL_law_840 ?_
      refine lv_iload hx hb dL_law_841 (lv_at hl 0 rfl) ?_
      refine lv_i2l hx hb dL_law_843 rfl ?_
      refine W.lcmp hx hb dL_law_844 ?_
      refine lv_if_eq (tgt := 850) hx hb dL_law_845 (by decide) (fun c14 => ?_) (fun c14 => ?_)
      · replace hw := ite_t hw c14
        refine lv_goto (tgt := 2836) hx hb dL_law_850 (by decide) ?_
        refine W.widen (k := cc0 + 40) (n := ss0 + 3000) (by omega) (by omega) ?_
        exact kk G9 _ _ _ hw hP hD hS (lv_sub hl [2, 3, 4, 5, 6, 7] rfl)
      · replace hw := ite_f hw c14
        exact hw.elim
  · replace hw := ite_f hw c11
    exact hw.elim
def wpL_law_8 (K : GS → Prop) (L : Nat) (xs : Nat → Int32) (v5 : Int32) (G : GS) : Prop :=
  vp_in (v5 + 1) L ∧
  vp_in (v5 + 2) L ∧
  wpL_setStickiness (fun (r4 : Int32) (G3 : GS) =>
  vp_in (v5 + 1) L ∧
    vp_in (v5 + 2) L ∧
    wpX9_setStickiness (fun (r8 : Int32) (G7 : GS) =>
    wpX9_thrown (fun (r10 : Int32) (G9 : GS) =>
      if r10 = r4 then
        if r4 = 0 then
          vp_in 0 1 ∧
            if (lg_cmp (G9.2.2.1 (0 : Int32).toNatClampNeg) r8.toInt64) = 0 then
            K G9
          else
            False
        else
          K G9
      else
        False)  G7) (xs (v5 + 1).toNatClampNeg) (xs (v5 + 2).toNatClampNeg) G3) (xs (v5 + 1).toNatClampNeg) (xs (v5 + 2).toNatClampNeg) G
set_option maxHeartbeats 4000000 in
set_option maxRecDepth 100000 in
theorem okL_law_8 {p : Program} {e : Env} {s : State} {m : MethodId} {below : List Frame} {meth : Method} {c : Code} (l : Launch) (hfl : l.stackTraces = false) {b L : Nat} {xs : Nat → Int32} (C0 : lw_At p s m meth c b L xs) {X : Cx} (hE : Ev X s s.heap) (hz : (X.2.2.2.2) ≤ s.heap.size) (hbA : ¬ xA X b) {K : GS → Prop} {v5 : Int32} {G : GS} {H : Heap} {locs : List Loc} {ls : Array Slot} {cc0 ss0 : Nat} {Q : State → Prop} (hc9 : cc0 + 40 ≤ 603072) (hs9 : ss0 + 3000 ≤ 7211114) (hw : wpL_law_8 K L xs v5 G) (hP : va_P (xD X) vwCl (pool X G) H) (hD : va_D (xA X) (pool X G)) (hS : va_S (xA X) s.heap H locs) (hl : lv_has ls 9 [(0, .ref b), (1, .ref (xa X 165)), (2, .ref (xa X 189)), (3, .ref (xa X 197)), (4, .ref (xa X 198)), (5, .int v5)])
    (kk : ∀ (G : GS) (H : Heap) (locs : List Loc) (ls : Array Slot), K G → va_P (xD X) vwCl (pool X G) H → va_D (xA X) (pool X G) → va_S (xA X) s.heap H locs → lv_has ls 9 [(0, .ref b), (1, .ref (xa X 165)), (2, .ref (xa X 189)), (3, .ref (xa X 197)), (4, .ref (xa X 198)), (5, .int v5)] → W p l e room_1 s m #[Value.ref b] below meth c H locs (cc0 + 40) (ss0 + 3000) Q (F0 m 2836 ls [])) : W p l e room_1 s m #[Value.ref b] below meth c H locs cc0 ss0 Q (F0 m 853 ls []) := by
  obtain ⟨hx, hb, hr, hml, hown, hts, hX, hbl, hlocks, hgv⟩ := id C0
  unfold wpL_law_8 at hw
  refine lv_aload_n hx hb dL_law_853 rfl (lv_at hl 1 rfl) ?_
  refine lv_aload_n hx hb dL_law_854 rfl (lv_at hl 0 rfl) ?_
  refine lv_iload hx hb dL_law_855 (lv_at hl 5 rfl) ?_
  refine lv_iconst (v := 1) hx hb dL_law_857 (by decide) ?_
  refine lv_iadd hx hb dL_law_858 ?_
  obtain ⟨y1, hw⟩ := hw
  refine va_sld hx hb hX hbl hbA hS y1 dL_law_859 ?_
  refine lv_aload_n hx hb dL_law_860 rfl (lv_at hl 0 rfl) ?_
  refine lv_iload hx hb dL_law_861 (lv_at hl 5 rfl) ?_
  refine lv_iconst (v := 2) hx hb dL_law_863 (by decide) ?_
  refine lv_iadd hx hb dL_law_864 ?_
  obtain ⟨y2, hw⟩ := hw
  refine va_sld hx hb hX hbl hbA hS y2 dL_law_865 ?_
  refine lv_aload_n hx hb dL_law_866 rfl (lv_at hl 3 rfl) ?_
  refine call_i (run_SW (cc := cL_law) (As := [.ref (xa X 165), .int (xs (v5 + 1).toNatClampNeg), .int (xs (v5 + 2).toNatClampNeg), .ref (xa X 197)]) (rest := []) hx hb hml hown hE hz (okL_setStickiness X l hfl  hw) qw_1131 qw_1132 qw_73 qw_1133 (myL_setStickiness).2 ⟨Nat.le_of_ble_eq_true rfl, Nat.le_of_ble_eq_true rfl⟩ hP hD hS rfl hl.1 rfl (Nat.le_of_ble_eq_true rfl) dL_law_867 ⟨(by show _ ≤ 603072; omega), (by show _ ≤ 7211114; omega)⟩) hS (fun r4 G3 H locs hw hP hD hS => ?_)
  refine lv_istore (lv' := [(6, .int r4), (0, .ref b), (1, .ref (xa X 165)), (2, .ref (xa X 189)), (3, .ref (xa X 197)), (4, .ref (xa X 198)), (5, .int v5)]) hx hb dL_law_870 hl (by decide) rfl (fun ls hl => ?_)
  refine lv_aload_n hx hb dL_law_872 rfl (lv_at hl 3 rfl) ?_
  refine lv_aload_n hx hb dL_law_873 rfl (lv_at hl 1 rfl) ?_
  refine lv_iload hx hb dL_law_874 (lv_at hl 6 rfl) ?_
  refine lv_iconst (v := 1) hx hb dL_law_876 (by decide) ?_
  refine lv_iadd hx hb dL_law_877 ?_
  obtain ⟨y5, hw⟩ := hw
  refine va_sld hx hb hX hbl hbA hS y5 dL_law_878 ?_
  refine lv_aload_n hx hb dL_law_879 rfl (lv_at hl 1 rfl) ?_
  refine lv_iload hx hb dL_law_880 (lv_at hl 6 rfl) ?_
  refine lv_iconst (v := 2) hx hb dL_law_882 (by decide) ?_
  refine lv_iadd hx hb dL_law_883 ?_
  obtain ⟨y6, hw⟩ := hw
  refine va_sld hx hb hX hbl hbA hS y6 dL_law_884 ?_
  refine call_i (run_V (cc := cL_law) (As := [.int (xs (v5 + 1).toNatClampNeg), .int (xs (v5 + 2).toNatClampNeg)]) (rest := []) hx hb hml hown hE hz (okX9_setStickiness X l hfl  hw) qw_1778 qw_1779 qw_1780 qw_86 qw_1781 (myX9_setStickiness) ⟨Nat.le_of_ble_eq_true rfl, Nat.le_of_ble_eq_true rfl⟩ (rv_X9 hE hP rfl) hP hD hS rfl hl.1 rfl (Nat.le_of_ble_eq_true rfl) dL_law_885 ⟨(by show _ ≤ 603072; omega), (by show _ ≤ 7211114; omega)⟩) hS (fun r8 G7 H locs hw hP hD hS => ?_)
  refine lv_istore (lv' := [(7, .int r8), (6, .int r4), (0, .ref b), (1, .ref (xa X 165)), (2, .ref (xa X 189)), (3, .ref (xa X 197)), (4, .ref (xa X 198)), (5, .int v5)]) hx hb dL_law_888 hl (by decide) rfl (fun ls hl => ?_)
  refine lv_aload_n hx hb dL_law_890 rfl (lv_at hl 4 rfl) ?_
  refine call_i (run_V (cc := cL_law) (As := []) (rest := []) hx hb hml hown hE hz (okX9_thrown X l hfl  hw) qw_1560 qw_1561 qw_1562 qw_86 qw_1563 (myX9_thrown) ⟨Nat.le_of_ble_eq_true rfl, Nat.le_of_ble_eq_true rfl⟩ (rv_X9 hE hP rfl) hP hD hS rfl hl.1 rfl (Nat.le_of_ble_eq_true rfl) dL_law_891 ⟨(by show _ ≤ 603072; omega), (by show _ ≤ 7211114; omega)⟩) hS (fun r10 G9 H locs hw hP hD hS => ?_)
  refine lv_iload hx hb dL_law_894 (lv_at hl 1 rfl) ?_
  refine lv_icmp_eq (tgt := 901) hx hb dL_law_896 (by decide) (fun c11 => ?_) (fun c11 => ?_)
  · replace hw := ite_t hw c11
    refine lv_iload hx hb dL_law_901 (lv_at hl 1 rfl) ?_
    refine lv_if_ne (tgt := 918) hx hb dL_law_903 (by decide) (fun c12 => ?_) (fun c12 => ?_)
    · replace hw := ite_f hw c12
      refine lv_goto (tgt := 2836) hx hb dL_law_918 (by decide) ?_
      refine W.widen (k := cc0 + 40) (n := ss0 + 3000) (by omega) (by omega) ?_
      exact kk G9 _ _ _ hw hP hD hS (lv_sub hl [2, 3, 4, 5, 6, 7] rfl)
    · replace hw := ite_t hw c12
      refine lv_aload_n hx hb dL_law_906 rfl (lv_at hl 5 rfl) ?_
      refine lv_iconst (v := 0) hx hb dL_law_907 (by decide) ?_
      obtain ⟨y13, hw⟩ := hw
      refine lald_14 hx hb hE hP y13 dL_law_908 ?_
      refine lv_iload hx hb dL_law_909 (lv_at hl 0 rfl) ?_
      refine lv_i2l hx hb dL_law_911 rfl ?_
      refine W.lcmp hx hb dL_law_912 ?_
      refine lv_if_eq (tgt := 918) hx hb dL_law_913 (by decide) (fun c14 => ?_) (fun c14 => ?_)
      · replace hw := ite_t hw c14
        refine lv_goto (tgt := 2836) hx hb dL_law_918 (by decide) ?_
        refine W.widen (k := cc0 + 40) (n := ss0 + 3000) (by omega) (by omega) ?_
        exact kk G9 _ _ _ hw hP hD hS (lv_sub hl [2, 3, 4, 5, 6, 7] rfl)
      · replace hw := ite_f hw c14
        exact hw.elim
  · replace hw := ite_f hw c11
    exact hw.elim
def wpL_law_9 (K : GS → Prop) (L : Nat) (xs : Nat → Int32) (v5 : Int32) (G : GS) : Prop :=
  vp_in (v5 + 1) L ∧
  wpL_passDays (fun (r3 : Int32) (G2 : GS) =>
  vp_in (v5 + 1) L ∧
    wpX9_passDays (fun (r6 : Int32) (G5 : GS) =>
    wpX9_thrown (fun (r8 : Int32) (G7 : GS) =>
      if r8 = r3 then
        if r3 = 0 then
          vp_in 0 1 ∧
            if (lg_cmp (G7.2.2.1 (0 : Int32).toNatClampNeg) r6.toInt64) = 0 then
            K G7
          else
            False
        else
          K G7
      else
        False)  G5) (xs (v5 + 1).toNatClampNeg) G2) (xs (v5 + 1).toNatClampNeg) G
set_option maxHeartbeats 4000000 in
set_option maxRecDepth 100000 in
theorem okL_law_9 {p : Program} {e : Env} {s : State} {m : MethodId} {below : List Frame} {meth : Method} {c : Code} (l : Launch) (hfl : l.stackTraces = false) {b L : Nat} {xs : Nat → Int32} (C0 : lw_At p s m meth c b L xs) {X : Cx} (hE : Ev X s s.heap) (hz : (X.2.2.2.2) ≤ s.heap.size) (hbA : ¬ xA X b) {K : GS → Prop} {v5 : Int32} {G : GS} {H : Heap} {locs : List Loc} {ls : Array Slot} {cc0 ss0 : Nat} {Q : State → Prop} (hc9 : cc0 + 40 ≤ 603072) (hs9 : ss0 + 3000 ≤ 7211114) (hw : wpL_law_9 K L xs v5 G) (hP : va_P (xD X) vwCl (pool X G) H) (hD : va_D (xA X) (pool X G)) (hS : va_S (xA X) s.heap H locs) (hl : lv_has ls 9 [(0, .ref b), (1, .ref (xa X 165)), (2, .ref (xa X 189)), (3, .ref (xa X 197)), (4, .ref (xa X 198)), (5, .int v5)])
    (kk : ∀ (G : GS) (H : Heap) (locs : List Loc) (ls : Array Slot), K G → va_P (xD X) vwCl (pool X G) H → va_D (xA X) (pool X G) → va_S (xA X) s.heap H locs → lv_has ls 9 [(0, .ref b), (1, .ref (xa X 165)), (2, .ref (xa X 189)), (3, .ref (xa X 197)), (4, .ref (xa X 198)), (5, .int v5)] → W p l e room_1 s m #[Value.ref b] below meth c H locs (cc0 + 40) (ss0 + 3000) Q (F0 m 2836 ls [])) : W p l e room_1 s m #[Value.ref b] below meth c H locs cc0 ss0 Q (F0 m 921 ls []) := by
  obtain ⟨hx, hb, hr, hml, hown, hts, hX, hbl, hlocks, hgv⟩ := id C0
  unfold wpL_law_9 at hw
  refine lv_aload_n hx hb dL_law_921 rfl (lv_at hl 1 rfl) ?_
  refine lv_aload_n hx hb dL_law_922 rfl (lv_at hl 0 rfl) ?_
  refine lv_iload hx hb dL_law_923 (lv_at hl 5 rfl) ?_
  refine lv_iconst (v := 1) hx hb dL_law_925 (by decide) ?_
  refine lv_iadd hx hb dL_law_926 ?_
  obtain ⟨y1, hw⟩ := hw
  refine va_sld hx hb hX hbl hbA hS y1 dL_law_927 ?_
  refine lv_aload_n hx hb dL_law_928 rfl (lv_at hl 3 rfl) ?_
  refine call_i (run_SW (cc := cL_law) (As := [.ref (xa X 165), .int (xs (v5 + 1).toNatClampNeg), .ref (xa X 197)]) (rest := []) hx hb hml hown hE hz (okL_passDays X l hfl  hw) qw_1146 qw_1147 qw_73 qw_1148 (myL_passDays).2 ⟨Nat.le_of_ble_eq_true rfl, Nat.le_of_ble_eq_true rfl⟩ hP hD hS rfl hl.1 rfl (Nat.le_of_ble_eq_true rfl) dL_law_929 ⟨(by show _ ≤ 603072; omega), (by show _ ≤ 7211114; omega)⟩) hS (fun r3 G2 H locs hw hP hD hS => ?_)
  refine lv_istore (lv' := [(6, .int r3), (0, .ref b), (1, .ref (xa X 165)), (2, .ref (xa X 189)), (3, .ref (xa X 197)), (4, .ref (xa X 198)), (5, .int v5)]) hx hb dL_law_932 hl (by decide) rfl (fun ls hl => ?_)
  refine lv_aload_n hx hb dL_law_934 rfl (lv_at hl 3 rfl) ?_
  refine lv_aload_n hx hb dL_law_935 rfl (lv_at hl 1 rfl) ?_
  refine lv_iload hx hb dL_law_936 (lv_at hl 6 rfl) ?_
  refine lv_iconst (v := 1) hx hb dL_law_938 (by decide) ?_
  refine lv_iadd hx hb dL_law_939 ?_
  obtain ⟨y4, hw⟩ := hw
  refine va_sld hx hb hX hbl hbA hS y4 dL_law_940 ?_
  refine call_i (run_V (cc := cL_law) (As := [.int (xs (v5 + 1).toNatClampNeg)]) (rest := []) hx hb hml hown hE hz (okX9_passDays X l hfl  hw) qw_1790 qw_1791 qw_1792 qw_86 qw_1793 (myX9_passDays) ⟨Nat.le_of_ble_eq_true rfl, Nat.le_of_ble_eq_true rfl⟩ (rv_X9 hE hP rfl) hP hD hS rfl hl.1 rfl (Nat.le_of_ble_eq_true rfl) dL_law_941 ⟨(by show _ ≤ 603072; omega), (by show _ ≤ 7211114; omega)⟩) hS (fun r6 G5 H locs hw hP hD hS => ?_)
  refine lv_istore (lv' := [(7, .int r6), (6, .int r3), (0, .ref b), (1, .ref (xa X 165)), (2, .ref (xa X 189)), (3, .ref (xa X 197)), (4, .ref (xa X 198)), (5, .int v5)]) hx hb dL_law_944 hl (by decide) rfl (fun ls hl => ?_)
  refine lv_aload_n hx hb dL_law_946 rfl (lv_at hl 4 rfl) ?_
  refine call_i (run_V (cc := cL_law) (As := []) (rest := []) hx hb hml hown hE hz (okX9_thrown X l hfl  hw) qw_1560 qw_1561 qw_1562 qw_86 qw_1563 (myX9_thrown) ⟨Nat.le_of_ble_eq_true rfl, Nat.le_of_ble_eq_true rfl⟩ (rv_X9 hE hP rfl) hP hD hS rfl hl.1 rfl (Nat.le_of_ble_eq_true rfl) dL_law_947 ⟨(by show _ ≤ 603072; omega), (by show _ ≤ 7211114; omega)⟩) hS (fun r8 G7 H locs hw hP hD hS => ?_)
  refine lv_iload hx hb dL_law_950 (lv_at hl 1 rfl) ?_
  refine lv_icmp_eq (tgt := 957) hx hb dL_law_952 (by decide) (fun c9 => ?_) (fun c9 => ?_)
  · replace hw := ite_t hw c9
    refine lv_iload hx hb dL_law_957 (lv_at hl 1 rfl) ?_
    refine lv_if_ne (tgt := 974) hx hb dL_law_959 (by decide) (fun c10 => ?_) (fun c10 => ?_)
    · replace hw := ite_f hw c10
      refine lv_goto (tgt := 2836) hx hb dL_law_974 (by decide) ?_
      refine W.widen (k := cc0 + 40) (n := ss0 + 3000) (by omega) (by omega) ?_
      exact kk G7 _ _ _ hw hP hD hS (lv_sub hl [2, 3, 4, 5, 6, 7] rfl)
    · replace hw := ite_t hw c10
      refine lv_aload_n hx hb dL_law_962 rfl (lv_at hl 5 rfl) ?_
      refine lv_iconst (v := 0) hx hb dL_law_963 (by decide) ?_
      obtain ⟨y11, hw⟩ := hw
      refine lald_14 hx hb hE hP y11 dL_law_964 ?_
      refine lv_iload hx hb dL_law_965 (lv_at hl 0 rfl) ?_
      refine lv_i2l hx hb dL_law_967 rfl ?_
      refine W.lcmp hx hb dL_law_968 ?_
      refine lv_if_eq (tgt := 974) hx hb dL_law_969 (by decide) (fun c12 => ?_) (fun c12 => ?_)
      · replace hw := ite_t hw c12
        refine lv_goto (tgt := 2836) hx hb dL_law_974 (by decide) ?_
        refine W.widen (k := cc0 + 40) (n := ss0 + 3000) (by omega) (by omega) ?_
        exact kk G7 _ _ _ hw hP hD hS (lv_sub hl [2, 3, 4, 5, 6, 7] rfl)
      · replace hw := ite_f hw c12
        exact hw.elim
  · replace hw := ite_f hw c9
    exact hw.elim
def wpL_law_10 (K : GS → Prop) (L : Nat) (xs : Nat → Int32) (v5 : Int32) (G : GS) : Prop :=
  wpX8_vaultCount (fun (r2 : Int32) (G1 : GS) =>
  wpX9_vaultCount (fun (r4 : Int32) (G3 : GS) =>
    if r2 = r4 then
      K G3
    else
      False)  G1)  G
set_option maxHeartbeats 4000000 in
set_option maxRecDepth 100000 in
theorem okL_law_10 {p : Program} {e : Env} {s : State} {m : MethodId} {below : List Frame} {meth : Method} {c : Code} (l : Launch) (hfl : l.stackTraces = false) {b L : Nat} {xs : Nat → Int32} (C0 : lw_At p s m meth c b L xs) {X : Cx} (hE : Ev X s s.heap) (hz : (X.2.2.2.2) ≤ s.heap.size) (hbA : ¬ xA X b) {K : GS → Prop} {v5 : Int32} {G : GS} {H : Heap} {locs : List Loc} {ls : Array Slot} {cc0 ss0 : Nat} {Q : State → Prop} (hc9 : cc0 + 40 ≤ 603072) (hs9 : ss0 + 3000 ≤ 7211114) (hw : wpL_law_10 K L xs v5 G) (hP : va_P (xD X) vwCl (pool X G) H) (hD : va_D (xA X) (pool X G)) (hS : va_S (xA X) s.heap H locs) (hl : lv_has ls 9 [(0, .ref b), (1, .ref (xa X 165)), (2, .ref (xa X 189)), (3, .ref (xa X 197)), (4, .ref (xa X 198)), (5, .int v5)])
    (kk : ∀ (G : GS) (H : Heap) (locs : List Loc) (ls : Array Slot), K G → va_P (xD X) vwCl (pool X G) H → va_D (xA X) (pool X G) → va_S (xA X) s.heap H locs → lv_has ls 9 [(0, .ref b), (1, .ref (xa X 165)), (2, .ref (xa X 189)), (3, .ref (xa X 197)), (4, .ref (xa X 198)), (5, .int v5)] → W p l e room_1 s m #[Value.ref b] below meth c H locs (cc0 + 40) (ss0 + 3000) Q (F0 m 2836 ls [])) : W p l e room_1 s m #[Value.ref b] below meth c H locs cc0 ss0 Q (F0 m 977 ls []) := by
  obtain ⟨hx, hb, hr, hml, hown, hts, hX, hbl, hlocks, hgv⟩ := id C0
  unfold wpL_law_10 at hw
  refine lv_aload_n hx hb dL_law_977 rfl (lv_at hl 1 rfl) ?_
  refine call_i (run_V (cc := cL_law) (As := []) (rest := []) hx hb hml hown hE hz (okX8_vaultCount X l hfl  hw) qw_346 qw_347 qw_348 qw_74 qw_349 (myX8_vaultCount) ⟨Nat.le_of_ble_eq_true rfl, Nat.le_of_ble_eq_true rfl⟩ (rv_X8 hE hP rfl) hP hD hS rfl hl.1 rfl (Nat.le_of_ble_eq_true rfl) dL_law_978 ⟨(by show _ ≤ 603072; omega), (by show _ ≤ 7211114; omega)⟩) hS (fun r2 G1 H locs hw hP hD hS => ?_)
  refine lv_aload_n hx hb dL_law_981 rfl (lv_at hl 2 rfl) ?_
  refine call_i (run_V (cc := cL_law) (As := []) (rest := [.int r2]) hx hb hml hown hE hz (okX9_vaultCount X l hfl  hw) qw_1805 qw_1806 qw_1807 qw_86 qw_1808 (myX9_vaultCount) ⟨Nat.le_of_ble_eq_true rfl, Nat.le_of_ble_eq_true rfl⟩ (rv_X9 hE hP rfl) hP hD hS rfl hl.1 rfl (Nat.le_of_ble_eq_true rfl) dL_law_982 ⟨(by show _ ≤ 603072; omega), (by show _ ≤ 7211114; omega)⟩) hS (fun r4 G3 H locs hw hP hD hS => ?_)
  refine lv_icmp_eq (tgt := 2836) hx hb dL_law_985 (by decide) (fun c5 => ?_) (fun c5 => ?_)
  · replace hw := ite_t hw c5
    refine W.widen (k := cc0 + 40) (n := ss0 + 3000) (by omega) (by omega) ?_
    exact kk G3 _ _ _ hw hP hD hS (lv_sub hl [0, 1, 2, 3, 4, 5] rfl)
  · replace hw := ite_f hw c5
    exact hw.elim
def wpL_law_11 (K : GS → Prop) (L : Nat) (xs : Nat → Int32) (v5 : Int32) (G : GS) : Prop :=
  vp_in (v5 + 1) L ∧
  vp_in (v5 + 2) L ∧
  wpL_flies (fun (r4 : Int32) (G3 : GS) =>
  vp_in (v5 + 1) L ∧
    vp_in (v5 + 2) L ∧
    wpX9_flies (fun (r8 : Int32) (G7 : GS) =>
    wpX9_thrown (fun (r10 : Int32) (G9 : GS) =>
      if r10 = r4 then
        if r4 = 0 then
          vp_in 0 1 ∧
            if (lg_cmp (G9.2.2.1 (0 : Int32).toNatClampNeg) r8.toInt64) = 0 then
            K G9
          else
            False
        else
          K G9
      else
        False)  G7) (xs (v5 + 1).toNatClampNeg) (((xs (v5 + 2).toNatClampNeg).toUInt32 % 65536).toInt32) G3) (xs (v5 + 1).toNatClampNeg) (((xs (v5 + 2).toNatClampNeg).toUInt32 % 65536).toInt32) G
set_option maxHeartbeats 4000000 in
set_option maxRecDepth 100000 in
theorem okL_law_11 {p : Program} {e : Env} {s : State} {m : MethodId} {below : List Frame} {meth : Method} {c : Code} (l : Launch) (hfl : l.stackTraces = false) {b L : Nat} {xs : Nat → Int32} (C0 : lw_At p s m meth c b L xs) {X : Cx} (hE : Ev X s s.heap) (hz : (X.2.2.2.2) ≤ s.heap.size) (hbA : ¬ xA X b) {K : GS → Prop} {v5 : Int32} {G : GS} {H : Heap} {locs : List Loc} {ls : Array Slot} {cc0 ss0 : Nat} {Q : State → Prop} (hc9 : cc0 + 40 ≤ 603072) (hs9 : ss0 + 3000 ≤ 7211114) (hw : wpL_law_11 K L xs v5 G) (hP : va_P (xD X) vwCl (pool X G) H) (hD : va_D (xA X) (pool X G)) (hS : va_S (xA X) s.heap H locs) (hl : lv_has ls 9 [(0, .ref b), (1, .ref (xa X 165)), (2, .ref (xa X 189)), (3, .ref (xa X 197)), (4, .ref (xa X 198)), (5, .int v5)])
    (kk : ∀ (G : GS) (H : Heap) (locs : List Loc) (ls : Array Slot), K G → va_P (xD X) vwCl (pool X G) H → va_D (xA X) (pool X G) → va_S (xA X) s.heap H locs → lv_has ls 9 [(0, .ref b), (1, .ref (xa X 165)), (2, .ref (xa X 189)), (3, .ref (xa X 197)), (4, .ref (xa X 198)), (5, .int v5)] → W p l e room_1 s m #[Value.ref b] below meth c H locs (cc0 + 40) (ss0 + 3000) Q (F0 m 2836 ls [])) : W p l e room_1 s m #[Value.ref b] below meth c H locs cc0 ss0 Q (F0 m 990 ls []) := by
  obtain ⟨hx, hb, hr, hml, hown, hts, hX, hbl, hlocks, hgv⟩ := id C0
  unfold wpL_law_11 at hw
  refine lv_aload_n hx hb dL_law_990 rfl (lv_at hl 1 rfl) ?_
  refine lv_aload_n hx hb dL_law_991 rfl (lv_at hl 0 rfl) ?_
  refine lv_iload hx hb dL_law_992 (lv_at hl 5 rfl) ?_
  refine lv_iconst (v := 1) hx hb dL_law_994 (by decide) ?_
  refine lv_iadd hx hb dL_law_995 ?_
  obtain ⟨y1, hw⟩ := hw
  refine va_sld hx hb hX hbl hbA hS y1 dL_law_996 ?_
  refine lv_aload_n hx hb dL_law_997 rfl (lv_at hl 0 rfl) ?_
  refine lv_iload hx hb dL_law_998 (lv_at hl 5 rfl) ?_
  refine lv_iconst (v := 2) hx hb dL_law_1000 (by decide) ?_
  refine lv_iadd hx hb dL_law_1001 ?_
  obtain ⟨y2, hw⟩ := hw
  refine va_sld hx hb hX hbl hbA hS y2 dL_law_1002 ?_
  refine lv_i2c hx hb dL_law_1003 rfl ?_
  refine lv_aload_n hx hb dL_law_1004 rfl (lv_at hl 3 rfl) ?_
  refine call_i (run_SW (cc := cL_law) (As := [.ref (xa X 165), .int (xs (v5 + 1).toNatClampNeg), .int (((xs (v5 + 2).toNatClampNeg).toUInt32 % 65536).toInt32), .ref (xa X 197)]) (rest := []) hx hb hml hown hE hz (okL_flies X l hfl  hw) qw_1173 qw_1174 qw_73 qw_1175 (myL_flies).2 ⟨Nat.le_of_ble_eq_true rfl, Nat.le_of_ble_eq_true rfl⟩ hP hD hS rfl hl.1 rfl (Nat.le_of_ble_eq_true rfl) dL_law_1005 ⟨(by show _ ≤ 603072; omega), (by show _ ≤ 7211114; omega)⟩) hS (fun r4 G3 H locs hw hP hD hS => ?_)
  refine lv_istore (lv' := [(6, .int r4), (0, .ref b), (1, .ref (xa X 165)), (2, .ref (xa X 189)), (3, .ref (xa X 197)), (4, .ref (xa X 198)), (5, .int v5)]) hx hb dL_law_1008 hl (by decide) rfl (fun ls hl => ?_)
  refine lv_aload_n hx hb dL_law_1010 rfl (lv_at hl 3 rfl) ?_
  refine lv_aload_n hx hb dL_law_1011 rfl (lv_at hl 1 rfl) ?_
  refine lv_iload hx hb dL_law_1012 (lv_at hl 6 rfl) ?_
  refine lv_iconst (v := 1) hx hb dL_law_1014 (by decide) ?_
  refine lv_iadd hx hb dL_law_1015 ?_
  obtain ⟨y5, hw⟩ := hw
  refine va_sld hx hb hX hbl hbA hS y5 dL_law_1016 ?_
  refine lv_aload_n hx hb dL_law_1017 rfl (lv_at hl 1 rfl) ?_
  refine lv_iload hx hb dL_law_1018 (lv_at hl 6 rfl) ?_
  refine lv_iconst (v := 2) hx hb dL_law_1020 (by decide) ?_
  refine lv_iadd hx hb dL_law_1021 ?_
  obtain ⟨y6, hw⟩ := hw
  refine va_sld hx hb hX hbl hbA hS y6 dL_law_1022 ?_
  refine lv_i2c hx hb dL_law_1023 rfl ?_
  refine call_i (run_V (cc := cL_law) (As := [.int (xs (v5 + 1).toNatClampNeg), .int (((xs (v5 + 2).toNatClampNeg).toUInt32 % 65536).toInt32)]) (rest := []) hx hb hml hown hE hz (okX9_flies X l hfl  hw) qw_1813 qw_1814 qw_1815 qw_86 qw_1816 (myX9_flies) ⟨Nat.le_of_ble_eq_true rfl, Nat.le_of_ble_eq_true rfl⟩ (rv_X9 hE hP rfl) hP hD hS rfl hl.1 rfl (Nat.le_of_ble_eq_true rfl) dL_law_1024 ⟨(by show _ ≤ 603072; omega), (by show _ ≤ 7211114; omega)⟩) hS (fun r8 G7 H locs hw hP hD hS => ?_)
  refine lv_istore (lv' := [(7, .int r8), (6, .int r4), (0, .ref b), (1, .ref (xa X 165)), (2, .ref (xa X 189)), (3, .ref (xa X 197)), (4, .ref (xa X 198)), (5, .int v5)]) hx hb dL_law_1027 hl (by decide) rfl (fun ls hl => ?_)
  refine lv_aload_n hx hb dL_law_1029 rfl (lv_at hl 4 rfl) ?_
  refine call_i (run_V (cc := cL_law) (As := []) (rest := []) hx hb hml hown hE hz (okX9_thrown X l hfl  hw) qw_1560 qw_1561 qw_1562 qw_86 qw_1563 (myX9_thrown) ⟨Nat.le_of_ble_eq_true rfl, Nat.le_of_ble_eq_true rfl⟩ (rv_X9 hE hP rfl) hP hD hS rfl hl.1 rfl (Nat.le_of_ble_eq_true rfl) dL_law_1030 ⟨(by show _ ≤ 603072; omega), (by show _ ≤ 7211114; omega)⟩) hS (fun r10 G9 H locs hw hP hD hS => ?_)
  refine lv_iload hx hb dL_law_1033 (lv_at hl 1 rfl) ?_
  refine lv_icmp_eq (tgt := 1040) hx hb dL_law_1035 (by decide) (fun c11 => ?_) (fun c11 => ?_)
  · replace hw := ite_t hw c11
    refine lv_iload hx hb dL_law_1040 (lv_at hl 1 rfl) ?_
    refine lv_if_ne (tgt := 1057) hx hb dL_law_1042 (by decide) (fun c12 => ?_) (fun c12 => ?_)
    · replace hw := ite_f hw c12
      refine lv_goto (tgt := 2836) hx hb dL_law_1057 (by decide) ?_
      refine W.widen (k := cc0 + 40) (n := ss0 + 3000) (by omega) (by omega) ?_
      exact kk G9 _ _ _ hw hP hD hS (lv_sub hl [2, 3, 4, 5, 6, 7] rfl)
    · replace hw := ite_t hw c12
      refine lv_aload_n hx hb dL_law_1045 rfl (lv_at hl 5 rfl) ?_
      refine lv_iconst (v := 0) hx hb dL_law_1046 (by decide) ?_
      obtain ⟨y13, hw⟩ := hw
      refine lald_14 hx hb hE hP y13 dL_law_1047 ?_
      refine lv_iload hx hb dL_law_1048 (lv_at hl 0 rfl) ?_
      refine lv_i2l hx hb dL_law_1050 rfl ?_
      refine W.lcmp hx hb dL_law_1051 ?_
      refine lv_if_eq (tgt := 1057) hx hb dL_law_1052 (by decide) (fun c14 => ?_) (fun c14 => ?_)
      · replace hw := ite_t hw c14
        refine lv_goto (tgt := 2836) hx hb dL_law_1057 (by decide) ?_
        refine W.widen (k := cc0 + 40) (n := ss0 + 3000) (by omega) (by omega) ?_
        exact kk G9 _ _ _ hw hP hD hS (lv_sub hl [2, 3, 4, 5, 6, 7] rfl)
      · replace hw := ite_f hw c14
        exact hw.elim
  · replace hw := ite_f hw c11
    exact hw.elim
def wpL_law_12 (K : GS → Prop) (L : Nat) (xs : Nat → Int32) (v5 : Int32) (G : GS) : Prop :=
  vp_in (v5 + 1) L ∧
  wpL_crumbs (fun (r3 : Int32) (G2 : GS) =>
  vp_in (v5 + 1) L ∧
    wpX9_crumbs (fun (r6 : Int32) (G5 : GS) =>
    wpX9_thrown (fun (r8 : Int32) (G7 : GS) =>
      if r8 = r3 then
        if r3 = 0 then
          vp_in 0 1 ∧
            if (lg_cmp (G7.2.2.1 (0 : Int32).toNatClampNeg) r6.toInt64) = 0 then
            K G7
          else
            False
        else
          K G7
      else
        False)  G5) (xs (v5 + 1).toNatClampNeg) G2) (xs (v5 + 1).toNatClampNeg) G
set_option maxHeartbeats 4000000 in
set_option maxRecDepth 100000 in
theorem okL_law_12 {p : Program} {e : Env} {s : State} {m : MethodId} {below : List Frame} {meth : Method} {c : Code} (l : Launch) (hfl : l.stackTraces = false) {b L : Nat} {xs : Nat → Int32} (C0 : lw_At p s m meth c b L xs) {X : Cx} (hE : Ev X s s.heap) (hz : (X.2.2.2.2) ≤ s.heap.size) (hbA : ¬ xA X b) {K : GS → Prop} {v5 : Int32} {G : GS} {H : Heap} {locs : List Loc} {ls : Array Slot} {cc0 ss0 : Nat} {Q : State → Prop} (hc9 : cc0 + 40 ≤ 603072) (hs9 : ss0 + 3000 ≤ 7211114) (hw : wpL_law_12 K L xs v5 G) (hP : va_P (xD X) vwCl (pool X G) H) (hD : va_D (xA X) (pool X G)) (hS : va_S (xA X) s.heap H locs) (hl : lv_has ls 9 [(0, .ref b), (1, .ref (xa X 165)), (2, .ref (xa X 189)), (3, .ref (xa X 197)), (4, .ref (xa X 198)), (5, .int v5)])
    (kk : ∀ (G : GS) (H : Heap) (locs : List Loc) (ls : Array Slot), K G → va_P (xD X) vwCl (pool X G) H → va_D (xA X) (pool X G) → va_S (xA X) s.heap H locs → lv_has ls 9 [(0, .ref b), (1, .ref (xa X 165)), (2, .ref (xa X 189)), (3, .ref (xa X 197)), (4, .ref (xa X 198)), (5, .int v5)] → W p l e room_1 s m #[Value.ref b] below meth c H locs (cc0 + 40) (ss0 + 3000) Q (F0 m 2836 ls [])) : W p l e room_1 s m #[Value.ref b] below meth c H locs cc0 ss0 Q (F0 m 1060 ls []) := by
  obtain ⟨hx, hb, hr, hml, hown, hts, hX, hbl, hlocks, hgv⟩ := id C0
  unfold wpL_law_12 at hw
  refine lv_aload_n hx hb dL_law_1060 rfl (lv_at hl 1 rfl) ?_
  refine lv_aload_n hx hb dL_law_1061 rfl (lv_at hl 0 rfl) ?_
  refine lv_iload hx hb dL_law_1062 (lv_at hl 5 rfl) ?_
  refine lv_iconst (v := 1) hx hb dL_law_1064 (by decide) ?_
  refine lv_iadd hx hb dL_law_1065 ?_
  obtain ⟨y1, hw⟩ := hw
  refine va_sld hx hb hX hbl hbA hS y1 dL_law_1066 ?_
  refine lv_aload_n hx hb dL_law_1067 rfl (lv_at hl 3 rfl) ?_
  refine call_i (run_SW (cc := cL_law) (As := [.ref (xa X 165), .int (xs (v5 + 1).toNatClampNeg), .ref (xa X 197)]) (rest := []) hx hb hml hown hE hz (okL_crumbs X l hfl  hw) qw_1190 qw_1191 qw_73 qw_1192 (myL_crumbs).2 ⟨Nat.le_of_ble_eq_true rfl, Nat.le_of_ble_eq_true rfl⟩ hP hD hS rfl hl.1 rfl (Nat.le_of_ble_eq_true rfl) dL_law_1068 ⟨(by show _ ≤ 603072; omega), (by show _ ≤ 7211114; omega)⟩) hS (fun r3 G2 H locs hw hP hD hS => ?_)
  refine lv_istore (lv' := [(6, .int r3), (0, .ref b), (1, .ref (xa X 165)), (2, .ref (xa X 189)), (3, .ref (xa X 197)), (4, .ref (xa X 198)), (5, .int v5)]) hx hb dL_law_1071 hl (by decide) rfl (fun ls hl => ?_)
  refine lv_aload_n hx hb dL_law_1073 rfl (lv_at hl 3 rfl) ?_
  refine lv_aload_n hx hb dL_law_1074 rfl (lv_at hl 1 rfl) ?_
  refine lv_iload hx hb dL_law_1075 (lv_at hl 6 rfl) ?_
  refine lv_iconst (v := 1) hx hb dL_law_1077 (by decide) ?_
  refine lv_iadd hx hb dL_law_1078 ?_
  obtain ⟨y4, hw⟩ := hw
  refine va_sld hx hb hX hbl hbA hS y4 dL_law_1079 ?_
  refine call_i (run_V (cc := cL_law) (As := [.int (xs (v5 + 1).toNatClampNeg)]) (rest := []) hx hb hml hown hE hz (okX9_crumbs X l hfl  hw) qw_1817 qw_1818 qw_1819 qw_86 qw_1820 (myX9_crumbs) ⟨Nat.le_of_ble_eq_true rfl, Nat.le_of_ble_eq_true rfl⟩ (rv_X9 hE hP rfl) hP hD hS rfl hl.1 rfl (Nat.le_of_ble_eq_true rfl) dL_law_1080 ⟨(by show _ ≤ 603072; omega), (by show _ ≤ 7211114; omega)⟩) hS (fun r6 G5 H locs hw hP hD hS => ?_)
  refine lv_istore (lv' := [(7, .int r6), (6, .int r3), (0, .ref b), (1, .ref (xa X 165)), (2, .ref (xa X 189)), (3, .ref (xa X 197)), (4, .ref (xa X 198)), (5, .int v5)]) hx hb dL_law_1083 hl (by decide) rfl (fun ls hl => ?_)
  refine lv_aload_n hx hb dL_law_1085 rfl (lv_at hl 4 rfl) ?_
  refine call_i (run_V (cc := cL_law) (As := []) (rest := []) hx hb hml hown hE hz (okX9_thrown X l hfl  hw) qw_1560 qw_1561 qw_1562 qw_86 qw_1563 (myX9_thrown) ⟨Nat.le_of_ble_eq_true rfl, Nat.le_of_ble_eq_true rfl⟩ (rv_X9 hE hP rfl) hP hD hS rfl hl.1 rfl (Nat.le_of_ble_eq_true rfl) dL_law_1086 ⟨(by show _ ≤ 603072; omega), (by show _ ≤ 7211114; omega)⟩) hS (fun r8 G7 H locs hw hP hD hS => ?_)
  refine lv_iload hx hb dL_law_1089 (lv_at hl 1 rfl) ?_
  refine lv_icmp_eq (tgt := 1096) hx hb dL_law_1091 (by decide) (fun c9 => ?_) (fun c9 => ?_)
  · replace hw := ite_t hw c9
    refine lv_iload hx hb dL_law_1096 (lv_at hl 1 rfl) ?_
    refine lv_if_ne (tgt := 1113) hx hb dL_law_1098 (by decide) (fun c10 => ?_) (fun c10 => ?_)
    · replace hw := ite_f hw c10
      refine lv_goto (tgt := 2836) hx hb dL_law_1113 (by decide) ?_
      refine W.widen (k := cc0 + 40) (n := ss0 + 3000) (by omega) (by omega) ?_
      exact kk G7 _ _ _ hw hP hD hS (lv_sub hl [2, 3, 4, 5, 6, 7] rfl)
    · replace hw := ite_t hw c10
      refine lv_aload_n hx hb dL_law_1101 rfl (lv_at hl 5 rfl) ?_
      refine lv_iconst (v := 0) hx hb dL_law_1102 (by decide) ?_
      obtain ⟨y11, hw⟩ := hw
      refine lald_14 hx hb hE hP y11 dL_law_1103 ?_
      refine lv_iload hx hb dL_law_1104 (lv_at hl 0 rfl) ?_
      refine lv_i2l hx hb dL_law_1106 rfl ?_
      refine W.lcmp hx hb dL_law_1107 ?_
      refine lv_if_eq (tgt := 1113) hx hb dL_law_1108 (by decide) (fun c12 => ?_) (fun c12 => ?_)
      · replace hw := ite_t hw c12
        refine lv_goto (tgt := 2836) hx hb dL_law_1113 (by decide) ?_
        refine W.widen (k := cc0 + 40) (n := ss0 + 3000) (by omega) (by omega) ?_
        exact kk G7 _ _ _ hw hP hD hS (lv_sub hl [2, 3, 4, 5, 6, 7] rfl)
      · replace hw := ite_f hw c12
        exact hw.elim
  · replace hw := ite_f hw c9
    exact hw.elim
