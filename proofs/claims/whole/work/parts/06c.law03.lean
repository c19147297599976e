def wpL_law_39 (K : GS → Prop) (L : Nat) (xs : Nat → Int32) (v5 : Int32) (G : GS) : Prop :=
  wpL_meanValue (fun (r2 : Int32) (G1 : GS) =>
  wpX9_meanValue (fun (r4 : UInt64) (G3 : GS) =>
    wpX9_thrown (fun (r6 : Int32) (G5 : GS) =>
      if r6 = r2 then
        if r2 = 0 then
          vp_in 0 1 ∧
            if (Op.cmpValue (FP.dcmp (G5.2.2.2 (0 : Int32).toNatClampNeg) r4) .l) = 0 then
            K G5
          else
            vp_in 0 1 ∧
              vp_in 0 1 ∧
              if (Op.cmpValue (FP.dcmp (G5.2.2.2 (0 : Int32).toNatClampNeg) (G5.2.2.2 (0 : Int32).toNatClampNeg)) .l) = 0 then
              False
            else
              if (Op.cmpValue (FP.dcmp r4 r4) .l) = 0 then
                False
              else
                K G5
        else
          K G5
      else
        False)  G3)  G1)  G
set_option maxHeartbeats 4000000 in
set_option maxRecDepth 100000 in
theorem okL_law_39 {p : Program} {e : Env} {s : State} {m : MethodId} {below : List Frame} {meth : Method} {c : Code} (l : Launch) (hfl : l.stackTraces = false) {b L : Nat} {xs : Nat → Int32} (C0 : lw_At p s m meth c b L xs) {X : Cx} (hE : Ev X s s.heap) (hz : (X.2.2.2.2) ≤ s.heap.size) (hbA : ¬ xA X b) {K : GS → Prop} {v5 : Int32} {G : GS} {H : Heap} {locs : List Loc} {ls : Array Slot} {cc0 ss0 : Nat} {Q : State → Prop} (hc9 : cc0 + 40 ≤ 603072) (hs9 : ss0 + 3000 ≤ 7211114) (hw : wpL_law_39 K L xs v5 G) (hP : va_P (xD X) vwCl (pool X G) H) (hD : va_D (xA X) (pool X G)) (hS : va_S (xA X) s.heap H locs) (hl : lv_has ls 9 [(0, .ref b), (1, .ref (xa X 165)), (2, .ref (xa X 189)), (3, .ref (xa X 197)), (4, .ref (xa X 198)), (5, .int v5)])
    (kk : ∀ (G : GS) (H : Heap) (locs : List Loc) (ls : Array Slot), K G → va_P (xD X) vwCl (pool X G) H → va_D (xA X) (pool X G) → va_S (xA X) s.heap H locs → lv_has ls 9 [(0, .ref b), (1, .ref (xa X 165)), (2, .ref (xa X 189)), (3, .ref (xa X 197)), (4, .ref (xa X 198)), (5, .int v5)] → W p l e room_1 s m #[Value.ref b] below meth c H locs (cc0 + 40) (ss0 + 3000) Q (F0 m 2836 ls [])) : W p l e room_1 s m #[Value.ref b] below meth c H locs cc0 ss0 Q (F0 m 2276 ls []) := by
  obtain ⟨hx, hb, hr, hml, hown, hts, hX, hbl, hlocks, hgv⟩ := id C0
  unfold wpL_law_39 at hw
  refine lv_aload_n hx hb dL_law_2276 rfl (lv_at hl 1 rfl) ?_
  refine lv_aload hx hb dL_law_2277 (lv_at hl 4 rfl) ?_
  refine call_i (run_SW (cc := cL_law) (As := [.ref (xa X 165), .ref (xa X 198)]) (rest := []) hx hb hml hown hE hz (okL_meanValue X l hfl  hw) qw_1375 qw_1376 qw_73 qw_1377 (myL_meanValue).2 ⟨Nat.le_of_ble_eq_true rfl, Nat.le_of_ble_eq_true rfl⟩ hP hD hS rfl hl.1 rfl (Nat.le_of_ble_eq_true rfl) dL_law_2279 ⟨(by show _ ≤ 603072; omega), (by show _ ≤ 7211114; omega)⟩) hS (fun r2 G1 H locs hw hP hD hS => ?_)
  refine lv_istore (lv' := [(6, .int r2), (0, .ref b), (1, .ref (xa X 165)), (2, .ref (xa X 189)), (3, .ref (xa X 197)), (4, .ref (xa X 198)), (5, .int v5)]) hx hb dL_law_2282 hl (by decide) rfl (fun ls hl => ?_)
  refine lv_aload_n hx hb dL_law_2284 rfl (lv_at hl 3 rfl) ?_
  refine call_d (run_V (cc := cL_law) (As := []) (rest := []) hx hb hml hown hE hz (okX9_meanValue X l hfl  hw) qw_1947 qw_1948 qw_1949 qw_86 qw_1950 (myX9_meanValue) ⟨Nat.le_of_ble_eq_true rfl, Nat.le_of_ble_eq_true rfl⟩ (rv_X9 hE hP rfl) hP hD hS rfl hl.1 rfl (Nat.le_of_ble_eq_true rfl) dL_law_2285 ⟨(by show _ ≤ 603072; omega), (by show _ ≤ 7211114; omega)⟩) hS (fun r4 G3 H locs hw hP hD hS => ?_)
  refine lv_dstore (lv' := [(7, .double r4), (6, .int r2), (0, .ref b), (1, .ref (xa X 165)), (2, .ref (xa X 189)), (3, .ref (xa X 197)), (4, .ref (xa X 198)), (5, .int v5)]) hx hb dL_law_2288 hl (by decide) rfl (fun ls hl => ?_)
  refine lv_aload_n hx hb dL_law_2290 rfl (lv_at hl 4 rfl) ?_
  refine call_i (run_V (cc := cL_law) (As := []) (rest := []) hx hb hml hown hE hz (okX9_thrown X l hfl  hw) qw_1560 qw_1561 qw_1562 qw_86 qw_1563 (myX9_thrown) ⟨Nat.le_of_ble_eq_true rfl, Nat.le_of_ble_eq_true rfl⟩ (rv_X9 hE hP rfl) hP hD hS rfl hl.1 rfl (Nat.le_of_ble_eq_true rfl) dL_law_2291 ⟨(by show _ ≤ 603072; omega), (by show _ ≤ 7211114; omega)⟩) hS (fun r6 G5 H locs hw hP hD hS => ?_)
  refine lv_iload hx hb dL_law_2294 (lv_at hl 1 rfl) ?_
  refine lv_icmp_eq (tgt := 2301) hx hb dL_law_2296 (by decide) (fun c7 => ?_) (fun c7 => ?_)
  · replace hw := ite_t hw c7
    refine lv_iload hx hb dL_law_2301 (lv_at hl 1 rfl) ?_
    refine lv_if_ne (tgt := 2338) hx hb dL_law_2303 (by decide) (fun c8 => ?_) (fun c8 => ?_)
    · replace hw := ite_f hw c8
      refine lv_goto (tgt := 2836) hx hb dL_law_2338 (by decide) ?_
      refine W.widen (k := cc0 + 40) (n := ss0 + 3000) (by omega) (by omega) ?_
      exact kk G5 _ _ _ hw hP hD hS (lv_sub hl [2, 3, 4, 5, 6, 7] rfl)
    · replace hw := ite_t hw c8
      refine lv_aload hx hb dL_law_2306 (lv_at hl 6 rfl) ?_
      refine lv_iconst (v := 0) hx hb dL_law_2308 (by decide) ?_
      obtain ⟨y9, hw⟩ := hw
      refine dald_15 hx hb hE hP y9 dL_law_2309 ?_
      refine lv_dload hx hb dL_law_2310 (lv_at hl 0 rfl) ?_
      refine lv_dcmp hx hb dL_law_2312 ?_
      refine lv_if_eq (tgt := 2338) hx hb dL_law_2313 (by decide) (fun c10 => ?_) (fun c10 => ?_)
      · replace hw := ite_t hw c10
        refine lv_goto (tgt := 2836) hx hb dL_law_2338 (by decide) ?_
        refine W.widen (k := cc0 + 40) (n := ss0 + 3000) (by omega) (by omega) ?_
        exact kk G5 _ _ _ hw hP hD hS (lv_sub hl [2, 3, 4, 5, 6, 7] rfl)
      · replace hw := ite_f hw c10
        refine lv_aload hx hb dL_law_2316 (lv_at hl 6 rfl) ?_
        refine lv_iconst (v := 0) hx hb dL_law_2318 (by decide) ?_
        obtain ⟨y11, hw⟩ := hw
        refine dald_15 hx hb hE hP y11 dL_law_2319 ?_
        refine lv_aload hx hb dL_law_2320 (lv_at hl 6 rfl) ?_
        refine lv_iconst (v := 0) hx hb dL_law_2322 (by decide) ?_
        obtain ⟨y12, hw⟩ := hw
        refine dald_15 hx hb hE hP y12 dL_law_2323 ?_
        refine lv_dcmp hx hb dL_law_2324 ?_
        refine lv_if_eq (tgt := 2336) hx hb dL_law_2325 (by decide) (fun c13 => ?_) (fun c13 => ?_)
        · replace hw := ite_t hw c13
          exact hw.elim
        · replace hw := ite_f hw c13
          refine lv_dload hx hb dL_law_2328 (lv_at hl 0 rfl) ?_
          refine lv_dload hx hb dL_law_2330 (lv_at hl 0 rfl) ?_
          refine lv_dcmp hx hb dL_law_2332 ?_
          refine lv_if_ne (tgt := 2338) hx hb dL_law_2333 (by decide) (fun c14 => ?_) (fun c14 => ?_)
          · replace hw := ite_f hw c14
            refine lv_goto (tgt := 2836) hx hb dL_law_2338 (by decide) ?_
            refine W.widen (k := cc0 + 40) (n := ss0 + 3000) (by omega) (by omega) ?_
            exact kk G5 _ _ _ hw hP hD hS (lv_sub hl [2, 3, 4, 5, 6, 7] rfl)
          · replace hw := ite_t hw c14
            exact hw.elim
  · replace hw := ite_f hw c7
    exact hw.elim
def wpL_law_40 (K : GS → Prop) (L : Nat) (xs : Nat → Int32) (v5 : Int32) (G : GS) : Prop :=
  wpL_soundShare (fun (r2 : Int32) (G1 : GS) =>
  wpX9_soundShare (fun (r4 : UInt32) (G3 : GS) =>
    wpX9_thrown (fun (r6 : Int32) (G5 : GS) =>
      if r6 = r2 then
        if r2 = 0 then
          vp_in 0 1 ∧
            vf_n64 (FP.f2d r4) ∧
            if (Op.cmpValue (FP.dcmp (G5.2.2.2 (0 : Int32).toNatClampNeg) (FP.f2d r4)) .l) = 0 then
            K G5
          else
            vp_in 0 1 ∧
              vp_in 0 1 ∧
              if (Op.cmpValue (FP.dcmp (G5.2.2.2 (0 : Int32).toNatClampNeg) (G5.2.2.2 (0 : Int32).toNatClampNeg)) .l) = 0 then
              False
            else
              if (Op.cmpValue (FP.fcmp r4 r4) .l) = 0 then
                False
              else
                K G5
        else
          K G5
      else
        False)  G3)  G1)  G
set_option maxHeartbeats 4000000 in
set_option maxRecDepth 100000 in
theorem okL_law_40 {p : Program} {e : Env} {s : State} {m : MethodId} {below : List Frame} {meth : Method} {c : Code} (l : Launch) (hfl : l.stackTraces = false) {b L : Nat} {xs : Nat → Int32} (C0 : lw_At p s m meth c b L xs) {X : Cx} (hE : Ev X s s.heap) (hz : (X.2.2.2.2) ≤ s.heap.size) (hbA : ¬ xA X b) {K : GS → Prop} {v5 : Int32} {G : GS} {H : Heap} {locs : List Loc} {ls : Array Slot} {cc0 ss0 : Nat} {Q : State → Prop} (hc9 : cc0 + 40 ≤ 603072) (hs9 : ss0 + 3000 ≤ 7211114) (hw : wpL_law_40 K L xs v5 G) (hP : va_P (xD X) vwCl (pool X G) H) (hD : va_D (xA X) (pool X G)) (hS : va_S (xA X) s.heap H locs) (hl : lv_has ls 9 [(0, .ref b), (1, .ref (xa X 165)), (2, .ref (xa X 189)), (3, .ref (xa X 197)), (4, .ref (xa X 198)), (5, .int v5)])
    (kk : ∀ (G : GS) (H : Heap) (locs : List Loc) (ls : Array Slot), K G → va_P (xD X) vwCl (pool X G) H → va_D (xA X) (pool X G) → va_S (xA X) s.heap H locs → lv_has ls 9 [(0, .ref b), (1, .ref (xa X 165)), (2, .ref (xa X 189)), (3, .ref (xa X 197)), (4, .ref (xa X 198)), (5, .int v5)] → W p l e room_1 s m #[Value.ref b] below meth c H locs (cc0 + 40) (ss0 + 3000) Q (F0 m 2836 ls [])) : W p l e room_1 s m #[Value.ref b] below meth c H locs cc0 ss0 Q (F0 m 2341 ls []) := by
  obtain ⟨hx, hb, hr, hml, hown, hts, hX, hbl, hlocks, hgv⟩ := id C0
  unfold wpL_law_40 at hw
  refine lv_aload_n hx hb dL_law_2341 rfl (lv_at hl 1 rfl) ?_
  refine lv_aload hx hb dL_law_2342 (lv_at hl 4 rfl) ?_
  refine call_i (run_SW (cc := cL_law) (As := [.ref (xa X 165), .ref (xa X 198)]) (rest := []) hx hb hml hown hE hz (okL_soundShare X l hfl  hw) qw_1399 qw_1400 qw_73 qw_1401 (myL_soundShare).2 ⟨Nat.le_of_ble_eq_true rfl, Nat.le_of_ble_eq_true rfl⟩ hP hD hS rfl hl.1 rfl (Nat.le_of_ble_eq_true rfl) dL_law_2344 ⟨(by show _ ≤ 603072; omega), (by show _ ≤ 7211114; omega)⟩) hS (fun r2 G1 H locs hw hP hD hS => ?_)
  refine lv_istore (lv' := [(6, .int r2), (0, .ref b), (1, .ref (xa X 165)), (2, .ref (xa X 189)), (3, .ref (xa X 197)), (4, .ref (xa X 198)), (5, .int v5)]) hx hb dL_law_2347 hl (by decide) rfl (fun ls hl => ?_)
  refine lv_aload_n hx hb dL_law_2349 rfl (lv_at hl 3 rfl) ?_
  refine call_f (run_V (cc := cL_law) (As := []) (rest := []) hx hb hml hown hE hz (okX9_soundShare X l hfl  hw) qw_1951 qw_1952 qw_1953 qw_86 qw_1954 (myX9_soundShare) ⟨Nat.le_of_ble_eq_true rfl, Nat.le_of_ble_eq_true rfl⟩ (rv_X9 hE hP rfl) hP hD hS rfl hl.1 rfl (Nat.le_of_ble_eq_true rfl) dL_law_2350 ⟨(by show _ ≤ 603072; omega), (by show _ ≤ 7211114; omega)⟩) hS (fun r4 G3 H locs hw hP hD hS => ?_)
  refine lv_fstore (lv' := [(7, .float r4), (6, .int r2), (0, .ref b), (1, .ref (xa X 165)), (2, .ref (xa X 189)), (3, .ref (xa X 197)), (4, .ref (xa X 198)), (5, .int v5)]) hx hb dL_law_2353 hl (by decide) rfl (fun ls hl => ?_)
  refine lv_aload_n hx hb dL_law_2355 rfl (lv_at hl 4 rfl) ?_
  refine call_i (run_V (cc := cL_law) (As := []) (rest := []) hx hb hml hown hE hz (okX9_thrown X l hfl  hw) qw_1560 qw_1561 qw_1562 qw_86 qw_1563 (myX9_thrown) ⟨Nat.le_of_ble_eq_true rfl, Nat.le_of_ble_eq_true rfl⟩ (rv_X9 hE hP rfl) hP hD hS rfl hl.1 rfl (Nat.le_of_ble_eq_true rfl) dL_law_2356 ⟨(by show _ ≤ 603072; omega), (by show _ ≤ 7211114; omega)⟩) hS (fun r6 G5 H locs hw hP hD hS => ?_)
  refine lv_iload hx hb dL_law_2359 (lv_at hl 1 rfl) ?_
  refine lv_icmp_eq (tgt := 2366) hx hb dL_law_2361 (by decide) (fun c7 => ?_) (fun c7 => ?_)
  · replace hw := ite_t hw c7
    refine lv_iload hx hb dL_law_2366 (lv_at hl 1 rfl) ?_
    refine lv_if_ne (tgt := 2404) hx hb dL_law_2368 (by decide) (fun c8 => ?_) (fun c8 => ?_)
    · replace hw := ite_f hw c8
      refine lv_goto (tgt := 2836) hx hb dL_law_2404 (by decide) ?_
      refine W.widen (k := cc0 + 40) (n := ss0 + 3000) (by omega) (by omega) ?_
      exact kk G5 _ _ _ hw hP hD hS (lv_sub hl [2, 3, 4, 5, 6, 7] rfl)
    · replace hw := ite_t hw c8
      refine lv_aload hx hb dL_law_2371 (lv_at hl 6 rfl) ?_
      refine lv_iconst (v := 0) hx hb dL_law_2373 (by decide) ?_
      obtain ⟨y9, hw⟩ := hw
      refine dald_15 hx hb hE hP y9 dL_law_2374 ?_
      refine lv_fload hx hb dL_law_2375 (lv_at hl 0 rfl) ?_
      obtain ⟨y10, hw⟩ := hw
      refine lv_f2d hx hb dL_law_2377 y10 ?_
      refine lv_dcmp hx hb dL_law_2378 ?_
      refine lv_if_eq (tgt := 2404) hx hb dL_law_2379 (by decide) (fun c11 => ?_) (fun c11 => ?_)
      · replace hw := ite_t hw c11
        refine lv_goto (tgt := 2836) hx hb dL_law_2404 (by decide) ?_
        refine W.widen (k := cc0 + 40) (n := ss0 + 3000) (by omega) (by omega) ?_
        exact kk G5 _ _ _ hw hP hD hS (lv_sub hl [2, 3, 4, 5, 6, 7] rfl)
      · replace hw := ite_f hw c11
        refine lv_aload hx hb dL_law_2382 (lv_at hl 6 rfl) ?_
        refine lv_iconst (v := 0) hx hb dL_law_2384 (by decide) ?_
        obtain ⟨y12, hw⟩ := hw
        refine dald_15 hx hb hE hP y12 dL_law_2385 ?_
        refine lv_aload hx hb dL_law_2386 (lv_at hl 6 rfl) ?_
        refine lv_iconst (v := 0) hx hb dL_law_2388 (by decide) ?_
        obtain ⟨y13, hw⟩ := hw
        refine dald_15 hx hb hE hP y13 dL_law_2389 ?_
        refine lv_dcmp hx hb dL_law_2390 ?_
        refine lv_if_eq (tgt := 2402) hx hb dL_law_2391 (by decide) (fun c14 => ?_) (fun c14 => ?_)
        · replace hw := ite_t hw c14
          exact hw.elim
        · replace hw := ite_f hw c14
          refine lv_fload hx hb dL_law_2394 (lv_at hl 0 rfl) ?_
          refine lv_fload hx hb dL_law_2396 (lv_at hl 0 rfl) ?_
          refine lv_fcmp hx hb dL_law_2398 ?_
          refine lv_if_ne (tgt := 2404) hx hb dL_law_2399 (by decide) (fun c15 => ?_) (fun c15 => ?_)
          · replace hw := ite_f hw c15
            refine lv_goto (tgt := 2836) hx hb dL_law_2404 (by decide) ?_
            refine W.widen (k := cc0 + 40) (n := ss0 + 3000) (by omega) (by omega) ?_
            exact kk G5 _ _ _ hw hP hD hS (lv_sub hl [2, 3, 4, 5, 6, 7] rfl)
          · replace hw := ite_t hw c15
            exact hw.elim
  · replace hw := ite_f hw c7
    exact hw.elim
def wpL_law_41 (K : GS → Prop) (L : Nat) (xs : Nat → Int32) (v5 : Int32) (G : GS) : Prop :=
  wpX8_isConsistent (fun (r2 : Int32) (G1 : GS) =>
  wpX9_isConsistent (fun (r4 : Int32) (G3 : GS) =>
    if r2 = r4 then
      K G3
    else
      False)  G1)  G
set_option maxHeartbeats 4000000 in
set_option maxRecDepth 100000 in
theorem okL_law_41 {p : Program} {e : Env} {s : State} {m : MethodId} {below : List Frame} {meth : Method} {c : Code} (l : Launch) (hfl : l.stackTraces = false) {b L : Nat} {xs : Nat → Int32} (C0 : lw_At p s m meth c b L xs) {X : Cx} (hE : Ev X s s.heap) (hz : (X.2.2.2.2) ≤ s.heap.size) (hbA : ¬ xA X b) {K : GS → Prop} {v5 : Int32} {G : GS} {H : Heap} {locs : List Loc} {ls : Array Slot} {cc0 ss0 : Nat} {Q : State → Prop} (hc9 : cc0 + 40 ≤ 603072) (hs9 : ss0 + 3000 ≤ 7211114) (hw : wpL_law_41 K L xs v5 G) (hP : va_P (xD X) vwCl (pool X G) H) (hD : va_D (xA X) (pool X G)) (hS : va_S (xA X) s.heap H locs) (hl : lv_has ls 9 [(0, .ref b), (1, .ref (xa X 165)), (2, .ref (xa X 189)), (3, .ref (xa X 197)), (4, .ref (xa X 198)), (5, .int v5)])
    (kk : ∀ (G : GS) (H : Heap) (locs : List Loc) (ls : Array Slot), K G → va_P (xD X) vwCl (pool X G) H → va_D (xA X) (pool X G) → va_S (xA X) s.heap H locs → lv_has ls 9 [(0, .ref b), (1, .ref (xa X 165)), (2, .ref (xa X 189)), (3, .ref (xa X 197)), (4, .ref (xa X 198)), (5, .int v5)] → W p l e room_1 s m #[Value.ref b] below meth c H locs (cc0 + 40) (ss0 + 3000) Q (F0 m 2836 ls [])) : W p l e room_1 s m #[Value.ref b] below meth c H locs cc0 ss0 Q (F0 m 2407 ls []) := by
  obtain ⟨hx, hb, hr, hml, hown, hts, hX, hbl, hlocks, hgv⟩ := id C0
  unfold wpL_law_41 at hw
  refine lv_aload_n hx hb dL_law_2407 rfl (lv_at hl 1 rfl) ?_
  refine call_i (run_V (cc := cL_law) (As := []) (rest := []) hx hb hml hown hE hz (okX8_isConsistent X l hfl  hw) qw_402 qw_403 qw_404 qw_74 qw_405 (myX8_isConsistent) ⟨Nat.le_of_ble_eq_true rfl, Nat.le_of_ble_eq_true rfl⟩ (rv_X8 hE hP rfl) hP hD hS rfl hl.1 rfl (Nat.le_of_ble_eq_true rfl) dL_law_2408 ⟨(by show _ ≤ 603072; omega), (by show _ ≤ 7211114; omega)⟩) hS (fun r2 G1 H locs hw hP hD hS => ?_)
  refine lv_aload_n hx hb dL_law_2411 rfl (lv_at hl 2 rfl) ?_
  refine call_i (run_V (cc := cL_law) (As := []) (rest := [.int r2]) hx hb hml hown hE hz (okX9_isConsistent X l hfl  hw) qw_1955 qw_1956 qw_1957 qw_86 qw_1958 (myX9_isConsistent) ⟨Nat.le_of_ble_eq_true rfl, Nat.le_of_ble_eq_true rfl⟩ (rv_X9 hE hP rfl) hP hD hS rfl hl.1 rfl (Nat.le_of_ble_eq_true rfl) dL_law_2412 ⟨(by show _ ≤ 603072; omega), (by show _ ≤ 7211114; omega)⟩) hS (fun r4 G3 H locs hw hP hD hS => ?_)
  refine lv_icmp_eq (tgt := 2836) hx hb dL_law_2415 (by decide) (fun c5 => ?_) (fun c5 => ?_)
  · replace hw := ite_t hw c5
    refine W.widen (k := cc0 + 40) (n := ss0 + 3000) (by omega) (by omega) ?_
    exact kk G3 _ _ _ hw hP hD hS (lv_sub hl [0, 1, 2, 3, 4, 5] rfl)
  · replace hw := ite_f hw c5
    exact hw.elim
def wpL_law_42 (K : GS → Prop) (L : Nat) (xs : Nat → Int32) (v5 : Int32) (G : GS) : Prop :=
  vp_in (v5 + 1) L ∧
  wpL_renderVault (fun (r3 : Int32) (G2 : GS) =>
  vp_in (v5 + 1) L ∧
    wpX9_renderVault (fun (r6 : Int32) (G5 : GS) =>
    wpX9_thrown (fun (r8 : Int32) (G7 : GS) =>
      if r8 = r3 then
        if r3 = 0 then
          vp_in 0 1 ∧
            if (lg_cmp (G7.2.2.1 (0 : Int32).toNatClampNeg) r6.toInt64) = 0 then
            K G7
          else
            False
        else
          K G7
      else
        False)  G5) (xs (v5 + 1).toNatClampNeg) G2) (xs (v5 + 1).toNatClampNeg) G
set_option maxHeartbeats 4000000 in
set_option maxRecDepth 100000 in
theorem okL_law_42 {p : Program} {e : Env} {s : State} {m : MethodId} {below : List Frame} {meth : Method} {c : Code} (l : Launch) (hfl : l.stackTraces = false) {b L : Nat} {xs : Nat → Int32} (C0 : lw_At p s m meth c b L xs) {X : Cx} (hE : Ev X s s.heap) (hz : (X.2.2.2.2) ≤ s.heap.size) (hbA : ¬ xA X b) {K : GS → Prop} {v5 : Int32} {G : GS} {H : Heap} {locs : List Loc} {ls : Array Slot} {cc0 ss0 : Nat} {Q : State → Prop} (hc9 : cc0 + 40 ≤ 603072) (hs9 : ss0 + 3000 ≤ 7211114) (hw : wpL_law_42 K L xs v5 G) (hP : va_P (xD X) vwCl (pool X G) H) (hD : va_D (xA X) (pool X G)) (hS : va_S (xA X) s.heap H locs) (hl : lv_has ls 9 [(0, .ref b), (1, .ref (xa X 165)), (2, .ref (xa X 189)), (3, .ref (xa X 197)), (4, .ref (xa X 198)), (5, .int v5)])
    (kk : ∀ (G : GS) (H : Heap) (locs : List Loc) (ls : Array Slot), K G → va_P (xD X) vwCl (pool X G) H → va_D (xA X) (pool X G) → va_S (xA X) s.heap H locs → lv_has ls 9 [(0, .ref b), (1, .ref (xa X 165)), (2, .ref (xa X 189)), (3, .ref (xa X 197)), (4, .ref (xa X 198)), (5, .int v5)] → W p l e room_1 s m #[Value.ref b] below meth c H locs (cc0 + 40) (ss0 + 3000) Q (F0 m 2836 ls [])) : W p l e room_1 s m #[Value.ref b] below meth c H locs cc0 ss0 Q (F0 m 2420 ls []) := by
  obtain ⟨hx, hb, hr, hml, hown, hts, hX, hbl, hlocks, hgv⟩ := id C0
  unfold wpL_law_42 at hw
  refine lv_aload_n hx hb dL_law_2420 rfl (lv_at hl 1 rfl) ?_
  refine lv_aload_n hx hb dL_law_2421 rfl (lv_at hl 0 rfl) ?_
  refine lv_iload hx hb dL_law_2422 (lv_at hl 5 rfl) ?_
  refine lv_iconst (v := 1) hx hb dL_law_2424 (by decide) ?_
  refine lv_iadd hx hb dL_law_2425 ?_
  obtain ⟨y1, hw⟩ := hw
  refine va_sld hx hb hX hbl hbA hS y1 dL_law_2426 ?_
  refine lv_aload_n hx hb dL_law_2427 rfl (lv_at hl 3 rfl) ?_
  refine call_i (run_SW (cc := cL_law) (As := [.ref (xa X 165), .int (xs (v5 + 1).toNatClampNeg), .ref (xa X 197)]) (rest := []) hx hb hml hown hE hz (okL_renderVault X l hfl  hw) qw_1407 qw_1408 qw_73 qw_1409 (myL_renderVault).2 ⟨Nat.le_of_ble_eq_true rfl, Nat.le_of_ble_eq_true rfl⟩ hP hD hS rfl hl.1 rfl (Nat.le_of_ble_eq_true rfl) dL_law_2428 ⟨(by show _ ≤ 603072; omega), (by show _ ≤ 7211114; omega)⟩) hS (fun r3 G2 H locs hw hP hD hS => ?_)
  refine lv_istore (lv' := [(6, .int r3), (0, .ref b), (1, .ref (xa X 165)), (2, .ref (xa X 189)), (3, .ref (xa X 197)), (4, .ref (xa X 198)), (5, .int v5)]) hx hb dL_law_2431 hl (by decide) rfl (fun ls hl => ?_)
  refine lv_aload_n hx hb dL_law_2433 rfl (lv_at hl 3 rfl) ?_
  refine lv_aload_n hx hb dL_law_2434 rfl (lv_at hl 1 rfl) ?_
  refine lv_iload hx hb dL_law_2435 (lv_at hl 6 rfl) ?_
  refine lv_iconst (v := 1) hx hb dL_law_2437 (by decide) ?_
  refine lv_iadd hx hb dL_law_2438 ?_
  obtain ⟨y4, hw⟩ := hw
  refine va_sld hx hb hX hbl hbA hS y4 dL_law_2439 ?_
  refine call_i (run_V (cc := cL_law) (As := [.int (xs (v5 + 1).toNatClampNeg)]) (rest := []) hx hb hml hown hE hz (okX9_renderVault X l hfl  hw) qw_1959 qw_1960 qw_1961 qw_86 qw_1962 (myX9_renderVault) ⟨Nat.le_of_ble_eq_true rfl, Nat.le_of_ble_eq_true rfl⟩ (rv_X9 hE hP rfl) hP hD hS rfl hl.1 rfl (Nat.le_of_ble_eq_true rfl) dL_law_2440 ⟨(by show _ ≤ 603072; omega), (by show _ ≤ 7211114; omega)⟩) hS (fun r6 G5 H locs hw hP hD hS => ?_)
  refine lv_istore (lv' := [(7, .int r6), (6, .int r3), (0, .ref b), (1, .ref (xa X 165)), (2, .ref (xa X 189)), (3, .ref (xa X 197)), (4, .ref (xa X 198)), (5, .int v5)]) hx hb dL_law_2443 hl (by decide) rfl (fun ls hl => ?_)
  refine lv_aload_n hx hb dL_law_2445 rfl (lv_at hl 4 rfl) ?_
  refine call_i (run_V (cc := cL_law) (As := []) (rest := []) hx hb hml hown hE hz (okX9_thrown X l hfl  hw) qw_1560 qw_1561 qw_1562 qw_86 qw_1563 (myX9_thrown) ⟨Nat.le_of_ble_eq_true rfl, Nat.le_of_ble_eq_true rfl⟩ (rv_X9 hE hP rfl) hP hD hS rfl hl.1 rfl (Nat.le_of_ble_eq_true rfl) dL_law_2446 ⟨(by show _ ≤ 603072; omega), (by show _ ≤ 7211114; omega)⟩) hS (fun r8 G7 H locs hw hP hD hS => ?_)
  refine lv_iload hx hb dL_law_2449 (lv_at hl 1 rfl) ?_
  refine lv_icmp_eq (tgt := 2456) hx hb dL_law_2451 (by decide) (fun c9 => ?_) (fun c9 => ?_)
  · replace hw := ite_t hw c9
    refine lv_iload hx hb dL_law_2456 (lv_at hl 1 rfl) ?_
    refine lv_if_ne (tgt := 2473) hx hb dL_law_2458 (by decide) (fun c10 => ?_) (fun c10 => ?_)
    · replace hw := ite_f hw c10
      refine lv_goto (tgt := 2836) hx hb dL_law_2473 (by decide) ?_
      refine W.widen (k := cc0 + 40) (n := ss0 + 3000) (by omega) (by omega) ?_
      exact kk G7 _ _ _ hw hP hD hS (lv_sub hl [2, 3, 4, 5, 6, 7] rfl)
    · replace hw := ite_t hw c10
      refine lv_aload_n hx hb dL_law_2461 rfl (lv_at hl 5 rfl) ?_
      refine lv_iconst (v := 0) hx hb dL_law_2462 (by decide) ?_
      obtain ⟨y11, hw⟩ := hw
      refine lald_14 hx hb hE hP y11 dL_law_2463 ?_
      refine lv_iload hx hb dL_law_2464 (lv_at hl 0 rfl) ?_
      refine lv_i2l hx hb dL_law_2466 rfl ?_
      refine W.lcmp hx hb dL_law_2467 ?_
      refine lv_if_eq (tgt := 2473) hx hb dL_law_2468 (by decide) (fun c12 => ?_) (fun c12 => ?_)
      · replace hw := ite_t hw c12
        refine lv_goto (tgt := 2836) hx hb dL_law_2473 (by decide) ?_
        refine W.widen (k := cc0 + 40) (n := ss0 + 3000) (by omega) (by omega) ?_
        exact kk G7 _ _ _ hw hP hD hS (lv_sub hl [2, 3, 4, 5, 6, 7] rfl)
      · replace hw := ite_f hw c12
        exact hw.elim
  · replace hw := ite_f hw c9
    exact hw.elim
def wpL_law_43 (K : GS → Prop) (L : Nat) (xs : Nat → Int32) (v5 : Int32) (G : GS) : Prop :=
  wpX8_renderRates (fun (r2 : Int32) (G1 : GS) =>
  wpX9_renderRates (fun (r4 : Int32) (G3 : GS) =>
    if r2 = r4 then
      K G3
    else
      False)  G1)  G
set_option maxHeartbeats 4000000 in
set_option maxRecDepth 100000 in
theorem okL_law_43 {p : Program} {e : Env} {s : State} {m : MethodId} {below : List Frame} {meth : Method} {c : Code} (l : Launch) (hfl : l.stackTraces = false) {b L : Nat} {xs : Nat → Int32} (C0 : lw_At p s m meth c b L xs) {X : Cx} (hE : Ev X s s.heap) (hz : (X.2.2.2.2) ≤ s.heap.size) (hbA : ¬ xA X b) {K : GS → Prop} {v5 : Int32} {G : GS} {H : Heap} {locs : List Loc} {ls : Array Slot} {cc0 ss0 : Nat} {Q : State → Prop} (hc9 : cc0 + 40 ≤ 603072) (hs9 : ss0 + 3000 ≤ 7211114) (hw : wpL_law_43 K L xs v5 G) (hP : va_P (xD X) vwCl (pool X G) H) (hD : va_D (xA X) (pool X G)) (hS : va_S (xA X) s.heap H locs) (hl : lv_has ls 9 [(0, .ref b), (1, .ref (xa X 165)), (2, .ref (xa X 189)), (3, .ref (xa X 197)), (4, .ref (xa X 198)), (5, .int v5)])
    (kk : ∀ (G : GS) (H : Heap) (locs : List Loc) (ls : Array Slot), K G → va_P (xD X) vwCl (pool X G) H → va_D (xA X) (pool X G) → va_S (xA X) s.heap H locs → lv_has ls 9 [(0, .ref b), (1, .ref (xa X 165)), (2, .ref (xa X 189)), (3, .ref (xa X 197)), (4, .ref (xa X 198)), (5, .int v5)] → W p l e room_1 s m #[Value.ref b] below meth c H locs (cc0 + 40) (ss0 + 3000) Q (F0 m 2836 ls [])) : W p l e room_1 s m #[Value.ref b] below meth c H locs cc0 ss0 Q (F0 m 2476 ls []) := by
  obtain ⟨hx, hb, hr, hml, hown, hts, hX, hbl, hlocks, hgv⟩ := id C0
  unfold wpL_law_43 at hw
  refine lv_aload_n hx hb dL_law_2476 rfl (lv_at hl 1 rfl) ?_
  refine call_i (run_V (cc := cL_law) (As := []) (rest := []) hx hb hml hown hE hz (okX8_renderRates X l hfl  hw) qw_448 qw_449 qw_450 qw_74 qw_451 (myX8_renderRates) ⟨Nat.le_of_ble_eq_true rfl, Nat.le_of_ble_eq_true rfl⟩ (rv_X8 hE hP rfl) hP hD hS rfl hl.1 rfl (Nat.le_of_ble_eq_true rfl) dL_law_2477 ⟨(by show _ ≤ 603072; omega), (by show _ ≤ 7211114; omega)⟩) hS (fun r2 G1 H locs hw hP hD hS => ?_)
  refine lv_aload_n hx hb dL_law_2480 rfl (lv_at hl 2 rfl) ?_
  refine call_i (run_V (cc := cL_law) (As := []) (rest := [.int r2]) hx hb hml hown hE hz (okX9_renderRates X l hfl  hw) qw_1971 qw_1972 qw_1973 qw_86 qw_1974 (myX9_renderRates) ⟨Nat.le_of_ble_eq_true rfl, Nat.le_of_ble_eq_true rfl⟩ (rv_X9 hE hP rfl) hP hD hS rfl hl.1 rfl (Nat.le_of_ble_eq_true rfl) dL_law_2481 ⟨(by show _ ≤ 603072; omega), (by show _ ≤ 7211114; omega)⟩) hS (fun r4 G3 H locs hw hP hD hS => ?_)
  refine lv_icmp_eq (tgt := 2836) hx hb dL_law_2484 (by decide) (fun c5 => ?_) (fun c5 => ?_)
  · replace hw := ite_t hw c5
    refine W.widen (k := cc0 + 40) (n := ss0 + 3000) (by omega) (by omega) ?_
    exact kk G3 _ _ _ hw hP hD hS (lv_sub hl [0, 1, 2, 3, 4, 5] rfl)
  · replace hw := ite_f hw c5
    exact hw.elim
def wpL_law_44 (K : GS → Prop) (L : Nat) (xs : Nat → Int32) (v5 : Int32) (G : GS) : Prop :=
  vp_in (v5 + 1) L ∧
  wpL_outputAt (fun (r3 : Int32) (G2 : GS) =>
  vp_in (v5 + 1) L ∧
    wpX9_outputAt (fun (r6 : Int32) (G5 : GS) =>
    wpX9_thrown (fun (r8 : Int32) (G7 : GS) =>
      if r8 = r3 then
        if r3 = 0 then
          vp_in 0 1 ∧
            if (lg_cmp (G7.2.2.1 (0 : Int32).toNatClampNeg) r6.toInt64) = 0 then
            K G7
          else
            False
        else
          K G7
      else
        False)  G5) (xs (v5 + 1).toNatClampNeg) G2) (xs (v5 + 1).toNatClampNeg) G
set_option maxHeartbeats 4000000 in
set_option maxRecDepth 100000 in
theorem okL_law_44 {p : Program} {e : Env} {s : State} {m : MethodId} {below : List Frame} {meth : Method} {c : Code} (l : Launch) (hfl : l.stackTraces = false) {b L : Nat} {xs : Nat → Int32} (C0 : lw_At p s m meth c b L xs) {X : Cx} (hE : Ev X s s.heap) (hz : (X.2.2.2.2) ≤ s.heap.size) (hbA : ¬ xA X b) {K : GS → Prop} {v5 : Int32} {G : GS} {H : Heap} {locs : List Loc} {ls : Array Slot} {cc0 ss0 : Nat} {Q : State → Prop} (hc9 : cc0 + 40 ≤ 603072) (hs9 : ss0 + 3000 ≤ 7211114) (hw : wpL_law_44 K L xs v5 G) (hP : va_P (xD X) vwCl (pool X G) H) (hD : va_D (xA X) (pool X G)) (hS : va_S (xA X) s.heap H locs) (hl : lv_has ls 9 [(0, .ref b), (1, .ref (xa X 165)), (2, .ref (xa X 189)), (3, .ref (xa X 197)), (4, .ref (xa X 198)), (5, .int v5)])
    (kk : ∀ (G : GS) (H : Heap) (locs : List Loc) (ls : Array Slot), K G → va_P (xD X) vwCl (pool X G) H → va_D (xA X) (pool X G) → va_S (xA X) s.heap H locs → lv_has ls 9 [(0, .ref b), (1, .ref (xa X 165)), (2, .ref (xa X 189)), (3, .ref (xa X 197)), (4, .ref (xa X 198)), (5, .int v5)] → W p l e room_1 s m #[Value.ref b] below meth c H locs (cc0 + 40) (ss0 + 3000) Q (F0 m 2836 ls [])) : W p l e room_1 s m #[Value.ref b] below meth c H locs cc0 ss0 Q (F0 m 2489 ls []) := by
  obtain ⟨hx, hb, hr, hml, hown, hts, hX, hbl, hlocks, hgv⟩ := id C0
  unfold wpL_law_44 at hw
  refine lv_aload_n hx hb dL_law_2489 rfl (lv_at hl 1 rfl) ?_
  refine lv_aload_n hx hb dL_law_2490 rfl (lv_at hl 0 rfl) ?_
  refine lv_iload hx hb dL_law_2491 (lv_at hl 5 rfl) ?_
  refine lv_iconst (v := 1) hx hb dL_law_2493 (by decide) ?_
  refine lv_iadd hx hb dL_law_2494 ?_
  obtain ⟨y1, hw⟩ := hw
  refine va_sld hx hb hX hbl hbA hS y1 dL_law_2495 ?_
  refine lv_aload_n hx hb dL_law_2496 rfl (lv_at hl 3 rfl) ?_
  refine call_i (run_SW (cc := cL_law) (As := [.ref (xa X 165), .int (xs (v5 + 1).toNatClampNeg), .ref (xa X 197)]) (rest := []) hx hb hml hown hE hz (okL_outputAt X l hfl  hw) qw_1414 qw_1415 qw_73 qw_1416 (myL_outputAt).2 ⟨Nat.le_of_ble_eq_true rfl, Nat.le_of_ble_eq_true rfl⟩ hP hD hS rfl hl.1 rfl (Nat.le_of_ble_eq_true rfl) dL_law_2497 ⟨(by show _ ≤ 603072; omega), (by show _ ≤ 7211114; omega)⟩) hS (fun r3 G2 H locs hw hP hD hS => ?_)
  refine lv_istore (lv' := [(6, .int r3), (0, .ref b), (1, .ref (xa X 165)), (2, .ref (xa X 189)), (3, .ref (xa X 197)), (4, .ref (xa X 198)), (5, .int v5)]) hx hb dL_law_2500 hl (by decide) rfl (fun ls hl => ?_)
  refine lv_aload_n hx hb dL_law_2502 rfl (lv_at hl 3 rfl) ?_
  refine lv_aload_n hx hb dL_law_2503 rfl (lv_at hl 1 rfl) ?_
  refine lv_iload hx hb dL_law_2504 (lv_at hl 6 rfl) ?_
  refine lv_iconst (v := 1) hx hb dL_law_2506 (by decide) ?_
  refine lv_iadd hx hb dL_law_2507 ?_
  obtain ⟨y4, hw⟩ := hw
  refine va_sld hx hb hX hbl hbA hS y4 dL_law_2508 ?_
  refine call_i (run_V (cc := cL_law) (As := [.int (xs (v5 + 1).toNatClampNeg)]) (rest := []) hx hb hml hown hE hz (okX9_outputAt X l hfl  hw) qw_1975 qw_1976 qw_1977 qw_86 qw_1978 (myX9_outputAt) ⟨Nat.le_of_ble_eq_true rfl, Nat.le_of_ble_eq_true rfl⟩ (rv_X9 hE hP rfl) hP hD hS rfl hl.1 rfl (Nat.le_of_ble_eq_true rfl) dL_law_2509 ⟨(by show _ ≤ 603072; omega), (by show _ ≤ 7211114; omega)⟩) hS (fun r6 G5 H locs hw hP hD hS => ?_)
  refine lv_istore (lv' := [(7, .int r6), (6, .int r3), (0, .ref b), (1, .ref (xa X 165)), (2, .ref (xa X 189)), (3, .ref (xa X 197)), (4, .ref (xa X 198)), (5, .int v5)]) hx hb dL_law_2512 hl (by decide) rfl (fun ls hl => ?_)
  refine lv_aload_n hx hb dL_law_2514 rfl (lv_at hl 4 rfl) ?_
  refine call_i (run_V (cc := cL_law) (As := []) (rest := []) hx hb hml hown hE hz (okX9_thrown X l hfl  hw) qw_1560 qw_1561 qw_1562 qw_86 qw_1563 (myX9_thrown) ⟨Nat.le_of_ble_eq_true rfl, Nat.le_of_ble_eq_true rfl⟩ (rv_X9 hE hP rfl) hP hD hS rfl hl.1 rfl (Nat.le_of_ble_eq_true rfl) dL_law_2515 ⟨(by show _ ≤ 603072; omega), (by show _ ≤ 7211114; omega)⟩) hS (fun r8 G7 H locs hw hP hD hS => ?_)
  refine lv_iload hx hb dL_law_2518 (lv_at hl 1 rfl) ?_
  refine lv_icmp_eq (tgt := 2525) hx hb dL_law_2520 (by decide) (fun c9 => ?_) (fun c9 => ?_)
  · replace hw := ite_t hw c9
    refine lv_iload hx hb dL_law_2525 (lv_at hl 1 rfl) ?_
    refine lv_if_ne (tgt := 2542) hx hb dL_law_2527 (by decide) (fun c10 => ?_) (fun c10 => ?_)
    · replace hw := ite_f hw c10
      refine lv_goto (tgt := 2836) hx hb dL_law_2542 (by decide) ?_
      refine W.widen (k := cc0 + 40) (n := ss0 + 3000) (by omega) (by omega) ?_
      exact kk G7 _ _ _ hw hP hD hS (lv_sub hl [2, 3, 4, 5, 6, 7] rfl)
    · replace hw := ite_t hw c10
      refine lv_aload_n hx hb dL_law_2530 rfl (lv_at hl 5 rfl) ?_
      refine lv_iconst (v := 0) hx hb dL_law_2531 (by decide) ?_
      obtain ⟨y11, hw⟩ := hw
      refine lald_14 hx hb hE hP y11 dL_law_2532 ?_
      refine lv_iload hx hb dL_law_2533 (lv_at hl 0 rfl) ?_
      refine lv_i2l hx hb dL_law_2535 rfl ?_
      refine W.lcmp hx hb dL_law_2536 ?_
      refine lv_if_eq (tgt := 2542) hx hb dL_law_2537 (by decide) (fun c12 => ?_) (fun c12 => ?_)
      · replace hw := ite_t hw c12
        refine lv_goto (tgt := 2836) hx hb dL_law_2542 (by decide) ?_
        refine W.widen (k := cc0 + 40) (n := ss0 + 3000) (by omega) (by omega) ?_
        exact kk G7 _ _ _ hw hP hD hS (lv_sub hl [2, 3, 4, 5, 6, 7] rfl)
      · replace hw := ite_f hw c12
        exact hw.elim
  · replace hw := ite_f hw c9
    exact hw.elim
def wpL_law_45 (K : GS → Prop) (L : Nat) (xs : Nat → Int32) (v5 : Int32) (G : GS) : Prop :=
  vp_in (v5 + 1) L ∧
  wpL_type (fun (r3 : Int32) (G2 : GS) =>
  vp_in (v5 + 1) L ∧
    wpX9_type (fun (r6 : Int32) (G5 : GS) =>
    wpX9_thrown (fun (r8 : Int32) (G7 : GS) =>
      if r8 = r3 then
        if r3 = 0 then
          vp_in 0 1 ∧
            if (lg_cmp (G7.2.2.1 (0 : Int32).toNatClampNeg) r6.toInt64) = 0 then
            K G7
          else
            False
        else
          K G7
      else
        False)  G5) (((xs (v5 + 1).toNatClampNeg).toUInt32 % 65536).toInt32) G2) (((xs (v5 + 1).toNatClampNeg).toUInt32 % 65536).toInt32) G
set_option maxHeartbeats 4000000 in
set_option maxRecDepth 100000 in
theorem okL_law_45 {p : Program} {e : Env} {s : State} {m : MethodId} {below : List Frame} {meth : Method} {c : Code} (l : Launch) (hfl : l.stackTraces = false) {b L : Nat} {xs : Nat → Int32} (C0 : lw_At p s m meth c b L xs) {X : Cx} (hE : Ev X s s.heap) (hz : (X.2.2.2.2) ≤ s.heap.size) (hbA : ¬ xA X b) {K : GS → Prop} {v5 : Int32} {G : GS} {H : Heap} {locs : List Loc} {ls : Array Slot} {cc0 ss0 : Nat} {Q : State → Prop} (hc9 : cc0 + 40 ≤ 603072) (hs9 : ss0 + 3000 ≤ 7211114) (hw : wpL_law_45 K L xs v5 G) (hP : va_P (xD X) vwCl (pool X G) H) (hD : va_D (xA X) (pool X G)) (hS : va_S (xA X) s.heap H locs) (hl : lv_has ls 9 [(0, .ref b), (1, .ref (xa X 165)), (2, .ref (xa X 189)), (3, .ref (xa X 197)), (4, .ref (xa X 198)), (5, .int v5)])
    (kk : ∀ (G : GS) (H : Heap) (locs : List Loc) (ls : Array Slot), K G → va_P (xD X) vwCl (pool X G) H → va_D (xA X) (pool X G) → va_S (xA X) s.heap H locs → lv_has ls 9 [(0, .ref b), (1, .ref (xa X 165)), (2, .ref (xa X 189)), (3, .ref (xa X 197)), (4, .ref (xa X 198)), (5, .int v5)] → W p l e room_1 s m #[Value.ref b] below meth c H locs (cc0 + 40) (ss0 + 3000) Q (F0 m 2836 ls [])) : W p l e room_1 s m #[Value.ref b] below meth c H locs cc0 ss0 Q (F0 m 2545 ls []) := by
  obtain ⟨hx, hb, hr, hml, hown, hts, hX, hbl, hlocks, hgv⟩ := id C0
  unfold wpL_law_45 at hw
  refine lv_aload_n hx hb dL_law_2545 rfl (lv_at hl 1 rfl) ?_
  refine lv_aload_n hx hb dL_law_2546 rfl (lv_at hl 0 rfl) ?_
  refine lv_iload hx hb dL_law_2547 (lv_at hl 5 rfl) ?_
  refine lv_iconst (v := 1) hx hb dL_law_2549 (by decide) ?_
  refine lv_iadd hx hb dL_law_2550 ?_
  obtain ⟨y1, hw⟩ := hw
  refine va_sld hx hb hX hbl hbA hS y1 dL_law_2551 ?_
  refine lv_i2c hx hb dL_law_2552 rfl ?_
  refine lv_aload_n hx hb dL_law_2553 rfl (lv_at hl 3 rfl) ?_
  refine call_i (run_SW (cc := cL_law) (As := [.ref (xa X 165), .int (((xs (v5 + 1).toNatClampNeg).toUInt32 % 65536).toInt32), .ref (xa X 197)]) (rest := []) hx hb hml hown hE hz (okL_type X l hfl  hw) qw_1432 qw_1433 qw_73 qw_1434 (myL_type).2 ⟨Nat.le_of_ble_eq_true rfl, Nat.le_of_ble_eq_true rfl⟩ hP hD hS rfl hl.1 rfl (Nat.le_of_ble_eq_true rfl) dL_law_2554 ⟨(by show _ ≤ 603072; omega), (by show _ ≤ 7211114; omega)⟩) hS (fun r3 G2 H locs hw hP hD hS => ?_)
  refine lv_istore (lv' := [(6, .int r3), (0, .ref b), (1, .ref (xa X 165)), (2, .ref (xa X 189)), (3, .ref (xa X 197)), (4, .ref (xa X 198)), (5, .int v5)]) hx hb dL_law_2557 hl (by decide) rfl (fun ls hl => ?_)
  refine lv_aload_n hx hb dL_law_2559 rfl (lv_at hl 3 rfl) ?_
  refine lv_aload_n hx hb dL_law_2560 rfl (lv_at hl 1 rfl) ?_
  refine lv_iload hx hb dL_law_2561 (lv_at hl 6 rfl) ?_
  refine lv_iconst (v := 1) hx hb dL_law_2563 (by decide) ?_
  refine lv_iadd hx hb dL_law_2564 ?_
  obtain ⟨y4, hw⟩ := hw
  refine va_sld hx hb hX hbl hbA hS y4 dL_law_2565 ?_
  refine lv_i2c hx hb dL_law_2566 rfl ?_
  refine call_i (run_V (cc := cL_law) (As := [.int (((xs (v5 + 1).toNatClampNeg).toUInt32 % 65536).toInt32)]) (rest := []) hx hb hml hown hE hz (okX9_type X l hfl  hw) qw_1979 qw_1980 qw_1981 qw_86 qw_1982 (myX9_type) ⟨Nat.le_of_ble_eq_true rfl, Nat.le_of_ble_eq_true rfl⟩ (rv_X9 hE hP rfl) hP hD hS rfl hl.1 rfl (Nat.le_of_ble_eq_true rfl) dL_law_2567 ⟨(by show _ ≤ 603072; omega), (by show _ ≤ 7211114; omega)⟩) hS (fun r6 G5 H locs hw hP hD hS => ?_)
  refine lv_istore (lv' := [(7, .int r6), (6, .int r3), (0, .ref b), (1, .ref (xa X 165)), (2, .ref (xa X 189)), (3, .ref (xa X 197)), (4, .ref (xa X 198)), (5, .int v5)]) hx hb dL_law_2570 hl (by decide) rfl (fun ls hl => ?_)
  refine lv_aload_n hx hb dL_law_2572 rfl (lv_at hl 4 rfl) ?_
  refine call_i (run_V (cc := cL_law) (As := []) (rest := []) hx hb hml hown hE hz (okX9_thrown X l hfl  hw) qw_1560 qw_1561 qw_1562 qw_86 qw_1563 (myX9_thrown) ⟨Nat.le_of_ble_eq_true rfl, Nat.le_of_ble_eq_true rfl⟩ (rv_X9 hE hP rfl) hP hD hS rfl hl.1 rfl (Nat.le_of_ble_eq_true rfl) dL_law_2573 ⟨(by show _ ≤ 603072; omega), (by show _ ≤ 7211114; omega)⟩) hS (fun r8 G7 H locs hw hP hD hS => ?_)
  refine lv_iload hx hb dL_law_2576 (lv_at hl 1 rfl) ?_
  refine lv_icmp_eq (tgt := 2583) hx hb dL_law_2578 (by decide) (fun c9 => ?_) (fun c9 => ?_)
  · replace hw := ite_t hw c9
    refine lv_iload hx hb dL_law_2583 (lv_at hl 1 rfl) ?_
    refine lv_if_ne (tgt := 2600) hx hb dL_law_2585 (by decide) (fun c10 => ?_) (fun c10 => ?_)
    · replace hw := ite_f hw c10
      refine lv_goto (tgt := 2836) hx hb dL_law_2600 (by decide) ?_
      refine W.widen (k := cc0 + 40) (n := ss0 + 3000) (by omega) (by omega) ?_
      exact kk G7 _ _ _ hw hP hD hS (lv_sub hl [2, 3, 4, 5, 6, 7] rfl)
    · replace hw := ite_t hw c10
      refine lv_aload_n hx hb dL_law_2588 rfl (lv_at hl 5 rfl) ?_
      refine lv_iconst (v := 0) hx hb dL_law_2589 (by decide) ?_
      obtain ⟨y11, hw⟩ := hw
      refine lald_14 hx hb hE hP y11 dL_law_2590 ?_
      refine lv_iload hx hb dL_law_2591 (lv_at hl 0 rfl) ?_
      refine lv_i2l hx hb dL_law_2593 rfl ?_
      refine W.lcmp hx hb dL_law_2594 ?_
      refine lv_if_eq (tgt := 2600) hx hb dL_law_2595 (by decide) (fun c12 => ?_) (fun c12 => ?_)
      · replace hw := ite_t hw c12
        refine lv_goto (tgt := 2836) hx hb dL_law_2600 (by decide) ?_
        refine W.widen (k := cc0 + 40) (n := ss0 + 3000) (by omega) (by omega) ?_
        exact kk G7 _ _ _ hw hP hD hS (lv_sub hl [2, 3, 4, 5, 6, 7] rfl)
      · replace hw := ite_f hw c12
        exact hw.elim
  · replace hw := ite_f hw c9
    exact hw.elim
def wpL_law_46 (K : GS → Prop) (L : Nat) (xs : Nat → Int32) (v5 : Int32) (G : GS) : Prop :=
  wpL_runScript (fun (r2 : Int32) (G1 : GS) =>
  wpX9_runScript (fun (r4 : Int32) (G3 : GS) =>
    wpX9_thrown (fun (r6 : Int32) (G5 : GS) =>
      if r6 = r2 then
        if r2 = 0 then
          vp_in 0 1 ∧
            if (lg_cmp (G5.2.2.1 (0 : Int32).toNatClampNeg) r4.toInt64) = 0 then
            K G5
          else
            False
        else
          K G5
      else
        False)  G3)  G1)  G
set_option maxHeartbeats 4000000 in
set_option maxRecDepth 100000 in
theorem okL_law_46 {p : Program} {e : Env} {s : State} {m : MethodId} {below : List Frame} {meth : Method} {c : Code} (l : Launch) (hfl : l.stackTraces = false) {b L : Nat} {xs : Nat → Int32} (C0 : lw_At p s m meth c b L xs) {X : Cx} (hE : Ev X s s.heap) (hz : (X.2.2.2.2) ≤ s.heap.size) (hbA : ¬ xA X b) {K : GS → Prop} {v5 : Int32} {G : GS} {H : Heap} {locs : List Loc} {ls : Array Slot} {cc0 ss0 : Nat} {Q : State → Prop} (hc9 : cc0 + 40 ≤ 603072) (hs9 : ss0 + 3000 ≤ 7211114) (hw : wpL_law_46 K L xs v5 G) (hP : va_P (xD X) vwCl (pool X G) H) (hD : va_D (xA X) (pool X G)) (hS : va_S (xA X) s.heap H locs) (hl : lv_has ls 9 [(0, .ref b), (1, .ref (xa X 165)), (2, .ref (xa X 189)), (3, .ref (xa X 197)), (4, .ref (xa X 198)), (5, .int v5)])
    (kk : ∀ (G : GS) (H : Heap) (locs : List Loc) (ls : Array Slot), K G → va_P (xD X) vwCl (pool X G) H → va_D (xA X) (pool X G) → va_S (xA X) s.heap H locs → lv_has ls 9 [(0, .ref b), (1, .ref (xa X 165)), (2, .ref (xa X 189)), (3, .ref (xa X 197)), (4, .ref (xa X 198)), (5, .int v5)] → W p l e room_1 s m #[Value.ref b] below meth c H locs (cc0 + 40) (ss0 + 3000) Q (F0 m 2836 ls [])) : W p l e room_1 s m #[Value.ref b] below meth c H locs cc0 ss0 Q (F0 m 2603 ls []) := by
  obtain ⟨hx, hb, hr, hml, hown, hts, hX, hbl, hlocks, hgv⟩ := id C0
  unfold wpL_law_46 at hw
  refine lv_aload_n hx hb dL_law_2603 rfl (lv_at hl 1 rfl) ?_
  refine lv_aload_n hx hb dL_law_2604 rfl (lv_at hl 3 rfl) ?_
  refine call_i (run_SW (cc := cL_law) (As := [.ref (xa X 165), .ref (xa X 197)]) (rest := []) hx hb hml hown hE hz (okL_runScript X l hfl  hw) qw_1445 qw_1446 qw_73 qw_1447 (myL_runScript).2 ⟨Nat.le_of_ble_eq_true rfl, Nat.le_of_ble_eq_true rfl⟩ hP hD hS rfl hl.1 rfl (Nat.le_of_ble_eq_true rfl) dL_law_2605 ⟨(by show _ ≤ 603072; omega), (by show _ ≤ 7211114; omega)⟩) hS (fun r2 G1 H locs hw hP hD hS => ?_)
  refine lv_istore (lv' := [(6, .int r2), (0, .ref b), (1, .ref (xa X 165)), (2, .ref (xa X 189)), (3, .ref (xa X 197)), (4, .ref (xa X 198)), (5, .int v5)]) hx hb dL_law_2608 hl (by decide) rfl (fun ls hl => ?_)
  refine lv_aload_n hx hb dL_law_2610 rfl (lv_at hl 3 rfl) ?_
  refine call_i (run_V (cc := cL_law) (As := []) (rest := []) hx hb hml hown hE hz (okX9_runScript X l hfl  hw) qw_1983 qw_1984 qw_1985 qw_86 qw_1986 (myX9_runScript) ⟨Nat.le_of_ble_eq_true rfl, Nat.le_of_ble_eq_true rfl⟩ (rv_X9 hE hP rfl) hP hD hS rfl hl.1 rfl (Nat.le_of_ble_eq_true rfl) dL_law_2611 ⟨(by show _ ≤ 603072; omega), (by show _ ≤ 7211114; omega)⟩) hS (fun r4 G3 H locs hw hP hD hS => ?_)
  refine lv_istore (lv' := [(7, .int r4), (6, .int r2), (0, .ref b), (1, .ref (xa X 165)), (2, .ref (xa X 189)), (3, .ref (xa X 197)), (4, .ref (xa X 198)), (5, .int v5)]) hx hb dL_law_2614 hl (by decide) rfl (fun ls hl => ?_)
  refine lv_aload_n hx hb dL_law_2616 rfl (lv_at hl 4 rfl) ?_
  refine call_i (run_V (cc := cL_law) (As := []) (rest := []) hx hb hml hown hE hz (okX9_thrown X l hfl  hw) qw_1560 qw_1561 qw_1562 qw_86 qw_1563 (myX9_thrown) ⟨Nat.le_of_ble_eq_true rfl, Nat.le_of_ble_eq_true rfl⟩ (rv_X9 hE hP rfl) hP hD hS rfl hl.1 rfl (Nat.le_of_ble_eq_true rfl) dL_law_2617 ⟨(by show _ ≤ 603072; omega), (by show _ ≤ 7211114; omega)⟩) hS (fun r6 G5 H locs hw hP hD hS => ?_)
  refine lv_iload hx hb dL_law_2620 (lv_at hl 1 rfl) ?_
  refine lv_icmp_eq (tgt := 2627) hx hb dL_law_2622 (by decide) (fun c7 => ?_) (fun c7 => ?_)
  · replace hw := ite_t hw c7
    refine lv_iload hx hb dL_law_2627 (lv_at hl 1 rfl) ?_
    refine lv_if_ne (tgt := 2644) hx hb dL_law_2629 (by decide) (fun c8 => ?_) (fun c8 => ?_)
    · replace hw := ite_f hw c8
      refine lv_goto (tgt := 2836) hx hb dL_law_2644 (by decide) ?_
      refine W.widen (k := cc0 + 40) (n := ss0 + 3000) (by omega) (by omega) ?_
      exact kk G5 _ _ _ hw hP hD hS (lv_sub hl [2, 3, 4, 5, 6, 7] rfl)
    · replace hw := ite_t hw c8
      refine lv_aload_n hx hb dL_law_2632 rfl (lv_at hl 5 rfl) ?_
      refine lv_iconst (v := 0) hx hb dL_law_2633 (by decide) ?_
      obtain ⟨y9, hw⟩ := hw
      refine lald_14 hx hb hE hP y9 dL_law_2634 ?_
      refine lv_iload hx hb dL_law_2635 (lv_at hl 0 rfl) ?_
      refine lv_i2l hx hb dL_law_2637 rfl ?_
      refine W.lcmp hx hb dL_law_2638 ?_
      refine lv_if_eq (tgt := 2644) hx hb dL_law_2639 (by decide) (fun c10 => ?_) (fun c10 => ?_)
      · replace hw := ite_t hw c10
        refine lv_goto (tgt := 2836) hx hb dL_law_2644 (by decide) ?_
        refine W.widen (k := cc0 + 40) (n := ss0 + 3000) (by omega) (by omega) ?_
        exact kk G5 _ _ _ hw hP hD hS (lv_sub hl [2, 3, 4, 5, 6, 7] rfl)
      · replace hw := ite_f hw c10
        exact hw.elim
  · replace hw := ite_f hw c7
    exact hw.elim
def wpL_law_47 (K : GS → Prop) (L : Nat) (xs : Nat → Int32) (v5 : Int32) (G : GS) : Prop :=
  wpL_errorPosition (fun (r2 : Int32) (G1 : GS) =>
  wpX9_errorPosition (fun (r4 : Int32) (G3 : GS) =>
    wpX9_thrown (fun (r6 : Int32) (G5 : GS) =>
      if r6 = r2 then
        if r2 = 0 then
          vp_in 0 1 ∧
            if (lg_cmp (G5.2.2.1 (0 : Int32).toNatClampNeg) r4.toInt64) = 0 then
            K G5
          else
            False
        else
          K G5
      else
        False)  G3)  G1)  G
set_option maxHeartbeats 4000000 in
set_option maxRecDepth 100000 in
theorem okL_law_47 {p : Program} {e : Env} {s : State} {m : MethodId} {below : List Frame} {meth : Method} {c : Code} (l : Launch) (hfl : l.stackTraces = false) {b L : Nat} {xs : Nat → Int32} (C0 : lw_At p s m meth c b L xs) {X : Cx} (hE : Ev X s s.heap) (hz : (X.2.2.2.2) ≤ s.heap.size) (hbA : ¬ xA X b) {K : GS → Prop} {v5 : Int32} {G : GS} {H : Heap} {locs : List Loc} {ls : Array Slot} {cc0 ss0 : Nat} {Q : State → Prop} (hc9 : cc0 + 40 ≤ 603072) (hs9 : ss0 + 3000 ≤ 7211114) (hw : wpL_law_47 K L xs v5 G) (hP : va_P (xD X) vwCl (pool X G) H) (hD : va_D (xA X) (pool X G)) (hS : va_S (xA X) s.heap H locs) (hl : lv_has ls 9 [(0, .ref b), (1, .ref (xa X 165)), (2, .ref (xa X 189)), (3, .ref (xa X 197)), (4, .ref (xa X 198)), (5, .int v5)])
    (kk : ∀ (G : GS) (H : Heap) (locs : List Loc) (ls : Array Slot), K G → va_P (xD X) vwCl (pool X G) H → va_D (xA X) (pool X G) → va_S (xA X) s.heap H locs → lv_has ls 9 [(0, .ref b), (1, .ref (xa X 165)), (2, .ref (xa X 189)), (3, .ref (xa X 197)), (4, .ref (xa X 198)), (5, .int v5)] → W p l e room_1 s m #[Value.ref b] below meth c H locs (cc0 + 40) (ss0 + 3000) Q (F0 m 2836 ls [])) : W p l e room_1 s m #[Value.ref b] below meth c H locs cc0 ss0 Q (F0 m 2647 ls []) := by
  obtain ⟨hx, hb, hr, hml, hown, hts, hX, hbl, hlocks, hgv⟩ := id C0
  unfold wpL_law_47 at hw
  refine lv_aload_n hx hb dL_law_2647 rfl (lv_at hl 1 rfl) ?_
  refine lv_aload_n hx hb dL_law_2648 rfl (lv_at hl 3 rfl) ?_
  refine call_i (run_SW (cc := cL_law) (As := [.ref (xa X 165), .ref (xa X 197)]) (rest := []) hx hb hml hown hE hz (okL_errorPosition X l hfl  hw) qw_1524 qw_1525 qw_73 qw_1526 (myL_errorPosition).2 ⟨Nat.le_of_ble_eq_true rfl, Nat.le_of_ble_eq_true rfl⟩ hP hD hS rfl hl.1 rfl (Nat.le_of_ble_eq_true rfl) dL_law_2649 ⟨(by show _ ≤ 603072; omega), (by show _ ≤ 7211114; omega)⟩) hS (fun r2 G1 H locs hw hP hD hS => ?_)
  refine lv_istore (lv' := [(6, .int r2), (0, .ref b), (1, .ref (xa X 165)), (2, .ref (xa X 189)), (3, .ref (xa X 197)), (4, .ref (xa X 198)), (5, .int v5)]) hx hb dL_law_2652 hl (by decide) rfl (fun ls hl => ?_)
  refine lv_aload_n hx hb dL_law_2654 rfl (lv_at hl 3 rfl) ?_
  refine call_i (run_V (cc := cL_law) (As := []) (rest := []) hx hb hml hown hE hz (okX9_errorPosition X l hfl  hw) qw_2047 qw_2048 qw_2049 qw_86 qw_2050 (myX9_errorPosition) ⟨Nat.le_of_ble_eq_true rfl, Nat.le_of_ble_eq_true rfl⟩ (rv_X9 hE hP rfl) hP hD hS rfl hl.1 rfl (Nat.le_of_ble_eq_true rfl) dL_law_2655 ⟨(by show _ ≤ 603072; omega), (by show _ ≤ 7211114; omega)⟩) hS (fun r4 G3 H locs hw hP hD hS => ?_)
  refine lv_istore (lv' := [(7, .int r4), (6, .int r2), (0, .ref b), (1, .ref (xa X 165)), (2, .ref (xa X 189)), (3, .ref (xa X 197)), (4, .ref (xa X 198)), (5, .int v5)]) hx hb dL_law_2658 hl (by decide) rfl (fun ls hl => ?_)
  refine lv_aload_n hx hb dL_law_2660 rfl (lv_at hl 4 rfl) ?_
  refine call_i (run_V (cc := cL_law) (As := []) (rest := []) hx hb hml hown hE hz (okX9_thrown X l hfl  hw) qw_1560 qw_1561 qw_1562 qw_86 qw_1563 (myX9_thrown) ⟨Nat.le_of_ble_eq_true rfl, Nat.le_of_ble_eq_true rfl⟩ (rv_X9 hE hP rfl) hP hD hS rfl hl.1 rfl (Nat.le_of_ble_eq_true rfl) dL_law_2661 ⟨(by show _ ≤ 603072; omega), (by show _ ≤ 7211114; omega)⟩) hS (fun r6 G5 H locs hw hP hD hS => ?_)
  refine lv_iload hx hb dL_law_2664 (lv_at hl 1 rfl) ?_
  refine lv_icmp_eq (tgt := 2671) hx hb dL_law_2666 (by decide) (fun c7 => ?_) (fun c7 => ?_)
  · replace hw := ite_t hw c7
    refine lv_iload hx hb dL_law_2671 (lv_at hl 1 rfl) ?_
    refine lv_if_ne (tgt := 2688) hx hb dL_law_2673 (by decide) (fun c8 => ?_) (fun c8 => ?_)
    · replace hw := ite_f hw c8
      refine lv_goto (tgt := 2836) hx hb dL_law_2688 (by decide) ?_
      refine W.widen (k := cc0 + 40) (n := ss0 + 3000) (by omega) (by omega) ?_
      exact kk G5 _ _ _ hw hP hD hS (lv_sub hl [2, 3, 4, 5, 6, 7] rfl)
    · replace hw := ite_t hw c8
      refine lv_aload_n hx hb dL_law_2676 rfl (lv_at hl 5 rfl) ?_
      refine lv_iconst (v := 0) hx hb dL_law_2677 (by decide) ?_
      obtain ⟨y9, hw⟩ := hw
      refine lald_14 hx hb hE hP y9 dL_law_2678 ?_
      refine lv_iload hx hb dL_law_2679 (lv_at hl 0 rfl) ?_
      refine lv_i2l hx hb dL_law_2681 rfl ?_
      refine W.lcmp hx hb dL_law_2682 ?_
      refine lv_if_eq (tgt := 2688) hx hb dL_law_2683 (by decide) (fun c10 => ?_) (fun c10 => ?_)
      · replace hw := ite_t hw c10
        refine lv_goto (tgt := 2836) hx hb dL_law_2688 (by decide) ?_
        refine W.widen (k := cc0 + 40) (n := ss0 + 3000) (by omega) (by omega) ?_
        exact kk G5 _ _ _ hw hP hD hS (lv_sub hl [2, 3, 4, 5, 6, 7] rfl)
      · replace hw := ite_f hw c10
        exact hw.elim
  · replace hw := ite_f hw c7
    exact hw.elim
def wpL_law_48 (K : GS → Prop) (L : Nat) (xs : Nat → Int32) (v5 : Int32) (G : GS) : Prop :=
  wpL_failedCommand (fun (r2 : Int32) (G1 : GS) =>
  wpX9_failedCommand (fun (r4 : Int32) (G3 : GS) =>
    wpX9_thrown (fun (r6 : Int32) (G5 : GS) =>
      if r6 = r2 then
        if r2 = 0 then
          vp_in 0 1 ∧
            if (lg_cmp (G5.2.2.1 (0 : Int32).toNatClampNeg) r4.toInt64) = 0 then
            K G5
          else
            False
        else
          K G5
      else
        False)  G3)  G1)  G
set_option maxHeartbeats 4000000 in
set_option maxRecDepth 100000 in
theorem okL_law_48 {p : Program} {e : Env} {s : State} {m : MethodId} {below : List Frame} {meth : Method} {c : Code} (l : Launch) (hfl : l.stackTraces = false) {b L : Nat} {xs : Nat → Int32} (C0 : lw_At p s m meth c b L xs) {X : Cx} (hE : Ev X s s.heap) (hz : (X.2.2.2.2) ≤ s.heap.size) (hbA : ¬ xA X b) {K : GS → Prop} {v5 : Int32} {G : GS} {H : Heap} {locs : List Loc} {ls : Array Slot} {cc0 ss0 : Nat} {Q : State → Prop} (hc9 : cc0 + 40 ≤ 603072) (hs9 : ss0 + 3000 ≤ 7211114) (hw : wpL_law_48 K L xs v5 G) (hP : va_P (xD X) vwCl (pool X G) H) (hD : va_D (xA X) (pool X G)) (hS : va_S (xA X) s.heap H locs) (hl : lv_has ls 9 [(0, .ref b), (1, .ref (xa X 165)), (2, .ref (xa X 189)), (3, .ref (xa X 197)), (4, .ref (xa X 198)), (5, .int v5)])
    (kk : ∀ (G : GS) (H : Heap) (locs : List Loc) (ls : Array Slot), K G → va_P (xD X) vwCl (pool X G) H → va_D (xA X) (pool X G) → va_S (xA X) s.heap H locs → lv_has ls 9 [(0, .ref b), (1, .ref (xa X 165)), (2, .ref (xa X 189)), (3, .ref (xa X 197)), (4, .ref (xa X 198)), (5, .int v5)] → W p l e room_1 s m #[Value.ref b] below meth c H locs (cc0 + 40) (ss0 + 3000) Q (F0 m 2836 ls [])) : W p l e room_1 s m #[Value.ref b] below meth c H locs cc0 ss0 Q (F0 m 2691 ls []) := by
  obtain ⟨hx, hb, hr, hml, hown, hts, hX, hbl, hlocks, hgv⟩ := id C0
  unfold wpL_law_48 at hw
  refine lv_aload_n hx hb dL_law_2691 rfl (lv_at hl 1 rfl) ?_
  refine lv_aload_n hx hb dL_law_2692 rfl (lv_at hl 3 rfl) ?_
  refine call_i (run_SW (cc := cL_law) (As := [.ref (xa X 165), .ref (xa X 197)]) (rest := []) hx hb hml hown hE hz (okL_failedCommand X l hfl  hw) qw_1532 qw_1533 qw_73 qw_1534 (myL_failedCommand).2 ⟨Nat.le_of_ble_eq_true rfl, Nat.le_of_ble_eq_true rfl⟩ hP hD hS rfl hl.1 rfl (Nat.le_of_ble_eq_true rfl) dL_law_2693 ⟨(by show _ ≤ 603072; omega), (by show _ ≤ 7211114; omega)⟩) hS (fun r2 G1 H locs hw hP hD hS => ?_)
  refine lv_istore (lv' := [(6, .int r2), (0, .ref b), (1, .ref (xa X 165)), (2, .ref (xa X 189)), (3, .ref (xa X 197)), (4, .ref (xa X 198)), (5, .int v5)]) hx hb dL_law_2696 hl (by decide) rfl (fun ls hl => ?_)
  refine lv_aload_n hx hb dL_law_2698 rfl (lv_at hl 3 rfl) ?_
  refine call_i (run_V (cc := cL_law) (As := []) (rest := []) hx hb hml hown hE hz (okX9_failedCommand X l hfl  hw) qw_2051 qw_2052 qw_2053 qw_86 qw_2054 (myX9_failedCommand) ⟨Nat.le_of_ble_eq_true rfl, Nat.le_of_ble_eq_true rfl⟩ (rv_X9 hE hP rfl) hP hD hS rfl hl.1 rfl (Nat.le_of_ble_eq_true rfl) dL_law_2699 ⟨(by show _ ≤ 603072; omega), (by show _ ≤ 7211114; omega)⟩) hS (fun r4 G3 H locs hw hP hD hS => ?_)
  refine lv_istore (lv' := [(7, .int r4), (6, .int r2), (0, .ref b), (1, .ref (xa X 165)), (2, .ref (xa X 189)), (3, .ref (xa X 197)), (4, .ref (xa X 198)), (5, .int v5)]) hx hb dL_law_2702 hl (by decide) rfl (fun ls hl => ?_)
  refine lv_aload_n hx hb dL_law_2704 rfl (lv_at hl 4 rfl) ?_
  refine call_i (run_V (cc := cL_law) (As := []) (rest := []) hx hb hml hown hE hz (okX9_thrown X l hfl  hw) qw_1560 qw_1561 qw_1562 qw_86 qw_1563 (myX9_thrown) ⟨Nat.le_of_ble_eq_true rfl, Nat.le_of_ble_eq_true rfl⟩ (rv_X9 hE hP rfl) hP hD hS rfl hl.1 rfl (Nat.le_of_ble_eq_true rfl) dL_law_2705 ⟨(by show _ ≤ 603072; omega), (by show _ ≤ 7211114; omega)⟩) hS (fun r6 G5 H locs hw hP hD hS => ?_)
  refine lv_iload hx hb dL_law_2708 (lv_at hl 1 rfl) ?_
  refine lv_icmp_eq (tgt := 2715) hx hb dL_law_2710 (by decide) (fun c7 => ?_) (fun c7 => ?_)
  · replace hw := ite_t hw c7
    refine lv_iload hx hb dL_law_2715 (lv_at hl 1 rfl) ?_
    refine lv_if_ne (tgt := 2732) hx hb dL_law_2717 (by decide) (fun c8 => ?_) (fun c8 => ?_)
    · replace hw := ite_f hw c8
      refine lv_goto (tgt := 2836) hx hb dL_law_2732 (by decide) ?_
      refine W.widen (k := cc0 + 40) (n := ss0 + 3000) (by omega) (by omega) ?_
      exact kk G5 _ _ _ hw hP hD hS (lv_sub hl [2, 3, 4, 5, 6, 7] rfl)
    · replace hw := ite_t hw c8
      refine lv_aload_n hx hb dL_law_2720 rfl (lv_at hl 5 rfl) ?_
      refine lv_iconst (v := 0) hx hb dL_law_2721 (by decide) ?_
      obtain ⟨y9, hw⟩ := hw
      refine lald_14 hx hb hE hP y9 dL_law_2722 ?_
      refine lv_iload hx hb dL_law_2723 (lv_at hl 0 rfl) ?_
      refine lv_i2l hx hb dL_law_2725 rfl ?_
      refine W.lcmp hx hb dL_law_2726 ?_
      refine lv_if_eq (tgt := 2732) hx hb dL_law_2727 (by decide) (fun c10 => ?_) (fun c10 => ?_)
      · replace hw := ite_t hw c10
        refine lv_goto (tgt := 2836) hx hb dL_law_2732 (by decide) ?_
        refine W.widen (k := cc0 + 40) (n := ss0 + 3000) (by omega) (by omega) ?_
        exact kk G5 _ _ _ hw hP hD hS (lv_sub hl [2, 3, 4, 5, 6, 7] rfl)
      · replace hw := ite_f hw c10
        exact hw.elim
  · replace hw := ite_f hw c7
    exact hw.elim
def wpL_law_49 (K : GS → Prop) (L : Nat) (xs : Nat → Int32) (v5 : Int32) (G : GS) : Prop :=
  wpL_undo (fun (r2 : Int32) (G1 : GS) =>
  wpX9_undo (fun (r4 : Int32) (G3 : GS) =>
    wpX9_thrown (fun (r6 : Int32) (G5 : GS) =>
      if r6 = r2 then
        if r2 = 0 then
          vp_in 0 1 ∧
            if (lg_cmp (G5.2.2.1 (0 : Int32).toNatClampNeg) r4.toInt64) = 0 then
            K G5
          else
            False
        else
          K G5
      else
        False)  G3)  G1)  G
set_option maxHeartbeats 4000000 in
set_option maxRecDepth 100000 in
theorem okL_law_49 {p : Program} {e : Env} {s : State} {m : MethodId} {below : List Frame} {meth : Method} {c : Code} (l : Launch) (hfl : l.stackTraces = false) {b L : Nat} {xs : Nat → Int32} (C0 : lw_At p s m meth c b L xs) {X : Cx} (hE : Ev X s s.heap) (hz : (X.2.2.2.2) ≤ s.heap.size) (hbA : ¬ xA X b) {K : GS → Prop} {v5 : Int32} {G : GS} {H : Heap} {locs : List Loc} {ls : Array Slot} {cc0 ss0 : Nat} {Q : State → Prop} (hc9 : cc0 + 40 ≤ 603072) (hs9 : ss0 + 3000 ≤ 7211114) (hw : wpL_law_49 K L xs v5 G) (hP : va_P (xD X) vwCl (pool X G) H) (hD : va_D (xA X) (pool X G)) (hS : va_S (xA X) s.heap H locs) (hl : lv_has ls 9 [(0, .ref b), (1, .ref (xa X 165)), (2, .ref (xa X 189)), (3, .ref (xa X 197)), (4, .ref (xa X 198)), (5, .int v5)])
    (kk : ∀ (G : GS) (H : Heap) (locs : List Loc) (ls : Array Slot), K G → va_P (xD X) vwCl (pool X G) H → va_D (xA X) (pool X G) → va_S (xA X) s.heap H locs → lv_has ls 9 [(0, .ref b), (1, .ref (xa X 165)), (2, .ref (xa X 189)), (3, .ref (xa X 197)), (4, .ref (xa X 198)), (5, .int v5)] → W p l e room_1 s m #[Value.ref b] below meth c H locs (cc0 + 40) (ss0 + 3000) Q (F0 m 2836 ls [])) : W p l e room_1 s m #[Value.ref b] below meth c H locs cc0 ss0 Q (F0 m 2735 ls []) := by
  obtain ⟨hx, hb, hr, hml, hown, hts, hX, hbl, hlocks, hgv⟩ := id C0
  unfold wpL_law_49 at hw
  refine lv_aload_n hx hb dL_law_2735 rfl (lv_at hl 1 rfl) ?_
  refine lv_aload_n hx hb dL_law_2736 rfl (lv_at hl 3 rfl) ?_
  refine call_i (run_SW (cc := cL_law) (As := [.ref (xa X 165), .ref (xa X 197)]) (rest := []) hx hb hml hown hE hz (okL_undo X l hfl  hw) qw_1540 qw_1541 qw_73 qw_1542 (myL_undo).2 ⟨Nat.le_of_ble_eq_true rfl, Nat.le_of_ble_eq_true rfl⟩ hP hD hS rfl hl.1 rfl (Nat.le_of_ble_eq_true rfl) dL_law_2737 ⟨(by show _ ≤ 603072; omega), (by show _ ≤ 7211114; omega)⟩) hS (fun r2 G1 H locs hw hP hD hS => ?_)
  refine lv_istore (lv' := [(6, .int r2), (0, .ref b), (1, .ref (xa X 165)), (2, .ref (xa X 189)), (3, .ref (xa X 197)), (4, .ref (xa X 198)), (5, .int v5)]) hx hb dL_law_2740 hl (by decide) rfl (fun ls hl => ?_)
  refine lv_aload_n hx hb dL_law_2742 rfl (lv_at hl 3 rfl) ?_
  refine call_i (run_V (cc := cL_law) (As := []) (rest := []) hx hb hml hown hE hz (okX9_undo X l hfl  hw) qw_2055 qw_2056 qw_2057 qw_86 qw_2058 (myX9_undo) ⟨Nat.le_of_ble_eq_true rfl, Nat.le_of_ble_eq_true rfl⟩ (rv_X9 hE hP rfl) hP hD hS rfl hl.1 rfl (Nat.le_of_ble_eq_true rfl) dL_law_2743 ⟨(by show _ ≤ 603072; omega), (by show _ ≤ 7211114; omega)⟩) hS (fun r4 G3 H locs hw hP hD hS => ?_)
  refine lv_istore (lv' := [(7, .int r4), (6, .int r2), (0, .ref b), (1, .ref (xa X 165)), (2, .ref (xa X 189)), (3, .ref (xa X 197)), (4, .ref (xa X 198)), (5, .int v5)]) hx hb dL_law_2746 hl (by decide) rfl (fun ls hl => ?_)
  refine lv_aload_n hx hb dL_law_2748 rfl (lv_at hl 4 rfl) ?_
  refine call_i (run_V (cc := cL_law) (As := []) (rest := []) hx hb hml hown hE hz (okX9_thrown X l hfl  hw) qw_1560 qw_1561 qw_1562 qw_86 qw_1563 (myX9_thrown) ⟨Nat.le_of_ble_eq_true rfl, Nat.le_of_ble_eq_true rfl⟩ (rv_X9 hE hP rfl) hP hD hS rfl hl.1 rfl (Nat.le_of_ble_eq_true rfl) dL_law_2749 ⟨(by show _ ≤ 603072; omega), (by show _ ≤ 7211114; omega)⟩) hS (fun r6 G5 H locs hw hP hD hS => ?_)
  refine lv_iload hx hb dL_law_2752 (lv_at hl 1 rfl) ?_
  refine lv_icmp_eq (tgt := 2759) hx hb dL_law_2754 (by decide) (fun c7 => ?_) (fun c7 => ?_)
  · replace hw := ite_t hw c7
    refine lv_iload hx hb dL_law_2759 (lv_at hl 1 rfl) ?_
    refine lv_if_ne (tgt := 2776) hx hb dL_law_2761 (by decide) (fun c8 => ?_) (fun c8 => ?_)
    · replace hw := ite_f hw c8
      refine lv_goto (tgt := 2836) hx hb dL_law_2776 (by decide) ?_
      refine W.widen (k := cc0 + 40) (n := ss0 + 3000) (by omega) (by omega) ?_
      exact kk G5 _ _ _ hw hP hD hS (lv_sub hl [2, 3, 4, 5, 6, 7] rfl)
    · replace hw := ite_t hw c8
      refine lv_aload_n hx hb dL_law_2764 rfl (lv_at hl 5 rfl) ?_
      refine lv_iconst (v := 0) hx hb dL_law_2765 (by decide) ?_
      obtain ⟨y9, hw⟩ := hw
      refine lald_14 hx hb hE hP y9 dL_law_2766 ?_
      refine lv_iload hx hb dL_law_2767 (lv_at hl 0 rfl) ?_
      refine lv_i2l hx hb dL_law_2769 rfl ?_
      refine W.lcmp hx hb dL_law_2770 ?_
      refine lv_if_eq (tgt := 2776) hx hb dL_law_2771 (by decide) (fun c10 => ?_) (fun c10 => ?_)
      · replace hw := ite_t hw c10
        refine lv_goto (tgt := 2836) hx hb dL_law_2776 (by decide) ?_
        refine W.widen (k := cc0 + 40) (n := ss0 + 3000) (by omega) (by omega) ?_
        exact kk G5 _ _ _ hw hP hD hS (lv_sub hl [2, 3, 4, 5, 6, 7] rfl)
      · replace hw := ite_f hw c10
        exact hw.elim
  · replace hw := ite_f hw c7
    exact hw.elim
def wpL_law_50 (K : GS → Prop) (L : Nat) (xs : Nat → Int32) (v5 : Int32) (G : GS) : Prop :=
  wpX8_save (fun (r2 : Int32) (G1 : GS) =>
  wpX9_save (fun (r4 : Int32) (G3 : GS) =>
    if r2 = r4 then
      K G3
    else
      False)  G1)  G
set_option maxHeartbeats 4000000 in
set_option maxRecDepth 100000 in
theorem okL_law_50 {p : Program} {e : Env} {s : State} {m : MethodId} {below : List Frame} {meth : Method} {c : Code} (l : Launch) (hfl : l.stackTraces = false) {b L : Nat} {xs : Nat → Int32} (C0 : lw_At p s m meth c b L xs) {X : Cx} (hE : Ev X s s.heap) (hz : (X.2.2.2.2) ≤ s.heap.size) (hbA : ¬ xA X b) {K : GS → Prop} {v5 : Int32} {G : GS} {H : Heap} {locs : List Loc} {ls : Array Slot} {cc0 ss0 : Nat} {Q : State → Prop} (hc9 : cc0 + 40 ≤ 603072) (hs9 : ss0 + 3000 ≤ 7211114) (hw : wpL_law_50 K L xs v5 G) (hP : va_P (xD X) vwCl (pool X G) H) (hD : va_D (xA X) (pool X G)) (hS : va_S (xA X) s.heap H locs) (hl : lv_has ls 9 [(0, .ref b), (1, .ref (xa X 165)), (2, .ref (xa X 189)), (3, .ref (xa X 197)), (4, .ref (xa X 198)), (5, .int v5)])
    (kk : ∀ (G : GS) (H : Heap) (locs : List Loc) (ls : Array Slot), K G → va_P (xD X) vwCl (pool X G) H → va_D (xA X) (pool X G) → va_S (xA X) s.heap H locs → lv_has ls 9 [(0, .ref b), (1, .ref (xa X 165)), (2, .ref (xa X 189)), (3, .ref (xa X 197)), (4, .ref (xa X 198)), (5, .int v5)] → W p l e room_1 s m #[Value.ref b] below meth c H locs (cc0 + 40) (ss0 + 3000) Q (F0 m 2836 ls [])) : W p l e room_1 s m #[Value.ref b] below meth c H locs cc0 ss0 Q (F0 m 2779 ls []) := by
  obtain ⟨hx, hb, hr, hml, hown, hts, hX, hbl, hlocks, hgv⟩ := id C0
  unfold wpL_law_50 at hw
  refine lv_aload_n hx hb dL_law_2779 rfl (lv_at hl 1 rfl) ?_
  refine call_i (run_V (cc := cL_law) (As := []) (rest := []) hx hb hml hown hE hz (okX8_save X l hfl  hw) qw_837 qw_838 qw_839 qw_74 qw_840 (myX8_save) ⟨Nat.le_of_ble_eq_true rfl, Nat.le_of_ble_eq_true rfl⟩ (rv_X8 hE hP rfl) hP hD hS rfl hl.1 rfl (Nat.le_of_ble_eq_true rfl) dL_law_2780 ⟨(by show _ ≤ 603072; omega), (by show _ ≤ 7211114; omega)⟩) hS (fun r2 G1 H locs hw hP hD hS => ?_)
  refine lv_aload_n hx hb dL_law_2783 rfl (lv_at hl 2 rfl) ?_
  refine call_i (run_V (cc := cL_law) (As := []) (rest := [.int r2]) hx hb hml hown hE hz (okX9_save X l hfl  hw) qw_2059 qw_2060 qw_2061 qw_86 qw_2062 (myX9_save) ⟨Nat.le_of_ble_eq_true rfl, Nat.le_of_ble_eq_true rfl⟩ (rv_X9 hE hP rfl) hP hD hS rfl hl.1 rfl (Nat.le_of_ble_eq_true rfl) dL_law_2784 ⟨(by show _ ≤ 603072; omega), (by show _ ≤ 7211114; omega)⟩) hS (fun r4 G3 H locs hw hP hD hS => ?_)
  refine lv_icmp_eq (tgt := 2836) hx hb dL_law_2787 (by decide) (fun c5 => ?_) (fun c5 => ?_)
  · replace hw := ite_t hw c5
    refine W.widen (k := cc0 + 40) (n := ss0 + 3000) (by omega) (by omega) ?_
    exact kk G3 _ _ _ hw hP hD hS (lv_sub hl [0, 1, 2, 3, 4, 5] rfl)
  · replace hw := ite_f hw c5
    exact hw.elim
def wpL_law_51 (K : GS → Prop) (L : Nat) (xs : Nat → Int32) (v5 : Int32) (G : GS) : Prop :=
  wpL_restore (fun (r2 : Int32) (G1 : GS) =>
  wpX9_restore (fun (r4 : Int32) (G3 : GS) =>
    wpX9_thrown (fun (r6 : Int32) (G5 : GS) =>
      if r6 = r2 then
        if r2 = 0 then
          vp_in 0 1 ∧
            if (lg_cmp (G5.2.2.1 (0 : Int32).toNatClampNeg) r4.toInt64) = 0 then
            K G5
          else
            False
        else
          K G5
      else
        False)  G3)  G1)  G
set_option maxHeartbeats 4000000 in
set_option maxRecDepth 100000 in
theorem okL_law_51 {p : Program} {e : Env} {s : State} {m : MethodId} {below : List Frame} {meth : Method} {c : Code} (l : Launch) (hfl : l.stackTraces = false) {b L : Nat} {xs : Nat → Int32} (C0 : lw_At p s m meth c b L xs) {X : Cx} (hE : Ev X s s.heap) (hz : (X.2.2.2.2) ≤ s.heap.size) (hbA : ¬ xA X b) {K : GS → Prop} {v5 : Int32} {G : GS} {H : Heap} {locs : List Loc} {ls : Array Slot} {cc0 ss0 : Nat} {Q : State → Prop} (hc9 : cc0 + 40 ≤ 603072) (hs9 : ss0 + 3000 ≤ 7211114) (hw : wpL_law_51 K L xs v5 G) (hP : va_P (xD X) vwCl (pool X G) H) (hD : va_D (xA X) (pool X G)) (hS : va_S (xA X) s.heap H locs) (hl : lv_has ls 9 [(0, .ref b), (1, .ref (xa X 165)), (2, .ref (xa X 189)), (3, .ref (xa X 197)), (4, .ref (xa X 198)), (5, .int v5)])
    (kk : ∀ (G : GS) (H : Heap) (locs : List Loc) (ls : Array Slot), K G → va_P (xD X) vwCl (pool X G) H → va_D (xA X) (pool X G) → va_S (xA X) s.heap H locs → lv_has ls 9 [(0, .ref b), (1, .ref (xa X 165)), (2, .ref (xa X 189)), (3, .ref (xa X 197)), (4, .ref (xa X 198)), (5, .int v5)] → W p l e room_1 s m #[Value.ref b] below meth c H locs (cc0 + 40) (ss0 + 3000) Q (F0 m 2836 ls [])) : W p l e room_1 s m #[Value.ref b] below meth c H locs cc0 ss0 Q (F0 m 2792 ls []) := by
  obtain ⟨hx, hb, hr, hml, hown, hts, hX, hbl, hlocks, hgv⟩ := id C0
  unfold wpL_law_51 at hw
  refine lv_aload_n hx hb dL_law_2792 rfl (lv_at hl 1 rfl) ?_
  refine lv_aload_n hx hb dL_law_2793 rfl (lv_at hl 3 rfl) ?_
  refine call_i (run_SW (cc := cL_law) (As := [.ref (xa X 165), .ref (xa X 197)]) (rest := []) hx hb hml hown hE hz (okL_restore X l hfl  hw) qw_1552 qw_1553 qw_73 qw_1554 (myL_restore).2 ⟨Nat.le_of_ble_eq_true rfl, Nat.le_of_ble_eq_true rfl⟩ hP hD hS rfl hl.1 rfl (Nat.le_of_ble_eq_true rfl) dL_law_2794 ⟨(by show _ ≤ 603072; omega), (by show _ ≤ 7211114; omega)⟩) hS (fun r2 G1 H locs hw hP hD hS => ?_)
  refine lv_istore (lv' := [(6, .int r2), (0, .ref b), (1, .ref (xa X 165)), (2, .ref (xa X 189)), (3, .ref (xa X 197)), (4, .ref (xa X 198)), (5, .int v5)]) hx hb dL_law_2797 hl (by decide) rfl (fun ls hl => ?_)
  refine lv_aload_n hx hb dL_law_2799 rfl (lv_at hl 3 rfl) ?_
  refine call_i (run_V (cc := cL_law) (As := []) (rest := []) hx hb hml hown hE hz (okX9_restore X l hfl  hw) qw_2063 qw_2064 qw_2065 qw_86 qw_2066 (myX9_restore) ⟨Nat.le_of_ble_eq_true rfl, Nat.le_of_ble_eq_true rfl⟩ (rv_X9 hE hP rfl) hP hD hS rfl hl.1 rfl (Nat.le_of_ble_eq_true rfl) dL_law_2800 ⟨(by show _ ≤ 603072; omega), (by show _ ≤ 7211114; omega)⟩) hS (fun r4 G3 H locs hw hP hD hS => ?_)
  refine lv_istore (lv' := [(7, .int r4), (6, .int r2), (0, .ref b), (1, .ref (xa X 165)), (2, .ref (xa X 189)), (3, .ref (xa X 197)), (4, .ref (xa X 198)), (5, .int v5)]) hx hb dL_law_2803 hl (by decide) rfl (fun ls hl => ?_)
  refine lv_aload_n hx hb dL_law_2805 rfl (lv_at hl 4 rfl) ?_
  refine call_i (run_V (cc := cL_law) (As := []) (rest := []) hx hb hml hown hE hz (okX9_thrown X l hfl  hw) qw_1560 qw_1561 qw_1562 qw_86 qw_1563 (myX9_thrown) ⟨Nat.le_of_ble_eq_true rfl, Nat.le_of_ble_eq_true rfl⟩ (rv_X9 hE hP rfl) hP hD hS rfl hl.1 rfl (Nat.le_of_ble_eq_true rfl) dL_law_2806 ⟨(by show _ ≤ 603072; omega), (by show _ ≤ 7211114; omega)⟩) hS (fun r6 G5 H locs hw hP hD hS => ?_)
  refine lv_iload hx hb dL_law_2809 (lv_at hl 1 rfl) ?_
  refine lv_icmp_eq (tgt := 2816) hx hb dL_law_2811 (by decide) (fun c7 => ?_) (fun c7 => ?_)
  · replace hw := ite_t hw c7
    refine lv_iload hx hb dL_law_2816 (lv_at hl 1 rfl) ?_
    refine lv_if_ne (tgt := 2833) hx hb dL_law_2818 (by decide) (fun c8 => ?_) (fun c8 => ?_)
    · replace hw := ite_f hw c8
      refine lv_goto (tgt := 2836) hx hb dL_law_2833 (by decide) ?_
      refine W.widen (k := cc0 + 40) (n := ss0 + 3000) (by omega) (by omega) ?_
      exact kk G5 _ _ _ hw hP hD hS (lv_sub hl [2, 3, 4, 5, 6, 7] rfl)
    · replace hw := ite_t hw c8
      refine lv_aload_n hx hb dL_law_2821 rfl (lv_at hl 5 rfl) ?_
      refine lv_iconst (v := 0) hx hb dL_law_2822 (by decide) ?_
      obtain ⟨y9, hw⟩ := hw
      refine lald_14 hx hb hE hP y9 dL_law_2823 ?_
      refine lv_iload hx hb dL_law_2824 (lv_at hl 0 rfl) ?_
      refine lv_i2l hx hb dL_law_2826 rfl ?_
      refine W.lcmp hx hb dL_law_2827 ?_
      refine lv_if_eq (tgt := 2833) hx hb dL_law_2828 (by decide) (fun c10 => ?_) (fun c10 => ?_)
      · replace hw := ite_t hw c10
        refine lv_goto (tgt := 2836) hx hb dL_law_2833 (by decide) ?_
        refine W.widen (k := cc0 + 40) (n := ss0 + 3000) (by omega) (by omega) ?_
        exact kk G5 _ _ _ hw hP hD hS (lv_sub hl [2, 3, 4, 5, 6, 7] rfl)
      · replace hw := ite_f hw c10
        exact hw.elim
  · replace hw := ite_f hw c7
    exact hw.elim
