def wpL_law_13 (K : GS → Prop) (L : Nat) (xs : Nat → Int32) (v5 : Int32) (G : GS) : Prop :=
  vp_in (v5 + 1) L ∧
  wpL_dew (fun (r3 : Int32) (G2 : GS) =>
  vp_in (v5 + 1) L ∧
    wpX9_dew (fun (r6 : Int32) (G5 : GS) =>
    wpX9_thrown (fun (r8 : Int32) (G7 : GS) =>
      if r8 = r3 then
        if r3 = 0 then
          vp_in 0 1 ∧
            if (lg_cmp (G7.2.2.1 (0 : Int32).toNatClampNeg) r6.toInt64) = 0 then
            K G7
          else
            False
        else
          K G7
      else
        False)  G5) (xs (v5 + 1).toNatClampNeg) G2) (xs (v5 + 1).toNatClampNeg) G
set_option maxHeartbeats 4000000 in
set_option maxRecDepth 100000 in
theorem okL_law_13 {p : Program} {e : Env} {s : State} {m : MethodId} {below : List Frame} {meth : Method} {c : Code} (l : Launch) (hfl : l.stackTraces = false) {b L : Nat} {xs : Nat → Int32} (C0 : lw_At p s m meth c b L xs) {X : Cx} (hE : Ev X s s.heap) (hz : (X.2.2.2.2) ≤ s.heap.size) (hbA : ¬ xA X b) {K : GS → Prop} {v5 : Int32} {G : GS} {H : Heap} {locs : List Loc} {ls : Array Slot} {cc0 ss0 : Nat} {Q : State → Prop} (hc9 : cc0 + 40 ≤ 603072) (hs9 : ss0 + 3000 ≤ 7211114) (hw : wpL_law_13 K L xs v5 G) (hP : va_P (xD X) vwCl (pool X G) H) (hD : va_D (xA X) (pool X G)) (hS : va_S (xA X) s.heap H locs) (hl : lv_has ls 9 [(0, .ref b), (1, .ref (xa X 165)), (2, .ref (xa X 189)), (3, .ref (xa X 197)), (4, .ref (xa X 198)), (5, .int v5)])
    (kk : ∀ (G : GS) (H : Heap) (locs : List Loc) (ls : Array Slot), K G → va_P (xD X) vwCl (pool X G) H → va_D (xA X) (pool X G) → va_S (xA X) s.heap H locs → lv_has ls 9 [(0, .ref b), (1, .ref (xa X 165)), (2, .ref (xa X 189)), (3, .ref (xa X 197)), (4, .ref (xa X 198)), (5, .int v5)] → W p l e room_1 s m #[Value.ref b] below meth c H locs (cc0 + 40) (ss0 + 3000) Q (F0 m 2836 ls [])) : W p l e room_1 s m #[Value.ref b] below meth c H locs cc0 ss0 Q (F0 m 1116 ls []) := by
  obtain ⟨hx, hb, hr, hml, hown, hts, hX, hbl, hlocks, hgv⟩ := id C0
  unfold wpL_law_13 at hw
  refine lv_aload_n hx hb dL_law_1116 rfl (lv_at hl 1 rfl) ?_
  refine lv_aload_n hx hb dL_law_1117 rfl (lv_at hl 0 rfl) ?_
  refine lv_iload hx hb dL_law_1118 (lv_at hl 5 rfl) ?_
  refine lv_iconst (v := 1) hx hb dL_law_1120 (by decide) ?_
  refine lv_iadd hx hb dL_law_1121 ?_
  obtain ⟨y1, hw⟩ := hw
  refine va_sld hx hb hX hbl hbA hS y1 dL_law_1122 ?_
  refine lv_aload_n hx hb dL_law_1123 rfl (lv_at hl 3 rfl) ?_
  refine call_i (run_SW (cc := cL_law) (As := [.ref (xa X 165), .int (xs (v5 + 1).toNatClampNeg), .ref (xa X 197)]) (rest := []) hx hb hml hown hE hz (okL_dew X l hfl  hw) qw_1197 qw_1198 qw_73 qw_1199 (myL_dew).2 ⟨Nat.le_of_ble_eq_true rfl, Nat.le_of_ble_eq_true rfl⟩ hP hD hS rfl hl.1 rfl (Nat.le_of_ble_eq_true rfl) dL_law_1124 ⟨(by show _ ≤ 603072; omega), (by show _ ≤ 7211114; omega)⟩) hS (fun r3 G2 H locs hw hP hD hS => ?_)
  refine lv_istore (lv' := [(6, .int r3), (0, .ref b), (1, .ref (xa X 165)), (2, .ref (xa X 189)), (3, .ref (xa X 197)), (4, .ref (xa X 198)), (5, .int v5)]) hx hb dL_law_1127 hl (by decide) rfl (fun ls hl => ?_)
  refine lv_aload_n hx hb dL_law_1129 rfl (lv_at hl 3 rfl) ?_
  refine lv_aload_n hx hb dL_law_1130 rfl (lv_at hl 1 rfl) ?_
  refine lv_iload hx hb dL_law_1131 (lv_at hl 6 rfl) ?_
  refine lv_iconst (v := 1) hx hb dL_law_1133 (by decide) ?_
  refine lv_iadd hx hb dL_law_1134 ?_
  obtain ⟨y4, hw⟩ := hw
  refine va_sld hx hb hX hbl hbA hS y4 dL_law_1135 ?_
  refine call_i (run_V (cc := cL_law) (As := [.int (xs (v5 + 1).toNatClampNeg)]) (rest := []) hx hb hml hown hE hz (okX9_dew X l hfl  hw) qw_1825 qw_1826 qw_1827 qw_86 qw_1828 (myX9_dew) ⟨Nat.le_of_ble_eq_true rfl, Nat.le_of_ble_eq_true rfl⟩ (rv_X9 hE hP rfl) hP hD hS rfl hl.1 rfl (Nat.le_of_ble_eq_true rfl) dL_law_1136 ⟨(by show _ ≤ 603072; omega), (by show _ ≤ 7211114; omega)⟩) hS (fun r6 G5 H locs hw hP hD hS => ?_)
  refine lv_istore (lv' := [(7, .int r6), (6, .int r3), (0, .ref b), (1, .ref (xa X 165)), (2, .ref (xa X 189)), (3, .ref (xa X 197)), (4, .ref (xa X 198)), (5, .int v5)]) hx hb dL_law_1139 hl (by decide) rfl (fun ls hl => ?_)
  refine lv_aload_n hx hb dL_law_1141 rfl (lv_at hl 4 rfl) ?_
  refine call_i (run_V (cc := cL_law) (As := []) (rest := []) hx hb hml hown hE hz (okX9_thrown X l hfl  hw) qw_1560 qw_1561 qw_1562 qw_86 qw_1563 (myX9_thrown) ⟨Nat.le_of_ble_eq_true rfl, Nat.le_of_ble_eq_true rfl⟩ (rv_X9 hE hP rfl) hP hD hS rfl hl.1 rfl (Nat.le_of_ble_eq_true rfl) dL_law_1142 ⟨(by show _ ≤ 603072; omega), (by show _ ≤ 7211114; omega)⟩) hS (fun r8 G7 H locs hw hP hD hS => ?_)
  refine lv_iload hx hb dL_law_1145 (lv_at hl 1 rfl) ?_
  refine lv_icmp_eq (tgt := 1152) hx hb dL_law_1147 (by decide) (fun c9 => ?_) (fun c9 => ?_)
  · replace hw := ite_t hw c9
    refine lv_iload hx hb dL_law_1152 (lv_at hl 1 rfl) ?_
    refine lv_if_ne (tgt := 1169) hx hb dL_law_1154 (by decide) (fun c10 => ?_) (fun c10 => ?_)
    · replace hw := ite_f hw c10
      refine lv_goto (tgt := 2836) hx hb dL_law_1169 (by decide) ?_
      refine W.widen (k := cc0 + 40) (n := ss0 + 3000) (by omega) (by omega) ?_
      exact kk G7 _ _ _ hw hP hD hS (lv_sub hl [2, 3, 4, 5, 6, 7] rfl)
    · replace hw := ite_t hw c10
      refine lv_aload_n hx hb dL_law_1157 rfl (lv_at hl 5 rfl) ?_
      refine lv_iconst (v := 0) hx hb dL_law_1158 (by decide) ?_
      obtain ⟨y11, hw⟩ := hw
      refine lald_14 hx hb hE hP y11 dL_law_1159 ?_
      refine lv_iload hx hb dL_law_1160 (lv_at hl 0 rfl) ?_
      refine lv_i2l hx hb dL_law_1162 rfl ?_
      refine W.lcmp hx hb dL_law_1163 ?_
      refine lv_if_eq (tgt := 1169) hx hb dL_law_1164 (by decide) (fun c12 => ?_) (fun c12 => ?_)
      · replace hw := ite_t hw c12
        refine lv_goto (tgt := 2836) hx hb dL_law_1169 (by decide) ?_
        refine W.widen (k := cc0 + 40) (n := ss0 + 3000) (by omega) (by omega) ?_
        exact kk G7 _ _ _ hw hP hD hS (lv_sub hl [2, 3, 4, 5, 6, 7] rfl)
      · replace hw := ite_f hw c12
        exact hw.elim
  · replace hw := ite_f hw c9
    exact hw.elim
def wpL_law_14 (K : GS → Prop) (L : Nat) (xs : Nat → Int32) (v5 : Int32) (G : GS) : Prop :=
  vp_in (v5 + 1) L ∧
  wpL_wings (fun (r3 : Int32) (G2 : GS) =>
  vp_in (v5 + 1) L ∧
    wpX9_wings (fun (r6 : Int32) (G5 : GS) =>
    wpX9_thrown (fun (r8 : Int32) (G7 : GS) =>
      if r8 = r3 then
        if r3 = 0 then
          vp_in 0 1 ∧
            if (lg_cmp (G7.2.2.1 (0 : Int32).toNatClampNeg) r6.toInt64) = 0 then
            K G7
          else
            False
        else
          K G7
      else
        False)  G5) (xs (v5 + 1).toNatClampNeg) G2) (xs (v5 + 1).toNatClampNeg) G
set_option maxHeartbeats 4000000 in
set_option maxRecDepth 100000 in
theorem okL_law_14 {p : Program} {e : Env} {s : State} {m : MethodId} {below : List Frame} {meth : Method} {c : Code} (l : Launch) (hfl : l.stackTraces = false) {b L : Nat} {xs : Nat → Int32} (C0 : lw_At p s m meth c b L xs) {X : Cx} (hE : Ev X s s.heap) (hz : (X.2.2.2.2) ≤ s.heap.size) (hbA : ¬ xA X b) {K : GS → Prop} {v5 : Int32} {G : GS} {H : Heap} {locs : List Loc} {ls : Array Slot} {cc0 ss0 : Nat} {Q : State → Prop} (hc9 : cc0 + 40 ≤ 603072) (hs9 : ss0 + 3000 ≤ 7211114) (hw : wpL_law_14 K L xs v5 G) (hP : va_P (xD X) vwCl (pool X G) H) (hD : va_D (xA X) (pool X G)) (hS : va_S (xA X) s.heap H locs) (hl : lv_has ls 9 [(0, .ref b), (1, .ref (xa X 165)), (2, .ref (xa X 189)), (3, .ref (xa X 197)), (4, .ref (xa X 198)), (5, .int v5)])
    (kk : ∀ (G : GS) (H : Heap) (locs : List Loc) (ls : Array Slot), K G → va_P (xD X) vwCl (pool X G) H → va_D (xA X) (pool X G) → va_S (xA X) s.heap H locs → lv_has ls 9 [(0, .ref b), (1, .ref (xa X 165)), (2, .ref (xa X 189)), (3, .ref (xa X 197)), (4, .ref (xa X 198)), (5, .int v5)] → W p l e room_1 s m #[Value.ref b] below meth c H locs (cc0 + 40) (ss0 + 3000) Q (F0 m 2836 ls [])) : W p l e room_1 s m #[Value.ref b] below meth c H locs cc0 ss0 Q (F0 m 1172 ls []) := by
  obtain ⟨hx, hb, hr, hml, hown, hts, hX, hbl, hlocks, hgv⟩ := id C0
  unfold wpL_law_14 at hw
  refine lv_aload_n hx hb dL_law_1172 rfl (lv_at hl 1 rfl) ?_
  refine lv_aload_n hx hb dL_law_1173 rfl (lv_at hl 0 rfl) ?_
  refine lv_iload hx hb dL_law_1174 (lv_at hl 5 rfl) ?_
  refine lv_iconst (v := 1) hx hb dL_law_1176 (by decide) ?_
  refine lv_iadd hx hb dL_law_1177 ?_
  obtain ⟨y1, hw⟩ := hw
  refine va_sld hx hb hX hbl hbA hS y1 dL_law_1178 ?_
  refine lv_aload_n hx hb dL_law_1179 rfl (lv_at hl 3 rfl) ?_
  refine call_i (run_SW (cc := cL_law) (As := [.ref (xa X 165), .int (xs (v5 + 1).toNatClampNeg), .ref (xa X 197)]) (rest := []) hx hb hml hown hE hz (okL_wings X l hfl  hw) qw_1204 qw_1205 qw_73 qw_1206 (myL_wings).2 ⟨Nat.le_of_ble_eq_true rfl, Nat.le_of_ble_eq_true rfl⟩ hP hD hS rfl hl.1 rfl (Nat.le_of_ble_eq_true rfl) dL_law_1180 ⟨(by show _ ≤ 603072; omega), (by show _ ≤ 7211114; omega)⟩) hS (fun r3 G2 H locs hw hP hD hS => ?_)
  refine lv_istore (lv' := [(6, .int r3), (0, .ref b), (1, .ref (xa X 165)), (2, .ref (xa X 189)), (3, .ref (xa X 197)), (4, .ref (xa X 198)), (5, .int v5)]) hx hb dL_law_1183 hl (by decide) rfl (fun ls hl => ?_)
  refine lv_aload_n hx hb dL_law_1185 rfl (lv_at hl 3 rfl) ?_
  refine lv_aload_n hx hb dL_law_1186 rfl (lv_at hl 1 rfl) ?_
  refine lv_iload hx hb dL_law_1187 (lv_at hl 6 rfl) ?_
  refine lv_iconst (v := 1) hx hb dL_law_1189 (by decide) ?_
  refine lv_iadd hx hb dL_law_1190 ?_
  obtain ⟨y4, hw⟩ := hw
  refine va_sld hx hb hX hbl hbA hS y4 dL_law_1191 ?_
  refine call_i (run_V (cc := cL_law) (As := [.int (xs (v5 + 1).toNatClampNeg)]) (rest := []) hx hb hml hown hE hz (okX9_wings X l hfl  hw) qw_1829 qw_1830 qw_1831 qw_86 qw_1832 (myX9_wings) ⟨Nat.le_of_ble_eq_true rfl, Nat.le_of_ble_eq_true rfl⟩ (rv_X9 hE hP rfl) hP hD hS rfl hl.1 rfl (Nat.le_of_ble_eq_true rfl) dL_law_1192 ⟨(by show _ ≤ 603072; omega), (by show _ ≤ 7211114; omega)⟩) hS (fun r6 G5 H locs hw hP hD hS => ?_)
  refine lv_istore (lv' := [(7, .int r6), (6, .int r3), (0, .ref b), (1, .ref (xa X 165)), (2, .ref (xa X 189)), (3, .ref (xa X 197)), (4, .ref (xa X 198)), (5, .int v5)]) hx hb dL_law_1195 hl (by decide) rfl (fun ls hl => ?_)
  refine lv_aload_n hx hb dL_law_1197 rfl (lv_at hl 4 rfl) ?_
  refine call_i (run_V (cc := cL_law) (As := []) (rest := []) hx hb hml hown hE hz (okX9_thrown X l hfl  hw) qw_1560 qw_1561 qw_1562 qw_86 qw_1563 (myX9_thrown) ⟨Nat.le_of_ble_eq_true rfl, Nat.le_of_ble_eq_true rfl⟩ (rv_X9 hE hP rfl) hP hD hS rfl hl.1 rfl (Nat.le_of_ble_eq_true rfl) dL_law_1198 ⟨(by show _ ≤ 603072; omega), (by show _ ≤ 7211114; omega)⟩) hS (fun r8 G7 H locs hw hP hD hS => ?_)
  refine lv_iload hx hb dL_law_1201 (lv_at hl 1 rfl) ?_
  refine lv_icmp_eq (tgt := 1208) hx hb dL_law_1203 (by decide) (fun c9 => ?_) (fun c9 => ?_)
  · replace hw := ite_t hw c9
    refine lv_iload hx hb dL_law_1208 (lv_at hl 1 rfl) ?_
    refine lv_if_ne (tgt := 1225) hx hb dL_law_1210 (by decide) (fun c10 => ?_) (fun c10 => ?_)
    · replace hw := ite_f hw c10
      refine lv_goto (tgt := 2836) hx hb dL_law_1225 (by decide) ?_
      refine W.widen (k := cc0 + 40) (n := ss0 + 3000) (by omega) (by omega) ?_
      exact kk G7 _ _ _ hw hP hD hS (lv_sub hl [2, 3, 4, 5, 6, 7] rfl)
    · replace hw := ite_t hw c10
      refine lv_aload_n hx hb dL_law_1213 rfl (lv_at hl 5 rfl) ?_
      refine lv_iconst (v := 0) hx hb dL_law_1214 (by decide) ?_
      obtain ⟨y11, hw⟩ := hw
      refine lald_14 hx hb hE hP y11 dL_law_1215 ?_
      refine lv_iload hx hb dL_law_1216 (lv_at hl 0 rfl) ?_
      refine lv_i2l hx hb dL_law_1218 rfl ?_
      refine W.lcmp hx hb dL_law_1219 ?_
      refine lv_if_eq (tgt := 1225) hx hb dL_law_1220 (by decide) (fun c12 => ?_) (fun c12 => ?_)
      · replace hw := ite_t hw c12
        refine lv_goto (tgt := 2836) hx hb dL_law_1225 (by decide) ?_
        refine W.widen (k := cc0 + 40) (n := ss0 + 3000) (by omega) (by omega) ?_
        exact kk G7 _ _ _ hw hP hD hS (lv_sub hl [2, 3, 4, 5, 6, 7] rfl)
      · replace hw := ite_f hw c12
        exact hw.elim
  · replace hw := ite_f hw c9
    exact hw.elim
def wpL_law_15 (K : GS → Prop) (L : Nat) (xs : Nat → Int32) (v5 : Int32) (G : GS) : Prop :=
  vp_in (v5 + 1) L ∧
  wpL_stickiness (fun (r3 : Int32) (G2 : GS) =>
  vp_in (v5 + 1) L ∧
    wpX9_stickiness (fun (r6 : Int32) (G5 : GS) =>
    wpX9_thrown (fun (r8 : Int32) (G7 : GS) =>
      if r8 = r3 then
        if r3 = 0 then
          vp_in 0 1 ∧
            if (lg_cmp (G7.2.2.1 (0 : Int32).toNatClampNeg) r6.toInt64) = 0 then
            K G7
          else
            False
        else
          K G7
      else
        False)  G5) (xs (v5 + 1).toNatClampNeg) G2) (xs (v5 + 1).toNatClampNeg) G
set_option maxHeartbeats 4000000 in
set_option maxRecDepth 100000 in
theorem okL_law_15 {p : Program} {e : Env} {s : State} {m : MethodId} {below : List Frame} {meth : Method} {c : Code} (l : Launch) (hfl : l.stackTraces = false) {b L : Nat} {xs : Nat → Int32} (C0 : lw_At p s m meth c b L xs) {X : Cx} (hE : Ev X s s.heap) (hz : (X.2.2.2.2) ≤ s.heap.size) (hbA : ¬ xA X b) {K : GS → Prop} {v5 : Int32} {G : GS} {H : Heap} {locs : List Loc} {ls : Array Slot} {cc0 ss0 : Nat} {Q : State → Prop} (hc9 : cc0 + 40 ≤ 603072) (hs9 : ss0 + 3000 ≤ 7211114) (hw : wpL_law_15 K L xs v5 G) (hP : va_P (xD X) vwCl (pool X G) H) (hD : va_D (xA X) (pool X G)) (hS : va_S (xA X) s.heap H locs) (hl : lv_has ls 9 [(0, .ref b), (1, .ref (xa X 165)), (2, .ref (xa X 189)), (3, .ref (xa X 197)), (4, .ref (xa X 198)), (5, .int v5)])
    (kk : ∀ (G : GS) (H : Heap) (locs : List Loc) (ls : Array Slot), K G → va_P (xD X) vwCl (pool X G) H → va_D (xA X) (pool X G) → va_S (xA X) s.heap H locs → lv_has ls 9 [(0, .ref b), (1, .ref (xa X 165)), (2, .ref (xa X 189)), (3, .ref (xa X 197)), (4, .ref (xa X 198)), (5, .int v5)] → W p l e room_1 s m #[Value.ref b] below meth c H locs (cc0 + 40) (ss0 + 3000) Q (F0 m 2836 ls [])) : W p l e room_1 s m #[Value.ref b] below meth c H locs cc0 ss0 Q (F0 m 1228 ls []) := by
  obtain ⟨hx, hb, hr, hml, hown, hts, hX, hbl, hlocks, hgv⟩ := id C0
  unfold wpL_law_15 at hw
  refine lv_aload_n hx hb dL_law_1228 rfl (lv_at hl 1 rfl) ?_
  refine lv_aload_n hx hb dL_law_1229 rfl (lv_at hl 0 rfl) ?_
  refine lv_iload hx hb dL_law_1230 (lv_at hl 5 rfl) ?_
  refine lv_iconst (v := 1) hx hb dL_law_1232 (by decide) ?_
  refine lv_iadd hx hb dL_law_1233 ?_
  obtain ⟨y1, hw⟩ := hw
  refine va_sld hx hb hX hbl hbA hS y1 dL_law_1234 ?_
  refine lv_aload_n hx hb dL_law_1235 rfl (lv_at hl 3 rfl) ?_
  refine call_i (run_SW (cc := cL_law) (As := [.ref (xa X 165), .int (xs (v5 + 1).toNatClampNeg), .ref (xa X 197)]) (rest := []) hx hb hml hown hE hz (okL_stickiness X l hfl  hw) qw_1211 qw_1212 qw_73 qw_1213 (myL_stickiness).2 ⟨Nat.le_of_ble_eq_true rfl, Nat.le_of_ble_eq_true rfl⟩ hP hD hS rfl hl.1 rfl (Nat.le_of_ble_eq_true rfl) dL_law_1236 ⟨(by show _ ≤ 603072; omega), (by show _ ≤ 7211114; omega)⟩) hS (fun r3 G2 H locs hw hP hD hS => ?_)
  refine lv_istore (lv' := [(6, .int r3), (0, .ref b), (1, .ref (xa X 165)), (2, .ref (xa X 189)), (3, .ref (xa X 197)), (4, .ref (xa X 198)), (5, .int v5)]) hx hb dL_law_1239 hl (by decide) rfl (fun ls hl => ?_)
  refine lv_aload_n hx hb dL_law_1241 rfl (lv_at hl 3 rfl) ?_
  refine lv_aload_n hx hb dL_law_1242 rfl (lv_at hl 1 rfl) ?_
  refine lv_iload hx hb dL_law_1243 (lv_at hl 6 rfl) ?_
  refine lv_iconst (v := 1) hx hb dL_law_1245 (by decide) ?_
  refine lv_iadd hx hb dL_law_1246 ?_
  obtain ⟨y4, hw⟩ := hw
  refine va_sld hx hb hX hbl hbA hS y4 dL_law_1247 ?_
  refine call_i (run_V (cc := cL_law) (As := [.int (xs (v5 + 1).toNatClampNeg)]) (rest := []) hx hb hml hown hE hz (okX9_stickiness X l hfl  hw) qw_1833 qw_1834 qw_1835 qw_86 qw_1836 (myX9_stickiness) ⟨Nat.le_of_ble_eq_true rfl, Nat.le_of_ble_eq_true rfl⟩ (rv_X9 hE hP rfl) hP hD hS rfl hl.1 rfl (Nat.le_of_ble_eq_true rfl) dL_law_1248 ⟨(by show _ ≤ 603072; omega), (by show _ ≤ 7211114; omega)⟩) hS (fun r6 G5 H locs hw hP hD hS => ?_)
  refine lv_istore (lv' := [(7, .int r6), (6, .int r3), (0, .ref b), (1, .ref (xa X 165)), (2, .ref (xa X 189)), (3, .ref (xa X 197)), (4, .ref (xa X 198)), (5, .int v5)]) hx hb dL_law_1251 hl (by decide) rfl (fun ls hl => ?_)
  refine lv_aload_n hx hb dL_law_1253 rfl (lv_at hl 4 rfl) ?_
  refine call_i (run_V (cc := cL_law) (As := []) (rest := []) hx hb hml hown hE hz (okX9_thrown X l hfl  hw) qw_1560 qw_1561 qw_1562 qw_86 qw_1563 (myX9_thrown) ⟨Nat.le_of_ble_eq_true rfl, Nat.le_of_ble_eq_true rfl⟩ (rv_X9 hE hP rfl) hP hD hS rfl hl.1 rfl (Nat.le_of_ble_eq_true rfl) dL_law_1254 ⟨(by show _ ≤ 603072; omega), (by show _ ≤ 7211114; omega)⟩) hS (fun r8 G7 H locs hw hP hD hS => ?_)
  refine lv_iload hx hb dL_law_1257 (lv_at hl 1 rfl) ?_
  refine lv_icmp_eq (tgt := 1264) hx hb dL_law_1259 (by decide) (fun c9 => ?_) (fun c9 => ?_)
  · replace hw := ite_t hw c9
    refine lv_iload hx hb dL_law_1264 (lv_at hl 1 rfl) ?_
    refine lv_if_ne (tgt := 1281) hx hb dL_law_1266 (by decide) (fun c10 => ?_) (fun c10 => ?_)
    · replace hw := ite_f hw c10
      refine lv_goto (tgt := 2836) hx hb dL_law_1281 (by decide) ?_
      refine W.widen (k := cc0 + 40) (n := ss0 + 3000) (by omega) (by omega) ?_
      exact kk G7 _ _ _ hw hP hD hS (lv_sub hl [2, 3, 4, 5, 6, 7] rfl)
    · replace hw := ite_t hw c10
      refine lv_aload_n hx hb dL_law_1269 rfl (lv_at hl 5 rfl) ?_
      refine lv_iconst (v := 0) hx hb dL_law_1270 (by decide) ?_
      obtain ⟨y11, hw⟩ := hw
      refine lald_14 hx hb hE hP y11 dL_law_1271 ?_
      refine lv_iload hx hb dL_law_1272 (lv_at hl 0 rfl) ?_
      refine lv_i2l hx hb dL_law_1274 rfl ?_
      refine W.lcmp hx hb dL_law_1275 ?_
      refine lv_if_eq (tgt := 1281) hx hb dL_law_1276 (by decide) (fun c12 => ?_) (fun c12 => ?_)
      · replace hw := ite_t hw c12
        refine lv_goto (tgt := 2836) hx hb dL_law_1281 (by decide) ?_
        refine W.widen (k := cc0 + 40) (n := ss0 + 3000) (by omega) (by omega) ?_
        exact kk G7 _ _ _ hw hP hD hS (lv_sub hl [2, 3, 4, 5, 6, 7] rfl)
      · replace hw := ite_f hw c12
        exact hw.elim
  · replace hw := ite_f hw c9
    exact hw.elim
def wpL_law_16 (K : GS → Prop) (L : Nat) (xs : Nat → Int32) (v5 : Int32) (G : GS) : Prop :=
  vp_in (v5 + 1) L ∧
  wpL_isFrozen (fun (r3 : Int32) (G2 : GS) =>
  vp_in (v5 + 1) L ∧
    wpX9_isFrozen (fun (r6 : Int32) (G5 : GS) =>
    wpX9_thrown (fun (r8 : Int32) (G7 : GS) =>
      if r8 = r3 then
        if r3 = 0 then
          vp_in 0 1 ∧
            if r6 = 0 then
            if (lg_cmp (G7.2.2.1 (0 : Int32).toNatClampNeg) 0) = 0 then
              K G7
            else
              False
          else
            if (lg_cmp (G7.2.2.1 (0 : Int32).toNatClampNeg) 1) = 0 then
              K G7
            else
              False
        else
          K G7
      else
        False)  G5) (xs (v5 + 1).toNatClampNeg) G2) (xs (v5 + 1).toNatClampNeg) G
set_option maxHeartbeats 4000000 in
set_option maxRecDepth 100000 in
theorem okL_law_16 {p : Program} {e : Env} {s : State} {m : MethodId} {below : List Frame} {meth : Method} {c : Code} (l : Launch) (hfl : l.stackTraces = false) {b L : Nat} {xs : Nat → Int32} (C0 : lw_At p s m meth c b L xs) {X : Cx} (hE : Ev X s s.heap) (hz : (X.2.2.2.2) ≤ s.heap.size) (hbA : ¬ xA X b) {K : GS → Prop} {v5 : Int32} {G : GS} {H : Heap} {locs : List Loc} {ls : Array Slot} {cc0 ss0 : Nat} {Q : State → Prop} (hc9 : cc0 + 40 ≤ 603072) (hs9 : ss0 + 3000 ≤ 7211114) (hw : wpL_law_16 K L xs v5 G) (hP : va_P (xD X) vwCl (pool X G) H) (hD : va_D (xA X) (pool X G)) (hS : va_S (xA X) s.heap H locs) (hl : lv_has ls 9 [(0, .ref b), (1, .ref (xa X 165)), (2, .ref (xa X 189)), (3, .ref (xa X 197)), (4, .ref (xa X 198)), (5, .int v5)])
    (kk : ∀ (G : GS) (H : Heap) (locs : List Loc) (ls : Array Slot), K G → va_P (xD X) vwCl (pool X G) H → va_D (xA X) (pool X G) → va_S (xA X) s.heap H locs → lv_has ls 9 [(0, .ref b), (1, .ref (xa X 165)), (2, .ref (xa X 189)), (3, .ref (xa X 197)), (4, .ref (xa X 198)), (5, .int v5)] → W p l e room_1 s m #[Value.ref b] below meth c H locs (cc0 + 40) (ss0 + 3000) Q (F0 m 2836 ls [])) : W p l e room_1 s m #[Value.ref b] below meth c H locs cc0 ss0 Q (F0 m 1284 ls []) := by
  obtain ⟨hx, hb, hr, hml, hown, hts, hX, hbl, hlocks, hgv⟩ := id C0
  unfold wpL_law_16 at hw
  refine lv_aload_n hx hb dL_law_1284 rfl (lv_at hl 1 rfl) ?_
  refine lv_aload_n hx hb dL_law_1285 rfl (lv_at hl 0 rfl) ?_
  refine lv_iload hx hb dL_law_1286 (lv_at hl 5 rfl) ?_
  refine lv_iconst (v := 1) hx hb dL_law_1288 (by decide) ?_
  refine lv_iadd hx hb dL_law_1289 ?_
  obtain ⟨y1, hw⟩ := hw
  refine va_sld hx hb hX hbl hbA hS y1 dL_law_1290 ?_
  refine lv_aload_n hx hb dL_law_1291 rfl (lv_at hl 3 rfl) ?_
  refine call_i (run_SW (cc := cL_law) (As := [.ref (xa X 165), .int (xs (v5 + 1).toNatClampNeg), .ref (xa X 197)]) (rest := []) hx hb hml hown hE hz (okL_isFrozen X l hfl  hw) qw_1218 qw_1219 qw_73 qw_1220 (myL_isFrozen).2 ⟨Nat.le_of_ble_eq_true rfl, Nat.le_of_ble_eq_true rfl⟩ hP hD hS rfl hl.1 rfl (Nat.le_of_ble_eq_true rfl) dL_law_1292 ⟨(by show _ ≤ 603072; omega), (by show _ ≤ 7211114; omega)⟩) hS (fun r3 G2 H locs hw hP hD hS => ?_)
  refine lv_istore (lv' := [(6, .int r3), (0, .ref b), (1, .ref (xa X 165)), (2, .ref (xa X 189)), (3, .ref (xa X 197)), (4, .ref (xa X 198)), (5, .int v5)]) hx hb dL_law_1295 hl (by decide) rfl (fun ls hl => ?_)
  refine lv_aload_n hx hb dL_law_1297 rfl (lv_at hl 3 rfl) ?_
  refine lv_aload_n hx hb dL_law_1298 rfl (lv_at hl 1 rfl) ?_
  refine lv_iload hx hb dL_law_1299 (lv_at hl 6 rfl) ?_
  refine lv_iconst (v := 1) hx hb dL_law_1301 (by decide) ?_
  refine lv_iadd hx hb dL_law_1302 ?_
  obtain ⟨y4, hw⟩ := hw
  refine va_sld hx hb hX hbl hbA hS y4 dL_law_1303 ?_
  refine call_i (run_V (cc := cL_law) (As := [.int (xs (v5 + 1).toNatClampNeg)]) (rest := []) hx hb hml hown hE hz (okX9_isFrozen X l hfl  hw) qw_1837 qw_1838 qw_1839 qw_86 qw_1840 (myX9_isFrozen) ⟨Nat.le_of_ble_eq_true rfl, Nat.le_of_ble_eq_true rfl⟩ (rv_X9 hE hP rfl) hP hD hS rfl hl.1 rfl (Nat.le_of_ble_eq_true rfl) dL_law_1304 ⟨(by show _ ≤ 603072; omega), (by show _ ≤ 7211114; omega)⟩) hS (fun r6 G5 H locs hw hP hD hS => ?_)
  refine lv_istore (lv' := [(7, .int r6), (6, .int r3), (0, .ref b), (1, .ref (xa X 165)), (2, .ref (xa X 189)), (3, .ref (xa X 197)), (4, .ref (xa X 198)), (5, .int v5)]) hx hb dL_law_1307 hl (by decide) rfl (fun ls hl => ?_)
  refine lv_aload_n hx hb dL_law_1309 rfl (lv_at hl 4 rfl) ?_
  refine call_i (run_V (cc := cL_law) (As := []) (rest := []) hx hb hml hown hE hz (okX9_thrown X l hfl  hw) qw_1560 qw_1561 qw_1562 qw_86 qw_1563 (myX9_thrown) ⟨Nat.le_of_ble_eq_true rfl, Nat.le_of_ble_eq_true rfl⟩ (rv_X9 hE hP rfl) hP hD hS rfl hl.1 rfl (Nat.le_of_ble_eq_true rfl) dL_law_1310 ⟨(by show _ ≤ 603072; omega), (by show _ ≤ 7211114; omega)⟩) hS (fun r8 G7 H locs hw hP hD hS => ?_)
  refine lv_iload hx hb dL_law_1313 (lv_at hl 1 rfl) ?_
  refine lv_icmp_eq (tgt := 1320) hx hb dL_law_1315 (by decide) (fun c9 => ?_) (fun c9 => ?_)
  · replace hw := ite_t hw c9
    refine lv_iload hx hb dL_law_1320 (lv_at hl 1 rfl) ?_
    refine lv_if_ne (tgt := 1344) hx hb dL_law_1322 (by decide) (fun c10 => ?_) (fun c10 => ?_)
    · replace hw := ite_f hw c10
      refine lv_goto (tgt := 2836) hx hb dL_law_1344 (by decide) ?_
      refine W.widen (k := cc0 + 40) (n := ss0 + 3000) (by omega) (by omega) ?_
      exact kk G7 _ _ _ hw hP hD hS (lv_sub hl [2, 3, 4, 5, 6, 7] rfl)
    · replace hw := ite_t hw c10
      refine lv_aload_n hx hb dL_law_1325 rfl (lv_at hl 5 rfl) ?_
      refine lv_iconst (v := 0) hx hb dL_law_1326 (by decide) ?_
      obtain ⟨y11, hw⟩ := hw
      refine lald_14 hx hb hE hP y11 dL_law_1327 ?_
      refine lv_iload hx hb dL_law_1328 (lv_at hl 0 rfl) ?_
      refine lv_if_eq (tgt := 1337) hx hb dL_law_1330 (by decide) (fun c12 => ?_) (fun c12 => ?_)
      · replace hw := ite_t hw c12
        refine lv_lconst (v := 0) hx hb dL_law_1337 (by decide) ?_
        refine W.lcmp hx hb dL_law_1338 ?_
        refine lv_if_eq (tgt := 1344) hx hb dL_law_1339 (by decide) (fun c13 => ?_) (fun c13 => ?_)
        · replace hw := ite_t hw c13
          refine lv_goto (tgt := 2836) hx hb dL_law_1344 (by decide) ?_
          refine W.widen (k := cc0 + 40) (n := ss0 + 3000) (by omega) (by omega) ?_
          exact kk G7 _ _ _ hw hP hD hS (lv_sub hl [2, 3, 4, 5, 6, 7] rfl)
        · replace hw := ite_f hw c13
          exact hw.elim
      · replace hw := ite_f hw c12
        refine lv_lconst (v := 1) hx hb dL_law_1333 (by decide) ?_
        refine lv_goto (tgt := 1338) hx hb dL_law_1334 (by decide) ?_
        refine W.lcmp hx hb dL_law_1338 ?_
        refine lv_if_eq (tgt := 1344) hx hb dL_law_1339 (by decide) (fun c14 => ?_) (fun c14 => ?_)
        · replace hw := ite_t hw c14
          refine lv_goto (tgt := 2836) hx hb dL_law_1344 (by decide) ?_
          refine W.widen (k := cc0 + 40) (n := ss0 + 3000) (by omega) (by omega) ?_
          exact kk G7 _ _ _ hw hP hD hS (lv_sub hl [2, 3, 4, 5, 6, 7] rfl)
        · replace hw := ite_f hw c14
          exact hw.elim
  · replace hw := ite_f hw c9
    exact hw.elim
def wpL_law_17 (K : GS → Prop) (L : Nat) (xs : Nat → Int32) (v5 : Int32) (G : GS) : Prop :=
  vp_in (v5 + 1) L ∧
  wpL_daysUntilThaw (fun (r3 : Int32) (G2 : GS) =>
  vp_in (v5 + 1) L ∧
    wpX9_daysUntilThaw (fun (r6 : Int32) (G5 : GS) =>
    wpX9_thrown (fun (r8 : Int32) (G7 : GS) =>
      if r8 = r3 then
        if r3 = 0 then
          vp_in 0 1 ∧
            if (lg_cmp (G7.2.2.1 (0 : Int32).toNatClampNeg) r6.toInt64) = 0 then
            K G7
          else
            False
        else
          K G7
      else
        False)  G5) (xs (v5 + 1).toNatClampNeg) G2) (xs (v5 + 1).toNatClampNeg) G
set_option maxHeartbeats 4000000 in
set_option maxRecDepth 100000 in
theorem okL_law_17 {p : Program} {e : Env} {s : State} {m : MethodId} {below : List Frame} {meth : Method} {c : Code} (l : Launch) (hfl : l.stackTraces = false) {b L : Nat} {xs : Nat → Int32} (C0 : lw_At p s m meth c b L xs) {X : Cx} (hE : Ev X s s.heap) (hz : (X.2.2.2.2) ≤ s.heap.size) (hbA : ¬ xA X b) {K : GS → Prop} {v5 : Int32} {G : GS} {H : Heap} {locs : List Loc} {ls : Array Slot} {cc0 ss0 : Nat} {Q : State → Prop} (hc9 : cc0 + 40 ≤ 603072) (hs9 : ss0 + 3000 ≤ 7211114) (hw : wpL_law_17 K L xs v5 G) (hP : va_P (xD X) vwCl (pool X G) H) (hD : va_D (xA X) (pool X G)) (hS : va_S (xA X) s.heap H locs) (hl : lv_has ls 9 [(0, .ref b), (1, .ref (xa X 165)), (2, .ref (xa X 189)), (3, .ref (xa X 197)), (4, .ref (xa X 198)), (5, .int v5)])
    (kk : ∀ (G : GS) (H : Heap) (locs : List Loc) (ls : Array Slot), K G → va_P (xD X) vwCl (pool X G) H → va_D (xA X) (pool X G) → va_S (xA X) s.heap H locs → lv_has ls 9 [(0, .ref b), (1, .ref (xa X 165)), (2, .ref (xa X 189)), (3, .ref (xa X 197)), (4, .ref (xa X 198)), (5, .int v5)] → W p l e room_1 s m #[Value.ref b] below meth c H locs (cc0 + 40) (ss0 + 3000) Q (F0 m 2836 ls [])) : W p l e room_1 s m #[Value.ref b] below meth c H locs cc0 ss0 Q (F0 m 1347 ls []) := by
  obtain ⟨hx, hb, hr, hml, hown, hts, hX, hbl, hlocks, hgv⟩ := id C0
  unfold wpL_law_17 at hw
  refine lv_aload_n hx hb dL_law_1347 rfl (lv_at hl 1 rfl) ?_
  refine lv_aload_n hx hb dL_law_1348 rfl (lv_at hl 0 rfl) ?_
  refine lv_iload hx hb dL_law_1349 (lv_at hl 5 rfl) ?_
  refine lv_iconst (v := 1) hx hb dL_law_1351 (by decide) ?_
  refine lv_iadd hx hb dL_law_1352 ?_
  obtain ⟨y1, hw⟩ := hw
  refine va_sld hx hb hX hbl hbA hS y1 dL_law_1353 ?_
  refine lv_aload_n hx hb dL_law_1354 rfl (lv_at hl 3 rfl) ?_
  refine call_i (run_SW (cc := cL_law) (As := [.ref (xa X 165), .int (xs (v5 + 1).toNatClampNeg), .ref (xa X 197)]) (rest := []) hx hb hml hown hE hz (okL_daysUntilThaw X l hfl  hw) qw_1226 qw_1227 qw_73 qw_1228 (myL_daysUntilThaw).2 ⟨Nat.le_of_ble_eq_true rfl, Nat.le_of_ble_eq_true rfl⟩ hP hD hS rfl hl.1 rfl (Nat.le_of_ble_eq_true rfl) dL_law_1355 ⟨(by show _ ≤ 603072; omega), (by show _ ≤ 7211114; omega)⟩) hS (fun r3 G2 H locs hw hP hD hS => ?_)
  refine lv_istore (lv' := [(6, .int r3), (0, .ref b), (1, .ref (xa X 165)), (2, .ref (xa X 189)), (3, .ref (xa X 197)), (4, .ref (xa X 198)), (5, .int v5)]) hx hb dL_law_1358 hl (by decide) rfl (fun ls hl => ?_)
  refine lv_aload_n hx hb dL_law_1360 rfl (lv_at hl 3 rfl) ?_
  refine lv_aload_n hx hb dL_law_1361 rfl (lv_at hl 1 rfl) ?_
  refine lv_iload hx hb dL_law_1362 (lv_at hl 6 rfl) ?_
  refine lv_iconst (v := 1) hx hb dL_law_1364 (by decide) ?_
  refine lv_iadd hx hb dL_law_1365 ?_
  obtain ⟨y4, hw⟩ := hw
  refine va_sld hx hb hX hbl hbA hS y4 dL_law_1366 ?_
  refine call_i (run_V (cc := cL_law) (As := [.int (xs (v5 + 1).toNatClampNeg)]) (rest := []) hx hb hml hown hE hz (okX9_daysUntilThaw X l hfl  hw) qw_1841 qw_1842 qw_1843 qw_86 qw_1844 (myX9_daysUntilThaw) ⟨Nat.le_of_ble_eq_true rfl, Nat.le_of_ble_eq_true rfl⟩ (rv_X9 hE hP rfl) hP hD hS rfl hl.1 rfl (Nat.le_of_ble_eq_true rfl) dL_law_1367 ⟨(by show _ ≤ 603072; omega), (by show _ ≤ 7211114; omega)⟩) hS (fun r6 G5 H locs hw hP hD hS => ?_)
  refine lv_istore (lv' := [(7, .int r6), (6, .int r3), (0, .ref b), (1, .ref (xa X 165)), (2, .ref (xa X 189)), (3, .ref (xa X 197)), (4, .ref (xa X 198)), (5, .int v5)]) hx hb dL_law_1370 hl (by decide) rfl (fun ls hl => ?_)
  refine lv_aload_n hx hb dL_law_1372 rfl (lv_at hl 4 rfl) ?_
  refine call_i (run_V (cc := cL_law) (As := []) (rest := []) hx hb hml hown hE hz (okX9_thrown X l hfl  hw) qw_1560 qw_1561 qw_1562 qw_86 qw_1563 (myX9_thrown) ⟨Nat.le_of_ble_eq_true rfl, Nat.le_of_ble_eq_true rfl⟩ (rv_X9 hE hP rfl) hP hD hS rfl hl.1 rfl (Nat.le_of_ble_eq_true rfl) dL_law_1373 ⟨(by show _ ≤ 603072; omega), (by show _ ≤ 7211114; omega)⟩) hS (fun r8 G7 H locs hw hP hD hS => ?_)
  refine lv_iload hx hb dL_law_1376 (lv_at hl 1 rfl) ?_
  refine lv_icmp_eq (tgt := 1383) hx hb dL_law_1378 (by decide) (fun c9 => ?_) (fun c9 => ?_)
  · replace hw := ite_t hw c9
    refine lv_iload hx hb dL_law_1383 (lv_at hl 1 rfl) ?_
    refine lv_if_ne (tgt := 1400) hx hb dL_law_1385 (by decide) (fun c10 => ?_) (fun c10 => ?_)
    · replace hw := ite_f hw c10
      refine lv_goto (tgt := 2836) hx hb dL_law_1400 (by decide) ?_
      refine W.widen (k := cc0 + 40) (n := ss0 + 3000) (by omega) (by omega) ?_
      exact kk G7 _ _ _ hw hP hD hS (lv_sub hl [2, 3, 4, 5, 6, 7] rfl)
    · replace hw := ite_t hw c10
      refine lv_aload_n hx hb dL_law_1388 rfl (lv_at hl 5 rfl) ?_
      refine lv_iconst (v := 0) hx hb dL_law_1389 (by decide) ?_
      obtain ⟨y11, hw⟩ := hw
      refine lald_14 hx hb hE hP y11 dL_law_1390 ?_
      refine lv_iload hx hb dL_law_1391 (lv_at hl 0 rfl) ?_
      refine lv_i2l hx hb dL_law_1393 rfl ?_
      refine W.lcmp hx hb dL_law_1394 ?_
      refine lv_if_eq (tgt := 1400) hx hb dL_law_1395 (by decide) (fun c12 => ?_) (fun c12 => ?_)
      · replace hw := ite_t hw c12
        refine lv_goto (tgt := 2836) hx hb dL_law_1400 (by decide) ?_
        refine W.widen (k := cc0 + 40) (n := ss0 + 3000) (by omega) (by omega) ?_
        exact kk G7 _ _ _ hw hP hD hS (lv_sub hl [2, 3, 4, 5, 6, 7] rfl)
      · replace hw := ite_f hw c12
        exact hw.elim
  · replace hw := ite_f hw c9
    exact hw.elim
def wpL_law_18 (K : GS → Prop) (L : Nat) (xs : Nat → Int32) (v5 : Int32) (G : GS) : Prop :=
  vp_in (v5 + 1) L ∧
  wpL_value (fun (r3 : Int32) (G2 : GS) =>
  vp_in (v5 + 1) L ∧
    wpX9_value (fun (r6 : Int32) (G5 : GS) =>
    wpX9_thrown (fun (r8 : Int32) (G7 : GS) =>
      if r8 = r3 then
        if r3 = 0 then
          vp_in 0 1 ∧
            if (lg_cmp (G7.2.2.1 (0 : Int32).toNatClampNeg) r6.toInt64) = 0 then
            K G7
          else
            False
        else
          K G7
      else
        False)  G5) (xs (v5 + 1).toNatClampNeg) G2) (xs (v5 + 1).toNatClampNeg) G
set_option maxHeartbeats 4000000 in
set_option maxRecDepth 100000 in
theorem okL_law_18 {p : Program} {e : Env} {s : State} {m : MethodId} {below : List Frame} {meth : Method} {c : Code} (l : Launch) (hfl : l.stackTraces = false) {b L : Nat} {xs : Nat → Int32} (C0 : lw_At p s m meth c b L xs) {X : Cx} (hE : Ev X s s.heap) (hz : (X.2.2.2.2) ≤ s.heap.size) (hbA : ¬ xA X b) {K : GS → Prop} {v5 : Int32} {G : GS} {H : Heap} {locs : List Loc} {ls : Array Slot} {cc0 ss0 : Nat} {Q : State → Prop} (hc9 : cc0 + 40 ≤ 603072) (hs9 : ss0 + 3000 ≤ 7211114) (hw : wpL_law_18 K L xs v5 G) (hP : va_P (xD X) vwCl (pool X G) H) (hD : va_D (xA X) (pool X G)) (hS : va_S (xA X) s.heap H locs) (hl : lv_has ls 9 [(0, .ref b), (1, .ref (xa X 165)), (2, .ref (xa X 189)), (3, .ref (xa X 197)), (4, .ref (xa X 198)), (5, .int v5)])
    (kk : ∀ (G : GS) (H : Heap) (locs : List Loc) (ls : Array Slot), K G → va_P (xD X) vwCl (pool X G) H → va_D (xA X) (pool X G) → va_S (xA X) s.heap H locs → lv_has ls 9 [(0, .ref b), (1, .ref (xa X 165)), (2, .ref (xa X 189)), (3, .ref (xa X 197)), (4, .ref (xa X 198)), (5, .int v5)] → W p l e room_1 s m #[Value.ref b] below meth c H locs (cc0 + 40) (ss0 + 3000) Q (F0 m 2836 ls [])) : W p l e room_1 s m #[Value.ref b] below meth c H locs cc0 ss0 Q (F0 m 1403 ls []) := by
  obtain ⟨hx, hb, hr, hml, hown, hts, hX, hbl, hlocks, hgv⟩ := id C0
  unfold wpL_law_18 at hw
  refine lv_aload_n hx hb dL_law_1403 rfl (lv_at hl 1 rfl) ?_
  refine lv_aload_n hx hb dL_law_1404 rfl (lv_at hl 0 rfl) ?_
  refine lv_iload hx hb dL_law_1405 (lv_at hl 5 rfl) ?_
  refine lv_iconst (v := 1) hx hb dL_law_1407 (by decide) ?_
  refine lv_iadd hx hb dL_law_1408 ?_
  obtain ⟨y1, hw⟩ := hw
  refine va_sld hx hb hX hbl hbA hS y1 dL_law_1409 ?_
  refine lv_aload_n hx hb dL_law_1410 rfl (lv_at hl 3 rfl) ?_
  refine call_i (run_SW (cc := cL_law) (As := [.ref (xa X 165), .int (xs (v5 + 1).toNatClampNeg), .ref (xa X 197)]) (rest := []) hx hb hml hown hE hz (okL_value X l hfl  hw) qw_1250 qw_1251 qw_73 qw_1252 (myL_value).2 ⟨Nat.le_of_ble_eq_true rfl, Nat.le_of_ble_eq_true rfl⟩ hP hD hS rfl hl.1 rfl (Nat.le_of_ble_eq_true rfl) dL_law_1411 ⟨(by show _ ≤ 603072; omega), (by show _ ≤ 7211114; omega)⟩) hS (fun r3 G2 H locs hw hP hD hS => ?_)
  refine lv_istore (lv' := [(6, .int r3), (0, .ref b), (1, .ref (xa X 165)), (2, .ref (xa X 189)), (3, .ref (xa X 197)), (4, .ref (xa X 198)), (5, .int v5)]) hx hb dL_law_1414 hl (by decide) rfl (fun ls hl => ?_)
  refine lv_aload_n hx hb dL_law_1416 rfl (lv_at hl 3 rfl) ?_
  refine lv_aload_n hx hb dL_law_1417 rfl (lv_at hl 1 rfl) ?_
  refine lv_iload hx hb dL_law_1418 (lv_at hl 6 rfl) ?_
  refine lv_iconst (v := 1) hx hb dL_law_1420 (by decide) ?_
  refine lv_iadd hx hb dL_law_1421 ?_
  obtain ⟨y4, hw⟩ := hw
  refine va_sld hx hb hX hbl hbA hS y4 dL_law_1422 ?_
  refine call_i (run_V (cc := cL_law) (As := [.int (xs (v5 + 1).toNatClampNeg)]) (rest := []) hx hb hml hown hE hz (okX9_value X l hfl  hw) qw_1845 qw_1846 qw_1847 qw_86 qw_1848 (myX9_value) ⟨Nat.le_of_ble_eq_true rfl, Nat.le_of_ble_eq_true rfl⟩ (rv_X9 hE hP rfl) hP hD hS rfl hl.1 rfl (Nat.le_of_ble_eq_true rfl) dL_law_1423 ⟨(by show _ ≤ 603072; omega), (by show _ ≤ 7211114; omega)⟩) hS (fun r6 G5 H locs hw hP hD hS => ?_)
  refine lv_istore (lv' := [(7, .int r6), (6, .int r3), (0, .ref b), (1, .ref (xa X 165)), (2, .ref (xa X 189)), (3, .ref (xa X 197)), (4, .ref (xa X 198)), (5, .int v5)]) hx hb dL_law_1426 hl (by decide) rfl (fun ls hl => ?_)
  refine lv_aload_n hx hb dL_law_1428 rfl (lv_at hl 4 rfl) ?_
  refine call_i (run_V (cc := cL_law) (As := []) (rest := []) hx hb hml hown hE hz (okX9_thrown X l hfl  hw) qw_1560 qw_1561 qw_1562 qw_86 qw_1563 (myX9_thrown) ⟨Nat.le_of_ble_eq_true rfl, Nat.le_of_ble_eq_true rfl⟩ (rv_X9 hE hP rfl) hP hD hS rfl hl.1 rfl (Nat.le_of_ble_eq_true rfl) dL_law_1429 ⟨(by show _ ≤ 603072; omega), (by show _ ≤ 7211114; omega)⟩) hS (fun r8 G7 H locs hw hP hD hS => ?_)
  refine lv_iload hx hb dL_law_1432 (lv_at hl 1 rfl) ?_
  refine lv_icmp_eq (tgt := 1439) hx hb dL_law_1434 (by decide) (fun c9 => ?_) (fun c9 => ?_)
  · replace hw := ite_t hw c9
    refine lv_iload hx hb dL_law_1439 (lv_at hl 1 rfl) ?_
    refine lv_if_ne (tgt := 1456) hx hb dL_law_1441 (by decide) (fun c10 => ?_) (fun c10 => ?_)
    · replace hw := ite_f hw c10
      refine lv_goto (tgt := 2836) hx hb dL_law_1456 (by decide) ?_
      refine W.widen (k := cc0 + 40) (n := ss0 + 3000) (by omega) (by omega) ?_
      exact kk G7 _ _ _ hw hP hD hS (lv_sub hl [2, 3, 4, 5, 6, 7] rfl)
    · replace hw := ite_t hw c10
      refine lv_aload_n hx hb dL_law_1444 rfl (lv_at hl 5 rfl) ?_
      refine lv_iconst (v := 0) hx hb dL_law_1445 (by decide) ?_
      obtain ⟨y11, hw⟩ := hw
      refine lald_14 hx hb hE hP y11 dL_law_1446 ?_
      refine lv_iload hx hb dL_law_1447 (lv_at hl 0 rfl) ?_
      refine lv_i2l hx hb dL_law_1449 rfl ?_
      refine W.lcmp hx hb dL_law_1450 ?_
      refine lv_if_eq (tgt := 1456) hx hb dL_law_1451 (by decide) (fun c12 => ?_) (fun c12 => ?_)
      · replace hw := ite_t hw c12
        refine lv_goto (tgt := 2836) hx hb dL_law_1456 (by decide) ?_
        refine W.widen (k := cc0 + 40) (n := ss0 + 3000) (by omega) (by omega) ?_
        exact kk G7 _ _ _ hw hP hD hS (lv_sub hl [2, 3, 4, 5, 6, 7] rfl)
      · replace hw := ite_f hw c12
        exact hw.elim
  · replace hw := ite_f hw c9
    exact hw.elim
def wpL_law_19 (K : GS → Prop) (L : Nat) (xs : Nat → Int32) (v5 : Int32) (G : GS) : Prop :=
  vp_in (v5 + 1) L ∧
  wpL_reserve (fun (r3 : Int32) (G2 : GS) =>
  vp_in (v5 + 1) L ∧
    wpX9_reserve (fun (r6 : Int32) (G5 : GS) =>
    wpX9_thrown (fun (r8 : Int32) (G7 : GS) =>
      if r8 = r3 then
        if r3 = 0 then
          vp_in 0 1 ∧
            if (lg_cmp (G7.2.2.1 (0 : Int32).toNatClampNeg) r6.toInt64) = 0 then
            K G7
          else
            False
        else
          K G7
      else
        False)  G5) (xs (v5 + 1).toNatClampNeg) G2) (xs (v5 + 1).toNatClampNeg) G
set_option maxHeartbeats 4000000 in
set_option maxRecDepth 100000 in
theorem okL_law_19 {p : Program} {e : Env} {s : State} {m : MethodId} {below : List Frame} {meth : Method} {c : Code} (l : Launch) (hfl : l.stackTraces = false) {b L : Nat} {xs : Nat → Int32} (C0 : lw_At p s m meth c b L xs) {X : Cx} (hE : Ev X s s.heap) (hz : (X.2.2.2.2) ≤ s.heap.size) (hbA : ¬ xA X b) {K : GS → Prop} {v5 : Int32} {G : GS} {H : Heap} {locs : List Loc} {ls : Array Slot} {cc0 ss0 : Nat} {Q : State → Prop} (hc9 : cc0 + 40 ≤ 603072) (hs9 : ss0 + 3000 ≤ 7211114) (hw : wpL_law_19 K L xs v5 G) (hP : va_P (xD X) vwCl (pool X G) H) (hD : va_D (xA X) (pool X G)) (hS : va_S (xA X) s.heap H locs) (hl : lv_has ls 9 [(0, .ref b), (1, .ref (xa X 165)), (2, .ref (xa X 189)), (3, .ref (xa X 197)), (4, .ref (xa X 198)), (5, .int v5)])
    (kk : ∀ (G : GS) (H : Heap) (locs : List Loc) (ls : Array Slot), K G → va_P (xD X) vwCl (pool X G) H → va_D (xA X) (pool X G) → va_S (xA X) s.heap H locs → lv_has ls 9 [(0, .ref b), (1, .ref (xa X 165)), (2, .ref (xa X 189)), (3, .ref (xa X 197)), (4, .ref (xa X 198)), (5, .int v5)] → W p l e room_1 s m #[Value.ref b] below meth c H locs (cc0 + 40) (ss0 + 3000) Q (F0 m 2836 ls [])) : W p l e room_1 s m #[Value.ref b] below meth c H locs cc0 ss0 Q (F0 m 1459 ls []) := by
  obtain ⟨hx, hb, hr, hml, hown, hts, hX, hbl, hlocks, hgv⟩ := id C0
  unfold wpL_law_19 at hw
  refine lv_aload_n hx hb dL_law_1459 rfl (lv_at hl 1 rfl) ?_
  refine lv_aload_n hx hb dL_law_1460 rfl (lv_at hl 0 rfl) ?_
  refine lv_iload hx hb dL_law_1461 (lv_at hl 5 rfl) ?_
  refine lv_iconst (v := 1) hx hb dL_law_1463 (by decide) ?_
  refine lv_iadd hx hb dL_law_1464 ?_
  obtain ⟨y1, hw⟩ := hw
  refine va_sld hx hb hX hbl hbA hS y1 dL_law_1465 ?_
  refine lv_aload_n hx hb dL_law_1466 rfl (lv_at hl 3 rfl) ?_
  refine call_i (run_SW (cc := cL_law) (As := [.ref (xa X 165), .int (xs (v5 + 1).toNatClampNeg), .ref (xa X 197)]) (rest := []) hx hb hml hown hE hz (okL_reserve X l hfl  hw) qw_1258 qw_1259 qw_73 qw_1260 (myL_reserve).2 ⟨Nat.le_of_ble_eq_true rfl, Nat.le_of_ble_eq_true rfl⟩ hP hD hS rfl hl.1 rfl (Nat.le_of_ble_eq_true rfl) dL_law_1467 ⟨(by show _ ≤ 603072; omega), (by show _ ≤ 7211114; omega)⟩) hS (fun r3 G2 H locs hw hP hD hS => ?_)
  refine lv_istore (lv' := [(6, .int r3), (0, .ref b), (1, .ref (xa X 165)), (2, .ref (xa X 189)), (3, .ref (xa X 197)), (4, .ref (xa X 198)), (5, .int v5)]) hx hb dL_law_1470 hl (by decide) rfl (fun ls hl => ?_)
  refine lv_aload_n hx hb dL_law_1472 rfl (lv_at hl 3 rfl) ?_
  refine lv_aload_n hx hb dL_law_1473 rfl (lv_at hl 1 rfl) ?_
  refine lv_iload hx hb dL_law_1474 (lv_at hl 6 rfl) ?_
  refine lv_iconst (v := 1) hx hb dL_law_1476 (by decide) ?_
  refine lv_iadd hx hb dL_law_1477 ?_
  obtain ⟨y4, hw⟩ := hw
  refine va_sld hx hb hX hbl hbA hS y4 dL_law_1478 ?_
  refine call_i (run_V (cc := cL_law) (As := [.int (xs (v5 + 1).toNatClampNeg)]) (rest := []) hx hb hml hown hE hz (okX9_reserve X l hfl  hw) qw_1849 qw_1850 qw_1851 qw_86 qw_1852 (myX9_reserve) ⟨Nat.le_of_ble_eq_true rfl, Nat.le_of_ble_eq_true rfl⟩ (rv_X9 hE hP rfl) hP hD hS rfl hl.1 rfl (Nat.le_of_ble_eq_true rfl) dL_law_1479 ⟨(by show _ ≤ 603072; omega), (by show _ ≤ 7211114; omega)⟩) hS (fun r6 G5 H locs hw hP hD hS => ?_)
  refine lv_istore (lv' := [(7, .int r6), (6, .int r3), (0, .ref b), (1, .ref (xa X 165)), (2, .ref (xa X 189)), (3, .ref (xa X 197)), (4, .ref (xa X 198)), (5, .int v5)]) hx hb dL_law_1482 hl (by decide) rfl (fun ls hl => ?_)
  refine lv_aload_n hx hb dL_law_1484 rfl (lv_at hl 4 rfl) ?_
  refine call_i (run_V (cc := cL_law) (As := []) (rest := []) hx hb hml hown hE hz (okX9_thrown X l hfl  hw) qw_1560 qw_1561 qw_1562 qw_86 qw_1563 (myX9_thrown) ⟨Nat.le_of_ble_eq_true rfl, Nat.le_of_ble_eq_true rfl⟩ (rv_X9 hE hP rfl) hP hD hS rfl hl.1 rfl (Nat.le_of_ble_eq_true rfl) dL_law_1485 ⟨(by show _ ≤ 603072; omega), (by show _ ≤ 7211114; omega)⟩) hS (fun r8 G7 H locs hw hP hD hS => ?_)
  refine lv_iload hx hb dL_law_1488 (lv_at hl 1 rfl) ?_
  refine lv_icmp_eq (tgt := 1495) hx hb dL_law_1490 (by decide) (fun c9 => ?_) (fun c9 => ?_)
  · replace hw := ite_t hw c9
    refine lv_iload hx hb dL_law_1495 (lv_at hl 1 rfl) ?_
    refine lv_if_ne (tgt := 1512) hx hb dL_law_1497 (by decide) (fun c10 => ?_) (fun c10 => ?_)
    · replace hw := ite_f hw c10
      refine lv_goto (tgt := 2836) hx hb dL_law_1512 (by decide) ?_
      refine W.widen (k := cc0 + 40) (n := ss0 + 3000) (by omega) (by omega) ?_
      exact kk G7 _ _ _ hw hP hD hS (lv_sub hl [2, 3, 4, 5, 6, 7] rfl)
    · replace hw := ite_t hw c10
      refine lv_aload_n hx hb dL_law_1500 rfl (lv_at hl 5 rfl) ?_
      refine lv_iconst (v := 0) hx hb dL_law_1501 (by decide) ?_
      obtain ⟨y11, hw⟩ := hw
      refine lald_14 hx hb hE hP y11 dL_law_1502 ?_
      refine lv_iload hx hb dL_law_1503 (lv_at hl 0 rfl) ?_
      refine lv_i2l hx hb dL_law_1505 rfl ?_
      refine W.lcmp hx hb dL_law_1506 ?_
      refine lv_if_eq (tgt := 1512) hx hb dL_law_1507 (by decide) (fun c12 => ?_) (fun c12 => ?_)
      · replace hw := ite_t hw c12
        refine lv_goto (tgt := 2836) hx hb dL_law_1512 (by decide) ?_
        refine W.widen (k := cc0 + 40) (n := ss0 + 3000) (by omega) (by omega) ?_
        exact kk G7 _ _ _ hw hP hD hS (lv_sub hl [2, 3, 4, 5, 6, 7] rfl)
      · replace hw := ite_f hw c12
        exact hw.elim
  · replace hw := ite_f hw c9
    exact hw.elim
def wpL_law_20 (K : GS → Prop) (L : Nat) (xs : Nat → Int32) (v5 : Int32) (G : GS) : Prop :=
  vp_in (v5 + 1) L ∧
  wpL_isSound (fun (r3 : Int32) (G2 : GS) =>
  vp_in (v5 + 1) L ∧
    wpX9_isSound (fun (r6 : Int32) (G5 : GS) =>
    wpX9_thrown (fun (r8 : Int32) (G7 : GS) =>
      if r8 = r3 then
        if r3 = 0 then
          vp_in 0 1 ∧
            if r6 = 0 then
            if (lg_cmp (G7.2.2.1 (0 : Int32).toNatClampNeg) 0) = 0 then
              K G7
            else
              False
          else
            if (lg_cmp (G7.2.2.1 (0 : Int32).toNatClampNeg) 1) = 0 then
              K G7
            else
              False
        else
          K G7
      else
        False)  G5) (xs (v5 + 1).toNatClampNeg) G2) (xs (v5 + 1).toNatClampNeg) G
set_option maxHeartbeats 4000000 in
set_option maxRecDepth 100000 in
theorem okL_law_20 {p : Program} {e : Env} {s : State} {m : MethodId} {below : List Frame} {meth : Method} {c : Code} (l : Launch) (hfl : l.stackTraces = false) {b L : Nat} {xs : Nat → Int32} (C0 : lw_At p s m meth c b L xs) {X : Cx} (hE : Ev X s s.heap) (hz : (X.2.2.2.2) ≤ s.heap.size) (hbA : ¬ xA X b) {K : GS → Prop} {v5 : Int32} {G : GS} {H : Heap} {locs : List Loc} {ls : Array Slot} {cc0 ss0 : Nat} {Q : State → Prop} (hc9 : cc0 + 40 ≤ 603072) (hs9 : ss0 + 3000 ≤ 7211114) (hw : wpL_law_20 K L xs v5 G) (hP : va_P (xD X) vwCl (pool X G) H) (hD : va_D (xA X) (pool X G)) (hS : va_S (xA X) s.heap H locs) (hl : lv_has ls 9 [(0, .ref b), (1, .ref (xa X 165)), (2, .ref (xa X 189)), (3, .ref (xa X 197)), (4, .ref (xa X 198)), (5, .int v5)])
    (kk : ∀ (G : GS) (H : Heap) (locs : List Loc) (ls : Array Slot), K G → va_P (xD X) vwCl (pool X G) H → va_D (xA X) (pool X G) → va_S (xA X) s.heap H locs → lv_has ls 9 [(0, .ref b), (1, .ref (xa X 165)), (2, .ref (xa X 189)), (3, .ref (xa X 197)), (4, .ref (xa X 198)), (5, .int v5)] → W p l e room_1 s m #[Value.ref b] below meth c H locs (cc0 + 40) (ss0 + 3000) Q (F0 m 2836 ls [])) : W p l e room_1 s m #[Value.ref b] below meth c H locs cc0 ss0 Q (F0 m 1515 ls []) := by
  obtain ⟨hx, hb, hr, hml, hown, hts, hX, hbl, hlocks, hgv⟩ := id C0
  unfold wpL_law_20 at hw
  refine lv_aload_n hx hb dL_law_1515 rfl (lv_at hl 1 rfl) ?_
  refine lv_aload_n hx hb dL_law_1516 rfl (lv_at hl 0 rfl) ?_
  refine lv_iload hx hb dL_law_1517 (lv_at hl 5 rfl) ?_
  refine lv_iconst (v := 1) hx hb dL_law_1519 (by decide) ?_
  refine lv_iadd hx hb dL_law_1520 ?_
  obtain ⟨y1, hw⟩ := hw
  refine va_sld hx hb hX hbl hbA hS y1 dL_law_1521 ?_
  refine lv_aload_n hx hb dL_law_1522 rfl (lv_at hl 3 rfl) ?_
  refine call_i (run_SW (cc := cL_law) (As := [.ref (xa X 165), .int (xs (v5 + 1).toNatClampNeg), .ref (xa X 197)]) (rest := []) hx hb hml hown hE hz (okL_isSound X l hfl  hw) qw_1266 qw_1267 qw_73 qw_1268 (myL_isSound).2 ⟨Nat.le_of_ble_eq_true rfl, Nat.le_of_ble_eq_true rfl⟩ hP hD hS rfl hl.1 rfl (Nat.le_of_ble_eq_true rfl) dL_law_1523 ⟨(by show _ ≤ 603072; omega), (by show _ ≤ 7211114; omega)⟩) hS (fun r3 G2 H locs hw hP hD hS => ?_)
  refine lv_istore (lv' := [(6, .int r3), (0, .ref b), (1, .ref (xa X 165)), (2, .ref (xa X 189)), (3, .ref (xa X 197)), (4, .ref (xa X 198)), (5, .int v5)]) hx hb dL_law_1526 hl (by decide) rfl (fun ls hl => ?_)
  refine lv_aload_n hx hb dL_law_1528 rfl (lv_at hl 3 rfl) ?_
  refine lv_aload_n hx hb dL_law_1529 rfl (lv_at hl 1 rfl) ?_
  refine lv_iload hx hb dL_law_1530 (lv_at hl 6 rfl) ?_
  refine lv_iconst (v := 1) hx hb dL_law_1532 (by decide) ?_
  refine lv_iadd hx hb dL_law_1533 ?_
  obtain ⟨y4, hw⟩ := hw
  refine va_sld hx hb hX hbl hbA hS y4 dL_law_1534 ?_
  refine call_i (run_V (cc := cL_law) (As := [.int (xs (v5 + 1).toNatClampNeg)]) (rest := []) hx hb hml hown hE hz (okX9_isSound X l hfl  hw) qw_1853 qw_1854 qw_1855 qw_86 qw_1856 (myX9_isSound) ⟨Nat.le_of_ble_eq_true rfl, Nat.le_of_ble_eq_true rfl⟩ (rv_X9 hE hP rfl) hP hD hS rfl hl.1 rfl (Nat.le_of_ble_eq_true rfl) dL_law_1535 ⟨(by show _ ≤ 603072; omega), (by show _ ≤ 7211114; omega)⟩) hS (fun r6 G5 H locs hw hP hD hS => ?_)
  refine lv_istore (lv' := [(7, .int r6), (6, .int r3), (0, .ref b), (1, .ref (xa X 165)), (2, .ref (xa X 189)), (3, .ref (xa X 197)), (4, .ref (xa X 198)), (5, .int v5)]) hx hb dL_law_1538 hl (by decide) rfl (fun ls hl => ?_)
  refine lv_aload_n hx hb dL_law_1540 rfl (lv_at hl 4 rfl) ?_
  refine call_i (run_V (cc := cL_law) (As := []) (rest := []) hx hb hml hown hE hz (okX9_thrown X l hfl  hw) qw_1560 qw_1561 qw_1562 qw_86 qw_1563 (myX9_thrown) ⟨Nat.le_of_ble_eq_true rfl, Nat.le_of_ble_eq_true rfl⟩ (rv_X9 hE hP rfl) hP hD hS rfl hl.1 rfl (Nat.le_of_ble_eq_true rfl) dL_law_1541 ⟨(by show _ ≤ 603072; omega), (by show _ ≤ 7211114; omega)⟩) hS (fun r8 G7 H locs hw hP hD hS => ?_)
  refine lv_iload hx hb dL_law_1544 (lv_at hl 1 rfl) ?_
  refine lv_icmp_eq (tgt := 1551) hx hb dL_law_1546 (by decide) (fun c9 => ?_) (fun c9 => ?_)
  · replace hw := ite_t hw c9
    refine lv_iload hx hb dL_law_1551 (lv_at hl 1 rfl) ?_
    refine lv_if_ne (tgt := 1575) hx hb dL_law_1553 (by decide) (fun c10 => ?_) (fun c10 => ?_)
    · replace hw := ite_f hw c10
      refine lv_goto (tgt := 2836) hx hb dL_law_1575 (by decide) ?_
      refine W.widen (k := cc0 + 40) (n := ss0 + 3000) (by omega) (by omega) ?_
      exact kk G7 _ _ _ hw hP hD hS (lv_sub hl [2, 3, 4, 5, 6, 7] rfl)
    · replace hw := ite_t hw c10
      refine lv_aload_n hx hb dL_law_1556 rfl (lv_at hl 5 rfl) ?_
      refine lv_iconst (v := 0) hx hb dL_law_1557 (by decide) ?_
      obtain ⟨y11, hw⟩ := hw
      refine lald_14 hx hb hE hP y11 dL_law_1558 ?_
      refine lv_iload hx hb dL_law_1559 (lv_at hl 0 rfl) ?_
      refine lv_if_eq (tgt := 1568) hx hb dL_law_1561 (by decide) (fun c12 => ?_) (fun c12 => ?_)
      · replace hw := ite_t hw c12
        refine lv_lconst (v := 0) hx hb dL_law_1568 (by decide) ?_
        refine W.lcmp hx hb dL_law_1569 ?_
        refine lv_if_eq (tgt := 1575) hx hb dL_law_1570 (by decide) (fun c13 => ?_) (fun c13 => ?_)
        · replace hw := ite_t hw c13
          refine lv_goto (tgt := 2836) hx hb dL_law_1575 (by decide) ?_
          refine W.widen (k := cc0 + 40) (n := ss0 + 3000) (by omega) (by omega) ?_
          exact kk G7 _ _ _ hw hP hD hS (lv_sub hl [2, 3, 4, 5, 6, 7] rfl)
        · replace hw := ite_f hw c13
          exact hw.elim
      · replace hw := ite_f hw c12
        refine lv_lconst (v := 1) hx hb dL_law_1564 (by decide) ?_
        refine lv_goto (tgt := 1569) hx hb dL_law_1565 (by decide) ?_
        refine W.lcmp hx hb dL_law_1569 ?_
        refine lv_if_eq (tgt := 1575) hx hb dL_law_1570 (by decide) (fun c14 => ?_) (fun c14 => ?_)
        · replace hw := ite_t hw c14
          refine lv_goto (tgt := 2836) hx hb dL_law_1575 (by decide) ?_
          refine W.widen (k := cc0 + 40) (n := ss0 + 3000) (by omega) (by omega) ?_
          exact kk G7 _ _ _ hw hP hD hS (lv_sub hl [2, 3, 4, 5, 6, 7] rfl)
        · replace hw := ite_f hw c14
          exact hw.elim
  · replace hw := ite_f hw c9
    exact hw.elim
def wpL_law_21 (K : GS → Prop) (L : Nat) (xs : Nat → Int32) (v5 : Int32) (G : GS) : Prop :=
  vp_in (v5 + 1) L ∧
  wpL_mintable (fun (r3 : Int32) (G2 : GS) =>
  vp_in (v5 + 1) L ∧
    wpX9_mintable (fun (r6 : Int32) (G5 : GS) =>
    wpX9_thrown (fun (r8 : Int32) (G7 : GS) =>
      if r8 = r3 then
        if r3 = 0 then
          vp_in 0 1 ∧
            if (lg_cmp (G7.2.2.1 (0 : Int32).toNatClampNeg) r6.toInt64) = 0 then
            K G7
          else
            False
        else
          K G7
      else
        False)  G5) (xs (v5 + 1).toNatClampNeg) G2) (xs (v5 + 1).toNatClampNeg) G
set_option maxHeartbeats 4000000 in
set_option maxRecDepth 100000 in
theorem okL_law_21 {p : Program} {e : Env} {s : State} {m : MethodId} {below : List Frame} {meth : Method} {c : Code} (l : Launch) (hfl : l.stackTraces = false) {b L : Nat} {xs : Nat → Int32} (C0 : lw_At p s m meth c b L xs) {X : Cx} (hE : Ev X s s.heap) (hz : (X.2.2.2.2) ≤ s.heap.size) (hbA : ¬ xA X b) {K : GS → Prop} {v5 : Int32} {G : GS} {H : Heap} {locs : List Loc} {ls : Array Slot} {cc0 ss0 : Nat} {Q : State → Prop} (hc9 : cc0 + 40 ≤ 603072) (hs9 : ss0 + 3000 ≤ 7211114) (hw : wpL_law_21 K L xs v5 G) (hP : va_P (xD X) vwCl (pool X G) H) (hD : va_D (xA X) (pool X G)) (hS : va_S (xA X) s.heap H locs) (hl : lv_has ls 9 [(0, .ref b), (1, .ref (xa X 165)), (2, .ref (xa X 189)), (3, .ref (xa X 197)), (4, .ref (xa X 198)), (5, .int v5)])
    (kk : ∀ (G : GS) (H : Heap) (locs : List Loc) (ls : Array Slot), K G → va_P (xD X) vwCl (pool X G) H → va_D (xA X) (pool X G) → va_S (xA X) s.heap H locs → lv_has ls 9 [(0, .ref b), (1, .ref (xa X 165)), (2, .ref (xa X 189)), (3, .ref (xa X 197)), (4, .ref (xa X 198)), (5, .int v5)] → W p l e room_1 s m #[Value.ref b] below meth c H locs (cc0 + 40) (ss0 + 3000) Q (F0 m 2836 ls [])) : W p l e room_1 s m #[Value.ref b] below meth c H locs cc0 ss0 Q (F0 m 1578 ls []) := by
  obtain ⟨hx, hb, hr, hml, hown, hts, hX, hbl, hlocks, hgv⟩ := id C0
  unfold wpL_law_21 at hw
  refine lv_aload_n hx hb dL_law_1578 rfl (lv_at hl 1 rfl) ?_
  refine lv_aload_n hx hb dL_law_1579 rfl (lv_at hl 0 rfl) ?_
  refine lv_iload hx hb dL_law_1580 (lv_at hl 5 rfl) ?_
  refine lv_iconst (v := 1) hx hb dL_law_1582 (by decide) ?_
  refine lv_iadd hx hb dL_law_1583 ?_
  obtain ⟨y1, hw⟩ := hw
  refine va_sld hx hb hX hbl hbA hS y1 dL_law_1584 ?_
  refine lv_aload_n hx hb dL_law_1585 rfl (lv_at hl 3 rfl) ?_
  refine call_i (run_SW (cc := cL_law) (As := [.ref (xa X 165), .int (xs (v5 + 1).toNatClampNeg), .ref (xa X 197)]) (rest := []) hx hb hml hown hE hz (okL_mintable X l hfl  hw) qw_1274 qw_1275 qw_73 qw_1276 (myL_mintable).2 ⟨Nat.le_of_ble_eq_true rfl, Nat.le_of_ble_eq_true rfl⟩ hP hD hS rfl hl.1 rfl (Nat.le_of_ble_eq_true rfl) dL_law_1586 ⟨(by show _ ≤ 603072; omega), (by show _ ≤ 7211114; omega)⟩) hS (fun r3 G2 H locs hw hP hD hS => ?_)
  refine lv_istore (lv' := [(6, .int r3), (0, .ref b), (1, .ref (xa X 165)), (2, .ref (xa X 189)), (3, .ref (xa X 197)), (4, .ref (xa X 198)), (5, .int v5)]) hx hb dL_law_1589 hl (by decide) rfl (fun ls hl => ?_)
  refine lv_aload_n hx hb dL_law_1591 rfl (lv_at hl 3 rfl) ?_
  refine lv_aload_n hx hb dL_law_1592 rfl (lv_at hl 1 rfl) ?_
  refine lv_iload hx hb dL_law_1593 (lv_at hl 6 rfl) ?_
  refine lv_iconst (v := 1) hx hb dL_law_1595 (by decide) ?_
  refine lv_iadd hx hb dL_law_1596 ?_
  obtain ⟨y4, hw⟩ := hw
  refine va_sld hx hb hX hbl hbA hS y4 dL_law_1597 ?_
  refine call_i (run_V (cc := cL_law) (As := [.int (xs (v5 + 1).toNatClampNeg)]) (rest := []) hx hb hml hown hE hz (okX9_mintable X l hfl  hw) qw_1857 qw_1858 qw_1859 qw_86 qw_1860 (myX9_mintable) ⟨Nat.le_of_ble_eq_true rfl, Nat.le_of_ble_eq_true rfl⟩ (rv_X9 hE hP rfl) hP hD hS rfl hl.1 rfl (Nat.le_of_ble_eq_true rfl) dL_law_1598 ⟨(by show _ ≤ 603072; omega), (by show _ ≤ 7211114; omega)⟩) hS (fun r6 G5 H locs hw hP hD hS => ?_)
  refine lv_istore (lv' := [(7, .int r6), (6, .int r3), (0, .ref b), (1, .ref (xa X 165)), (2, .ref (xa X 189)), (3, .ref (xa X 197)), (4, .ref (xa X 198)), (5, .int v5)]) hx hb dL_law_1601 hl (by decide) rfl (fun ls hl => ?_)
  refine lv_aload_n hx hb dL_law_1603 rfl (lv_at hl 4 rfl) ?_
  refine call_i (run_V (cc := cL_law) (As := []) (rest := []) hx hb hml hown hE hz (okX9_thrown X l hfl  hw) qw_1560 qw_1561 qw_1562 qw_86 qw_1563 (myX9_thrown) ⟨Nat.le_of_ble_eq_true rfl, Nat.le_of_ble_eq_true rfl⟩ (rv_X9 hE hP rfl) hP hD hS rfl hl.1 rfl (Nat.le_of_ble_eq_true rfl) dL_law_1604 ⟨(by show _ ≤ 603072; omega), (by show _ ≤ 7211114; omega)⟩) hS (fun r8 G7 H locs hw hP hD hS => ?_)
  refine lv_iload hx hb dL_law_1607 (lv_at hl 1 rfl) ?_
  refine lv_icmp_eq (tgt := 1614) hx hb dL_law_1609 (by decide) (fun c9 => ?_) (fun c9 => ?_)
  · replace hw := ite_t hw c9
    refine lv_iload hx hb dL_law_1614 (lv_at hl 1 rfl) ?_
    refine lv_if_ne (tgt := 1631) hx hb dL_law_1616 (by decide) (fun c10 => ?_) (fun c10 => ?_)
    · replace hw := ite_f hw c10
      refine lv_goto (tgt := 2836) hx hb dL_law_1631 (by decide) ?_
      refine W.widen (k := cc0 + 40) (n := ss0 + 3000) (by omega) (by omega) ?_
      exact kk G7 _ _ _ hw hP hD hS (lv_sub hl [2, 3, 4, 5, 6, 7] rfl)
    · replace hw := ite_t hw c10
      refine lv_aload_n hx hb dL_law_1619 rfl (lv_at hl 5 rfl) ?_
      refine lv_iconst (v := 0) hx hb dL_law_1620 (by decide) ?_
      obtain ⟨y11, hw⟩ := hw
      refine lald_14 hx hb hE hP y11 dL_law_1621 ?_
      refine lv_iload hx hb dL_law_1622 (lv_at hl 0 rfl) ?_
      refine lv_i2l hx hb dL_law_1624 rfl ?_
      refine W.lcmp hx hb dL_law_1625 ?_
      refine lv_if_eq (tgt := 1631) hx hb dL_law_1626 (by decide) (fun c12 => ?_) (fun c12 => ?_)
      · replace hw := ite_t hw c12
        refine lv_goto (tgt := 2836) hx hb dL_law_1631 (by decide) ?_
        refine W.widen (k := cc0 + 40) (n := ss0 + 3000) (by omega) (by omega) ?_
        exact kk G7 _ _ _ hw hP hD hS (lv_sub hl [2, 3, 4, 5, 6, 7] rfl)
      · replace hw := ite_f hw c12
        exact hw.elim
  · replace hw := ite_f hw c9
    exact hw.elim
def wpL_law_22 (K : GS → Prop) (L : Nat) (xs : Nat → Int32) (v5 : Int32) (G : GS) : Prop :=
  vp_in (v5 + 1) L ∧
  wpL_daysUntilSound (fun (r3 : Int32) (G2 : GS) =>
  vp_in (v5 + 1) L ∧
    wpX9_daysUntilSound (fun (r6 : Int32) (G5 : GS) =>
    wpX9_thrown (fun (r8 : Int32) (G7 : GS) =>
      if r8 = r3 then
        if r3 = 0 then
          vp_in 0 1 ∧
            if (lg_cmp (G7.2.2.1 (0 : Int32).toNatClampNeg) r6.toInt64) = 0 then
            K G7
          else
            False
        else
          K G7
      else
        False)  G5) (xs (v5 + 1).toNatClampNeg) G2) (xs (v5 + 1).toNatClampNeg) G
set_option maxHeartbeats 4000000 in
set_option maxRecDepth 100000 in
theorem okL_law_22 {p : Program} {e : Env} {s : State} {m : MethodId} {below : List Frame} {meth : Method} {c : Code} (l : Launch) (hfl : l.stackTraces = false) {b L : Nat} {xs : Nat → Int32} (C0 : lw_At p s m meth c b L xs) {X : Cx} (hE : Ev X s s.heap) (hz : (X.2.2.2.2) ≤ s.heap.size) (hbA : ¬ xA X b) {K : GS → Prop} {v5 : Int32} {G : GS} {H : Heap} {locs : List Loc} {ls : Array Slot} {cc0 ss0 : Nat} {Q : State → Prop} (hc9 : cc0 + 40 ≤ 603072) (hs9 : ss0 + 3000 ≤ 7211114) (hw : wpL_law_22 K L xs v5 G) (hP : va_P (xD X) vwCl (pool X G) H) (hD : va_D (xA X) (pool X G)) (hS : va_S (xA X) s.heap H locs) (hl : lv_has ls 9 [(0, .ref b), (1, .ref (xa X 165)), (2, .ref (xa X 189)), (3, .ref (xa X 197)), (4, .ref (xa X 198)), (5, .int v5)])
    (kk : ∀ (G : GS) (H : Heap) (locs : List Loc) (ls : Array Slot), K G → va_P (xD X) vwCl (pool X G) H → va_D (xA X) (pool X G) → va_S (xA X) s.heap H locs → lv_has ls 9 [(0, .ref b), (1, .ref (xa X 165)), (2, .ref (xa X 189)), (3, .ref (xa X 197)), (4, .ref (xa X 198)), (5, .int v5)] → W p l e room_1 s m #[Value.ref b] below meth c H locs (cc0 + 40) (ss0 + 3000) Q (F0 m 2836 ls [])) : W p l e room_1 s m #[Value.ref b] below meth c H locs cc0 ss0 Q (F0 m 1634 ls []) := by
  obtain ⟨hx, hb, hr, hml, hown, hts, hX, hbl, hlocks, hgv⟩ := id C0
  unfold wpL_law_22 at hw
  refine lv_aload_n hx hb dL_law_1634 rfl (lv_at hl 1 rfl) ?_
  refine lv_aload_n hx hb dL_law_1635 rfl (lv_at hl 0 rfl) ?_
  refine lv_iload hx hb dL_law_1636 (lv_at hl 5 rfl) ?_
  refine lv_iconst (v := 1) hx hb dL_law_1638 (by decide) ?_
  refine lv_iadd hx hb dL_law_1639 ?_
  obtain ⟨y1, hw⟩ := hw
  refine va_sld hx hb hX hbl hbA hS y1 dL_law_1640 ?_
  refine lv_aload_n hx hb dL_law_1641 rfl (lv_at hl 3 rfl) ?_
  refine call_i (run_SW (cc := cL_law) (As := [.ref (xa X 165), .int (xs (v5 + 1).toNatClampNeg), .ref (xa X 197)]) (rest := []) hx hb hml hown hE hz (okL_daysUntilSound X l hfl  hw) qw_1282 qw_1283 qw_73 qw_1284 (myL_daysUntilSound).2 ⟨Nat.le_of_ble_eq_true rfl, Nat.le_of_ble_eq_true rfl⟩ hP hD hS rfl hl.1 rfl (Nat.le_of_ble_eq_true rfl) dL_law_1642 ⟨(by show _ ≤ 603072; omega), (by show _ ≤ 7211114; omega)⟩) hS (fun r3 G2 H locs hw hP hD hS => ?_)
  refine lv_istore (lv' := [(6, .int r3), (0, .ref b), (1, .ref (xa X 165)), (2, .ref (xa X 189)), (3, .ref (xa X 197)), (4, .ref (xa X 198)), (5, .int v5)]) hx hb dL_law_1645 hl (by decide) rfl (fun ls hl => ?_)
  refine lv_aload_n hx hb dL_law_1647 rfl (lv_at hl 3 rfl) ?_
  refine lv_aload_n hx hb dL_law_1648 rfl (lv_at hl 1 rfl) ?_
  refine lv_iload hx hb dL_law_1649 (lv_at hl 6 rfl) ?_
  refine lv_iconst (v := 1) hx hb dL_law_1651 (by decide) ?_
  refine lv_iadd hx hb dL_law_1652 ?_
  obtain ⟨y4, hw⟩ := hw
  refine va_sld hx hb hX hbl hbA hS y4 dL_law_1653 ?_
  refine call_i (run_V (cc := cL_law) (As := [.int (xs (v5 + 1).toNatClampNeg)]) (rest := []) hx hb hml hown hE hz (okX9_daysUntilSound X l hfl  hw) qw_1861 qw_1862 qw_1863 qw_86 qw_1864 (myX9_daysUntilSound) ⟨Nat.le_of_ble_eq_true rfl, Nat.le_of_ble_eq_true rfl⟩ (rv_X9 hE hP rfl) hP hD hS rfl hl.1 rfl (Nat.le_of_ble_eq_true rfl) dL_law_1654 ⟨(by show _ ≤ 603072; omega), (by show _ ≤ 7211114; omega)⟩) hS (fun r6 G5 H locs hw hP hD hS => ?_)
  refine lv_istore (lv' := [(7, .int r6), (6, .int r3), (0, .ref b), (1, .ref (xa X 165)), (2, .ref (xa X 189)), (3, .ref (xa X 197)), (4, .ref (xa X 198)), (5, .int v5)]) hx hb dL_law_1657 hl (by decide) rfl (fun ls hl => ?_)
  refine lv_aload_n hx hb dL_law_1659 rfl (lv_at hl 4 rfl) ?_
  refine call_i (run_V (cc := cL_law) (As := []) (rest := []) hx hb hml hown hE hz (okX9_thrown X l hfl  hw) qw_1560 qw_1561 qw_1562 qw_86 qw_1563 (myX9_thrown) ⟨Nat.le_of_ble_eq_true rfl, Nat.le_of_ble_eq_true rfl⟩ (rv_X9 hE hP rfl) hP hD hS rfl hl.1 rfl (Nat.le_of_ble_eq_true rfl) dL_law_1660 ⟨(by show _ ≤ 603072; omega), (by show _ ≤ 7211114; omega)⟩) hS (fun r8 G7 H locs hw hP hD hS => ?_)
  refine lv_iload hx hb dL_law_1663 (lv_at hl 1 rfl) ?_
  refine lv_icmp_eq (tgt := 1670) hx hb dL_law_1665 (by decide) (fun c9 => ?_) (fun c9 => ?_)
  · replace hw := ite_t hw c9
    refine lv_iload hx hb dL_law_1670 (lv_at hl 1 rfl) ?_
    refine lv_if_ne (tgt := 1687) hx hb dL_law_1672 (by decide) (fun c10 => ?_) (fun c10 => ?_)
    · replace hw := ite_f hw c10
      refine lv_goto (tgt := 2836) hx hb dL_law_1687 (by decide) ?_
      refine W.widen (k := cc0 + 40) (n := ss0 + 3000) (by omega) (by omega) ?_
      exact kk G7 _ _ _ hw hP hD hS (lv_sub hl [2, 3, 4, 5, 6, 7] rfl)
    · replace hw := ite_t hw c10
      refine lv_aload_n hx hb dL_law_1675 rfl (lv_at hl 5 rfl) ?_
      refine lv_iconst (v := 0) hx hb dL_law_1676 (by decide) ?_
      obtain ⟨y11, hw⟩ := hw
      refine lald_14 hx hb hE hP y11 dL_law_1677 ?_
      refine lv_iload hx hb dL_law_1678 (lv_at hl 0 rfl) ?_
      refine lv_i2l hx hb dL_law_1680 rfl ?_
      refine W.lcmp hx hb dL_law_1681 ?_
      refine lv_if_eq (tgt := 1687) hx hb dL_law_1682 (by decide) (fun c12 => ?_) (fun c12 => ?_)
      · replace hw := ite_t hw c12
        refine lv_goto (tgt := 2836) hx hb dL_law_1687 (by decide) ?_
        refine W.widen (k := cc0 + 40) (n := ss0 + 3000) (by omega) (by omega) ?_
        exact kk G7 _ _ _ hw hP hD hS (lv_sub hl [2, 3, 4, 5, 6, 7] rfl)
      · replace hw := ite_f hw c12
        exact hw.elim
  · replace hw := ite_f hw c9
    exact hw.elim
def wpL_law_23 (K : GS → Prop) (L : Nat) (xs : Nat → Int32) (v5 : Int32) (G : GS) : Prop :=
  vp_in (v5 + 1) L ∧
  wpL_daysUntilSoundByCounting (fun (r3 : Int32) (G2 : GS) =>
  vp_in (v5 + 1) L ∧
    wpX9_daysUntilSoundByCounting (fun (r6 : Int32) (G5 : GS) =>
    wpX9_thrown (fun (r8 : Int32) (G7 : GS) =>
      if r8 = r3 then
        if r3 = 0 then
          vp_in 0 1 ∧
            if (lg_cmp (G7.2.2.1 (0 : Int32).toNatClampNeg) r6.toInt64) = 0 then
            K G7
          else
            False
        else
          K G7
      else
        False)  G5) (xs (v5 + 1).toNatClampNeg) G2) (xs (v5 + 1).toNatClampNeg) G
set_option maxHeartbeats 4000000 in
set_option maxRecDepth 100000 in
theorem okL_law_23 {p : Program} {e : Env} {s : State} {m : MethodId} {below : List Frame} {meth : Method} {c : Code} (l : Launch) (hfl : l.stackTraces = false) {b L : Nat} {xs : Nat → Int32} (C0 : lw_At p s m meth c b L xs) {X : Cx} (hE : Ev X s s.heap) (hz : (X.2.2.2.2) ≤ s.heap.size) (hbA : ¬ xA X b) {K : GS → Prop} {v5 : Int32} {G : GS} {H : Heap} {locs : List Loc} {ls : Array Slot} {cc0 ss0 : Nat} {Q : State → Prop} (hc9 : cc0 + 40 ≤ 603072) (hs9 : ss0 + 3000 ≤ 7211114) (hw : wpL_law_23 K L xs v5 G) (hP : va_P (xD X) vwCl (pool X G) H) (hD : va_D (xA X) (pool X G)) (hS : va_S (xA X) s.heap H locs) (hl : lv_has ls 9 [(0, .ref b), (1, .ref (xa X 165)), (2, .ref (xa X 189)), (3, .ref (xa X 197)), (4, .ref (xa X 198)), (5, .int v5)])
    (kk : ∀ (G : GS) (H : Heap) (locs : List Loc) (ls : Array Slot), K G → va_P (xD X) vwCl (pool X G) H → va_D (xA X) (pool X G) → va_S (xA X) s.heap H locs → lv_has ls 9 [(0, .ref b), (1, .ref (xa X 165)), (2, .ref (xa X 189)), (3, .ref (xa X 197)), (4, .ref (xa X 198)), (5, .int v5)] → W p l e room_1 s m #[Value.ref b] below meth c H locs (cc0 + 40) (ss0 + 3000) Q (F0 m 2836 ls [])) : W p l e room_1 s m #[Value.ref b] below meth c H locs cc0 ss0 Q (F0 m 1690 ls []) := by
  obtain ⟨hx, hb, hr, hml, hown, hts, hX, hbl, hlocks, hgv⟩ := id C0
  unfold wpL_law_23 at hw
  refine lv_aload_n hx hb dL_law_1690 rfl (lv_at hl 1 rfl) ?_
  refine lv_aload_n hx hb dL_law_1691 rfl (lv_at hl 0 rfl) ?_
  refine lv_iload hx hb dL_law_1692 (lv_at hl 5 rfl) ?_
  refine lv_iconst (v := 1) hx hb dL_law_1694 (by decide) ?_
  refine lv_iadd hx hb dL_law_1695 ?_
  obtain ⟨y1, hw⟩ := hw
  refine va_sld hx hb hX hbl hbA hS y1 dL_law_1696 ?_
  refine lv_aload_n hx hb dL_law_1697 rfl (lv_at hl 3 rfl) ?_
  refine call_i (run_SW (cc := cL_law) (As := [.ref (xa X 165), .int (xs (v5 + 1).toNatClampNeg), .ref (xa X 197)]) (rest := []) hx hb hml hown hE hz (okL_daysUntilSoundByCounting X l hfl  hw) qw_1290 qw_1291 qw_73 qw_1292 (myL_daysUntilSoundByCounting).2 ⟨Nat.le_of_ble_eq_true rfl, Nat.le_of_ble_eq_true rfl⟩ hP hD hS rfl hl.1 rfl (Nat.le_of_ble_eq_true rfl) dL_law_1698 ⟨(by show _ ≤ 603072; omega), (by show _ ≤ 7211114; omega)⟩) hS (fun r3 G2 H locs hw hP hD hS => ?_)
  refine lv_istore (lv' := [(6, .int r3), (0, .ref b), (1, .ref (xa X 165)), (2, .ref (xa X 189)), (3, .ref (xa X 197)), (4, .ref (xa X 198)), (5, .int v5)]) hx hb dL_law_1701 hl (by decide) rfl (fun ls hl => ?_)
  refine lv_aload_n hx hb dL_law_1703 rfl (lv_at hl 3 rfl) ?_
  refine lv_aload_n hx hb dL_law_1704 rfl (lv_at hl 1 rfl) ?_
  refine lv_iload hx hb dL_law_1705 (lv_at hl 6 rfl) ?_
  refine lv_iconst (v := 1) hx hb dL_law_1707 (by decide) ?_
  refine lv_iadd hx hb dL_law_1708 ?_
  obtain ⟨y4, hw⟩ := hw
  refine va_sld hx hb hX hbl hbA hS y4 dL_law_1709 ?_
  refine call_i (run_V (cc := cL_law) (As := [.int (xs (v5 + 1).toNatClampNeg)]) (rest := []) hx hb hml hown hE hz (okX9_daysUntilSoundByCounting X l hfl  hw) qw_1865 qw_1866 qw_1867 qw_86 qw_1868 (myX9_daysUntilSoundByCounting) ⟨Nat.le_of_ble_eq_true rfl, Nat.le_of_ble_eq_true rfl⟩ (rv_X9 hE hP rfl) hP hD hS rfl hl.1 rfl (Nat.le_of_ble_eq_true rfl) dL_law_1710 ⟨(by show _ ≤ 603072; omega), (by show _ ≤ 7211114; omega)⟩) hS (fun r6 G5 H locs hw hP hD hS => ?_)
  refine lv_istore (lv' := [(7, .int r6), (6, .int r3), (0, .ref b), (1, .ref (xa X 165)), (2, .ref (xa X 189)), (3, .ref (xa X 197)), (4, .ref (xa X 198)), (5, .int v5)]) hx hb dL_law_1713 hl (by decide) rfl (fun ls hl => ?_)
  refine lv_aload_n hx hb dL_law_1715 rfl (lv_at hl 4 rfl) ?_
  refine call_i (run_V (cc := cL_law) (As := []) (rest := []) hx hb hml hown hE hz (okX9_thrown X l hfl  hw) qw_1560 qw_1561 qw_1562 qw_86 qw_1563 (myX9_thrown) ⟨Nat.le_of_ble_eq_true rfl, Nat.le_of_ble_eq_true rfl⟩ (rv_X9 hE hP rfl) hP hD hS rfl hl.1 rfl (Nat.le_of_ble_eq_true rfl) dL_law_1716 ⟨(by show _ ≤ 603072; omega), (by show _ ≤ 7211114; omega)⟩) hS (fun r8 G7 H locs hw hP hD hS => ?_)
  refine lv_iload hx hb dL_law_1719 (lv_at hl 1 rfl) ?_
  refine lv_icmp_eq (tgt := 1726) hx hb dL_law_1721 (by decide) (fun c9 => ?_) (fun c9 => ?_)
  · replace hw := ite_t hw c9
    refine lv_iload hx hb dL_law_1726 (lv_at hl 1 rfl) ?_
    refine lv_if_ne (tgt := 1743) hx hb dL_law_1728 (by decide) (fun c10 => ?_) (fun c10 => ?_)
    · replace hw := ite_f hw c10
      refine lv_goto (tgt := 2836) hx hb dL_law_1743 (by decide) ?_
      refine W.widen (k := cc0 + 40) (n := ss0 + 3000) (by omega) (by omega) ?_
      exact kk G7 _ _ _ hw hP hD hS (lv_sub hl [2, 3, 4, 5, 6, 7] rfl)
    · replace hw := ite_t hw c10
      refine lv_aload_n hx hb dL_law_1731 rfl (lv_at hl 5 rfl) ?_
      refine lv_iconst (v := 0) hx hb dL_law_1732 (by decide) ?_
      obtain ⟨y11, hw⟩ := hw
      refine lald_14 hx hb hE hP y11 dL_law_1733 ?_
      refine lv_iload hx hb dL_law_1734 (lv_at hl 0 rfl) ?_
      refine lv_i2l hx hb dL_law_1736 rfl ?_
      refine W.lcmp hx hb dL_law_1737 ?_
      refine lv_if_eq (tgt := 1743) hx hb dL_law_1738 (by decide) (fun c12 => ?_) (fun c12 => ?_)
      · replace hw := ite_t hw c12
        refine lv_goto (tgt := 2836) hx hb dL_law_1743 (by decide) ?_
        refine W.widen (k := cc0 + 40) (n := ss0 + 3000) (by omega) (by omega) ?_
        exact kk G7 _ _ _ hw hP hD hS (lv_sub hl [2, 3, 4, 5, 6, 7] rfl)
      · replace hw := ite_f hw c12
        exact hw.elim
  · replace hw := ite_f hw c9
    exact hw.elim
def wpL_law_24 (K : GS → Prop) (L : Nat) (xs : Nat → Int32) (v5 : Int32) (G : GS) : Prop :=
  vp_in (v5 + 1) L ∧
  vp_in (v5 + 2) L ∧
  wpL_mostFlies (fun (r4 : Int32) (G3 : GS) =>
  vp_in (v5 + 1) L ∧
    vp_in (v5 + 2) L ∧
    wpX9_mostFlies (fun (r8 : Int32) (G7 : GS) =>
    wpX9_thrown (fun (r10 : Int32) (G9 : GS) =>
      if r10 = r4 then
        if r4 = 0 then
          vp_in 0 1 ∧
            if (lg_cmp (G9.2.2.1 (0 : Int32).toNatClampNeg) r8.toInt64) = 0 then
            K G9
          else
            False
        else
          K G9
      else
        False)  G7) (xs (v5 + 1).toNatClampNeg) (((xs (v5 + 2).toNatClampNeg).toUInt32 % 65536).toInt32) G3) (xs (v5 + 1).toNatClampNeg) (((xs (v5 + 2).toNatClampNeg).toUInt32 % 65536).toInt32) G
set_option maxHeartbeats 4000000 in
set_option maxRecDepth 100000 in
theorem okL_law_24 {p : Program} {e : Env} {s : State} {m : MethodId} {below : List Frame} {meth : Method} {c : Code} (l : Launch) (hfl : l.stackTraces = false) {b L : Nat} {xs : Nat → Int32} (C0 : lw_At p s m meth c b L xs) {X : Cx} (hE : Ev X s s.heap) (hz : (X.2.2.2.2) ≤ s.heap.size) (hbA : ¬ xA X b) {K : GS → Prop} {v5 : Int32} {G : GS} {H : Heap} {locs : List Loc} {ls : Array Slot} {cc0 ss0 : Nat} {Q : State → Prop} (hc9 : cc0 + 40 ≤ 603072) (hs9 : ss0 + 3000 ≤ 7211114) (hw : wpL_law_24 K L xs v5 G) (hP : va_P (xD X) vwCl (pool X G) H) (hD : va_D (xA X) (pool X G)) (hS : va_S (xA X) s.heap H locs) (hl : lv_has ls 9 [(0, .ref b), (1, .ref (xa X 165)), (2, .ref (xa X 189)), (3, .ref (xa X 197)), (4, .ref (xa X 198)), (5, .int v5)])
    (kk : ∀ (G : GS) (H : Heap) (locs : List Loc) (ls : Array Slot), K G → va_P (xD X) vwCl (pool X G) H → va_D (xA X) (pool X G) → va_S (xA X) s.heap H locs → lv_has ls 9 [(0, .ref b), (1, .ref (xa X 165)), (2, .ref (xa X 189)), (3, .ref (xa X 197)), (4, .ref (xa X 198)), (5, .int v5)] → W p l e room_1 s m #[Value.ref b] below meth c H locs (cc0 + 40) (ss0 + 3000) Q (F0 m 2836 ls [])) : W p l e room_1 s m #[Value.ref b] below meth c H locs cc0 ss0 Q (F0 m 1746 ls []) := by
  obtain ⟨hx, hb, hr, hml, hown, hts, hX, hbl, hlocks, hgv⟩ := id C0
  unfold wpL_law_24 at hw
  refine lv_aload_n hx hb dL_law_1746 rfl (lv_at hl 1 rfl) ?_
  refine lv_aload_n hx hb dL_law_1747 rfl (lv_at hl 0 rfl) ?_
  refine lv_iload hx hb dL_law_1748 (lv_at hl 5 rfl) ?_
  refine lv_iconst (v := 1) hx hb dL_law_1750 (by decide) ?_
  refine lv_iadd hx hb dL_law_1751 ?_
  obtain ⟨y1, hw⟩ := hw
  refine va_sld hx hb hX hbl hbA hS y1 dL_law_1752 ?_
  refine lv_aload_n hx hb dL_law_1753 rfl (lv_at hl 0 rfl) ?_
  refine lv_iload hx hb dL_law_1754 (lv_at hl 5 rfl) ?_
  refine lv_iconst (v := 2) hx hb dL_law_1756 (by decide) ?_
  refine lv_iadd hx hb dL_law_1757 ?_
  obtain ⟨y2, hw⟩ := hw
  refine va_sld hx hb hX hbl hbA hS y2 dL_law_1758 ?_
  refine lv_i2c hx hb dL_law_1759 rfl ?_
  refine lv_aload_n hx hb dL_law_1760 rfl (lv_at hl 3 rfl) ?_
  refine call_i (run_SW (cc := cL_law) (As := [.ref (xa X 165), .int (xs (v5 + 1).toNatClampNeg), .int (((xs (v5 + 2).toNatClampNeg).toUInt32 % 65536).toInt32), .ref (xa X 197)]) (rest := []) hx hb hml hown hE hz (okL_mostFlies X l hfl  hw) qw_1298 qw_1299 qw_73 qw_1300 (myL_mostFlies).2 ⟨Nat.le_of_ble_eq_true rfl, Nat.le_of_ble_eq_true rfl⟩ hP hD hS rfl hl.1 rfl (Nat.le_of_ble_eq_true rfl) dL_law_1761 ⟨(by show _ ≤ 603072; omega), (by show _ ≤ 7211114; omega)⟩) hS (fun r4 G3 H locs hw hP hD hS => ?_)
  refine lv_istore (lv' := [(6, .int r4), (0, .ref b), (1, .ref (xa X 165)), (2, .ref (xa X 189)), (3, .ref (xa X 197)), (4, .ref (xa X 198)), (5, .int v5)]) hx hb dL_law_1764 hl (by decide) rfl (fun ls hl => ?_)
  refine lv_aload_n hx hb dL_law_1766 rfl (lv_at hl 3 rfl) ?_
  refine lv_aload_n hx hb dL_law_1767 rfl (lv_at hl 1 rfl) ?_
  refine lv_iload hx hb dL_law_1768 (lv_at hl 6 rfl) ?_
  refine lv_iconst (v := 1) hx hb dL_law_1770 (by decide) ?_
  refine lv_iadd hx hb dL_law_1771 ?_
  obtain ⟨y5, hw⟩ := hw
  refine va_sld hx hb hX hbl hbA hS y5 dL_law_1772 ?_
  refine lv_aload_n hx hb dL_law_1773 rfl (lv_at hl 1 rfl) ?_
  refine lv_iload hx hb dL_law_1774 (lv_at hl 6 rfl) ?_
  refine lv_iconst (v := 2) hx hb dL_law_1776 (by decide) ?_
  refine lv_iadd hx hb dL_law_1777 ?_
  obtain ⟨y6, hw⟩ := hw
  refine va_sld hx hb hX hbl hbA hS y6 dL_law_1778 ?_
  refine lv_i2c hx hb dL_law_1779 rfl ?_
  refine call_i (run_V (cc := cL_law) (As := [.int (xs (v5 + 1).toNatClampNeg), .int (((xs (v5 + 2).toNatClampNeg).toUInt32 % 65536).toInt32)]) (rest := []) hx hb hml hown hE hz (okX9_mostFlies X l hfl  hw) qw_1870 qw_1871 qw_1872 qw_86 qw_1873 (myX9_mostFlies) ⟨Nat.le_of_ble_eq_true rfl, Nat.le_of_ble_eq_true rfl⟩ (rv_X9 hE hP rfl) hP hD hS rfl hl.1 rfl (Nat.le_of_ble_eq_true rfl) dL_law_1780 ⟨(by show _ ≤ 603072; omega), (by show _ ≤ 7211114; omega)⟩) hS (fun r8 G7 H locs hw hP hD hS => ?_)
  refine lv_istore (lv' := [(7, .int r8), (6, .int r4), (0, .ref b), (1, .ref (xa X 165)), (2, .ref (xa X 189)), (3, .ref (xa X 197)), (4, .ref (xa X 198)), (5, .int v5)]) hx hb dL_law_1783 hl (by decide) rfl (fun ls hl => ?_)
  refine lv_aload_n hx hb dL_law_1785 rfl (lv_at hl 4 rfl) ?_
  refine call_i (run_V (cc := cL_law) (As := []) (rest := []) hx hb hml hown hE hz (okX9_thrown X l hfl  hw) qw_1560 qw_1561 qw_1562 qw_86 qw_1563 (myX9_thrown) ⟨Nat.le_of_ble_eq_true rfl, Nat.le_of_ble_eq_true rfl⟩ (rv_X9 hE hP rfl) hP hD hS rfl hl.1 rfl (Nat.le_of_ble_eq_true rfl) dL_law_1786 ⟨(by show _ ≤ 603072; omega), (by show _ ≤ 7211114; omega)⟩) hS (fun r10 G9 H locs hw hP hD hS => ?_)
  refine lv_iload hx hb dL_law_1789 (lv_at hl 1 rfl) ?_
  refine lv_icmp_eq (tgt := 1796) hx hb dL_law_1791 (by decide) (fun c11 => ?_) (fun c11 => ?_)
  · replace hw := ite_t hw c11
    refine lv_iload hx hb dL_law_1796 (lv_at hl 1 rfl) ?_
    refine lv_if_ne (tgt := 1813) hx hb dL_law_1798 (by decide) (fun c12 => ?_) (fun c12 => ?_)
    · replace hw := ite_f hw c12
      refine lv_goto (tgt := 2836) hx hb dL_law_1813 (by decide) ?_
      refine W.widen (k := cc0 + 40) (n := ss0 + 3000) (by omega) (by omega) ?_
      exact kk G9 _ _ _ hw hP hD hS (lv_sub hl [2, 3, 4, 5, 6, 7] rfl)
    · replace hw := ite_t hw c12
      refine lv_aload_n hx hb dL_law_1801 rfl (lv_at hl 5 rfl) ?_
      refine lv_iconst (v := 0) hx hb dL_law_1802 (by decide) ?_
      obtain ⟨y13, hw⟩ := hw
      refine lald_14 hx hb hE hP y13 dL_law_1803 ?_
      refine lv_iload hx hb dL_law_1804 (lv_at hl 0 rfl) ?_
      refine lv_i2l hx hb dL_law_1806 rfl ?_
      refine W.lcmp hx hb dL_law_1807 ?_
      refine lv_if_eq (tgt := 1813) hx hb dL_law_1808 (by decide) (fun c14 => ?_) (fun c14 => ?_)
      · replace hw := ite_t hw c14
        refine lv_goto (tgt := 2836) hx hb dL_law_1813 (by decide) ?_
        refine W.widen (k := cc0 + 40) (n := ss0 + 3000) (by omega) (by omega) ?_
        exact kk G9 _ _ _ hw hP hD hS (lv_sub hl [2, 3, 4, 5, 6, 7] rfl)
      · replace hw := ite_f hw c14
        exact hw.elim
  · replace hw := ite_f hw c11
    exact hw.elim
def wpL_law_25 (K : GS → Prop) (L : Nat) (xs : Nat → Int32) (v5 : Int32) (G : GS) : Prop :=
  vp_in (v5 + 1) L ∧
  vp_in (v5 + 2) L ∧
  wpL_mostFliesByExchanges (fun (r4 : Int32) (G3 : GS) =>
  vp_in (v5 + 1) L ∧
    vp_in (v5 + 2) L ∧
    wpX9_mostFliesByExchanges (fun (r8 : Int32) (G7 : GS) =>
    wpX9_thrown (fun (r10 : Int32) (G9 : GS) =>
      if r10 = r4 then
        if r4 = 0 then
          vp_in 0 1 ∧
            if (lg_cmp (G9.2.2.1 (0 : Int32).toNatClampNeg) r8.toInt64) = 0 then
            K G9
          else
            False
        else
          K G9
      else
        False)  G7) (xs (v5 + 1).toNatClampNeg) (((xs (v5 + 2).toNatClampNeg).toUInt32 % 65536).toInt32) G3) (xs (v5 + 1).toNatClampNeg) (((xs (v5 + 2).toNatClampNeg).toUInt32 % 65536).toInt32) G
set_option maxHeartbeats 4000000 in
set_option maxRecDepth 100000 in
theorem okL_law_25 {p : Program} {e : Env} {s : State} {m : MethodId} {below : List Frame} {meth : Method} {c : Code} (l : Launch) (hfl : l.stackTraces = false) {b L : Nat} {xs : Nat → Int32} (C0 : lw_At p s m meth c b L xs) {X : Cx} (hE : Ev X s s.heap) (hz : (X.2.2.2.2) ≤ s.heap.size) (hbA : ¬ xA X b) {K : GS → Prop} {v5 : Int32} {G : GS} {H : Heap} {locs : List Loc} {ls : Array Slot} {cc0 ss0 : Nat} {Q : State → Prop} (hc9 : cc0 + 40 ≤ 603072) (hs9 : ss0 + 3000 ≤ 7211114) (hw : wpL_law_25 K L xs v5 G) (hP : va_P (xD X) vwCl (pool X G) H) (hD : va_D (xA X) (pool X G)) (hS : va_S (xA X) s.heap H locs) (hl : lv_has ls 9 [(0, .ref b), (1, .ref (xa X 165)), (2, .ref (xa X 189)), (3, .ref (xa X 197)), (4, .ref (xa X 198)), (5, .int v5)])
    (kk : ∀ (G : GS) (H : Heap) (locs : List Loc) (ls : Array Slot), K G → va_P (xD X) vwCl (pool X G) H → va_D (xA X) (pool X G) → va_S (xA X) s.heap H locs → lv_has ls 9 [(0, .ref b), (1, .ref (xa X 165)), (2, .ref (xa X 189)), (3, .ref (xa X 197)), (4, .ref (xa X 198)), (5, .int v5)] → W p l e room_1 s m #[Value.ref b] below meth c H locs (cc0 + 40) (ss0 + 3000) Q (F0 m 2836 ls [])) : W p l e room_1 s m #[Value.ref b] below meth c H locs cc0 ss0 Q (F0 m 1816 ls []) := by
  obtain ⟨hx, hb, hr, hml, hown, hts, hX, hbl, hlocks, hgv⟩ := id C0
  unfold wpL_law_25 at hw
  refine lv_aload_n hx hb dL_law_1816 rfl (lv_at hl 1 rfl) ?_
  refine lv_aload_n hx hb dL_law_1817 rfl (lv_at hl 0 rfl) ?_
  refine lv_iload hx hb dL_law_1818 (lv_at hl 5 rfl) ?_
  refine lv_iconst (v := 1) hx hb dL_law_1820 (by decide) ?_
  refine lv_iadd hx hb dL_law_1821 ?_
  obtain ⟨y1, hw⟩ := hw
  refine va_sld hx hb hX hbl hbA hS y1 dL_law_1822 ?_
  refine lv_aload_n hx hb dL_law_1823 rfl (lv_at hl 0 rfl) ?_
  refine lv_iload hx hb dL_law_1824 (lv_at hl 5 rfl) ?_
  refine lv_iconst (v := 2) hx hb dL_law_1826 (by decide) ?_
  refine lv_iadd hx hb dL_law_1827 ?_
  obtain ⟨y2, hw⟩ := hw
  refine va_sld hx hb hX hbl hbA hS y2 dL_law_1828 ?_
  refine lv_i2c hx hb dL_law_1829 rfl ?_
  refine lv_aload_n hx hb dL_law_1830 rfl (lv_at hl 3 rfl) ?_
  refine call_i (run_SW (cc := cL_law) (As := [.ref (xa X 165), .int (xs (v5 + 1).toNatClampNeg), .int (((xs (v5 + 2).toNatClampNeg).toUInt32 % 65536).toInt32), .ref (xa X 197)]) (rest := []) hx hb hml hown hE hz (okL_mostFliesByExchanges X l hfl  hw) qw_1310 qw_1311 qw_73 qw_1312 (myL_mostFliesByExchanges).2 ⟨Nat.le_of_ble_eq_true rfl, Nat.le_of_ble_eq_true rfl⟩ hP hD hS rfl hl.1 rfl (Nat.le_of_ble_eq_true rfl) dL_law_1831 ⟨(by show _ ≤ 603072; omega), (by show _ ≤ 7211114; omega)⟩) hS (fun r4 G3 H locs hw hP hD hS => ?_)
  refine lv_istore (lv' := [(6, .int r4), (0, .ref b), (1, .ref (xa X 165)), (2, .ref (xa X 189)), (3, .ref (xa X 197)), (4, .ref (xa X 198)), (5, .int v5)]) hx hb dL_law_1834 hl (by decide) rfl (fun ls hl => ?_)
  refine lv_aload_n hx hb dL_law_1836 rfl (lv_at hl 3 rfl) ?_
  refine lv_aload_n hx hb dL_law_1837 rfl (lv_at hl 1 rfl) ?_
  refine lv_iload hx hb dL_law_1838 (lv_at hl 6 rfl) ?_
  refine lv_iconst (v := 1) hx hb dL_law_1840 (by decide) ?_
  refine lv_iadd hx hb dL_law_1841 ?_
  obtain ⟨y5, hw⟩ := hw
  refine va_sld hx hb hX hbl hbA hS y5 dL_law_1842 ?_
  refine lv_aload_n hx hb dL_law_1843 rfl (lv_at hl 1 rfl) ?_
  refine lv_iload hx hb dL_law_1844 (lv_at hl 6 rfl) ?_
  refine lv_iconst (v := 2) hx hb dL_law_1846 (by decide) ?_
  refine lv_iadd hx hb dL_law_1847 ?_
  obtain ⟨y6, hw⟩ := hw
  refine va_sld hx hb hX hbl hbA hS y6 dL_law_1848 ?_
  refine lv_i2c hx hb dL_law_1849 rfl ?_
  refine call_i (run_V (cc := cL_law) (As := [.int (xs (v5 + 1).toNatClampNeg), .int (((xs (v5 + 2).toNatClampNeg).toUInt32 % 65536).toInt32)]) (rest := []) hx hb hml hown hE hz (okX9_mostFliesByExchanges X l hfl  hw) qw_1874 qw_1875 qw_1876 qw_86 qw_1877 (myX9_mostFliesByExchanges) ⟨Nat.le_of_ble_eq_true rfl, Nat.le_of_ble_eq_true rfl⟩ (rv_X9 hE hP rfl) hP hD hS rfl hl.1 rfl (Nat.le_of_ble_eq_true rfl) dL_law_1850 ⟨(by show _ ≤ 603072; omega), (by show _ ≤ 7211114; omega)⟩) hS (fun r8 G7 H locs hw hP hD hS => ?_)
  refine lv_istore (lv' := [(7, .int r8), (6, .int r4), (0, .ref b), (1, .ref (xa X 165)), (2, .ref (xa X 189)), (3, .ref (xa X 197)), (4, .ref (xa X 198)), (5, .int v5)]) hx hb dL_law_1853 hl (by decide) rfl (fun ls hl => ?_)
  refine lv_aload_n hx hb dL_law_1855 rfl (lv_at hl 4 rfl) ?_
  refine call_i (run_V (cc := cL_law) (As := []) (rest := []) hx hb hml hown hE hz (okX9_thrown X l hfl  hw) qw_1560 qw_1561 qw_1562 qw_86 qw_1563 (myX9_thrown) ⟨Nat.le_of_ble_eq_true rfl, Nat.le_of_ble_eq_true rfl⟩ (rv_X9 hE hP rfl) hP hD hS rfl hl.1 rfl (Nat.le_of_ble_eq_true rfl) dL_law_1856 ⟨(by show _ ≤ 603072; omega), (by show _ ≤ 7211114; omega)⟩) hS (fun r10 G9 H locs hw hP hD hS => ?_)
  refine lv_iload hx hb dL_law_1859 (lv_at hl 1 rfl) ?_
  refine lv_icmp_eq (tgt := 1866) hx hb dL_law_1861 (by decide) (fun c11 => ?_) (fun c11 => ?_)
  · replace hw := ite_t hw c11
    refine lv_iload hx hb dL_law_1866 (lv_at hl 1 rfl) ?_
    refine lv_if_ne (tgt := 1883) hx hb dL_law_1868 (by decide) (fun c12 => ?_) (fun c12 => ?_)
    · replace hw := ite_f hw c12
      refine lv_goto (tgt := 2836) hx hb dL_law_1883 (by decide) ?_
      refine W.widen (k := cc0 + 40) (n := ss0 + 3000) (by omega) (by omega) ?_
      exact kk G9 _ _ _ hw hP hD hS (lv_sub hl [2, 3, 4, 5, 6, 7] rfl)
    · replace hw := ite_t hw c12
      refine lv_aload_n hx hb dL_law_1871 rfl (lv_at hl 5 rfl) ?_
      refine lv_iconst (v := 0) hx hb dL_law_1872 (by decide) ?_
      obtain ⟨y13, hw⟩ := hw
      refine lald_14 hx hb hE hP y13 dL_law_1873 ?_
      refine lv_iload hx hb dL_law_1874 (lv_at hl 0 rfl) ?_
      refine lv_i2l hx hb dL_law_1876 rfl ?_
      refine W.lcmp hx hb dL_law_1877 ?_
      refine lv_if_eq (tgt := 1883) hx hb dL_law_1878 (by decide) (fun c14 => ?_) (fun c14 => ?_)
      · replace hw := ite_t hw c14
        refine lv_goto (tgt := 2836) hx hb dL_law_1883 (by decide) ?_
        refine W.widen (k := cc0 + 40) (n := ss0 + 3000) (by omega) (by omega) ?_
        exact kk G9 _ _ _ hw hP hD hS (lv_sub hl [2, 3, 4, 5, 6, 7] rfl)
      · replace hw := ite_f hw c14
        exact hw.elim
  · replace hw := ite_f hw c11
    exact hw.elim
