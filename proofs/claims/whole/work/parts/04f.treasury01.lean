def wpX8_mintable (post : Int32 → GS → Prop) (xpost : String → GS → Prop) (a1 : Int32) (G : GS) : Prop :=
  wpX8_vaultAt (fun (r2 : Nat) (G1 : GS) =>
  kd r2 = 3 ∧
    wpX7_dropsFreeAt (fun (r5 : Int32) (G4 : GS) =>
    post r5 G4) r2 (0 + 2) G1) xpost a1 G
set_option maxHeartbeats 4000000 in
set_option maxRecDepth 100000 in
theorem okX8_mintable (X : Cx) (l : Launch) (hfl : l.stackTraces = false) {post : Int32 → GS → Prop} {xpost : String → GS → Prop} {a1 : Int32} {G : GS}  (hw : wpX8_mintable post xpost a1 G) : CX X l yX8_mintable cX8_mintable 2 (some FieldType.int) 7 1 6 [.ref (xa X 165), .int a1] G (Qi X post) xpost := by
  refine xbegin (by decide) (Nat.le_of_ble_eq_true rfl) (fun p e s m below meth c hx hb hr hml hlk hown hno hE hz ls hl hP hD hS => ?_)
  have hl : lv_has ls 2 [(0, .ref (xa X 165)), (1, .int a1)] := hl
  have hown : s.vm.findClass "FlyTreasury" = some m.cls := hown
  unfold wpX8_mintable at hw
  refine lv_aload_n hx hb dX8_mintable_0 rfl (lv_at hl 0 rfl) ?_
  refine lv_iload_n hx hb dX8_mintable_1 rfl (lv_at hl 1 rfl) ?_
  refine xcall_r (xrun_V (cc := cX8_mintable) (As := [.int a1]) (rest := []) hx hb hml hown hE hz (okX8_vaultAt X l hfl  hw) qw_1180 qw_1182 qw_3 qw_74 qw_1183 (myX8_vaultAt) ⟨Nat.le_of_ble_eq_true rfl, Nat.le_of_ble_eq_true rfl⟩ (rv_X8 hE hP rfl) hP hD hS rfl hl.1 rfl (Nat.le_of_ble_eq_true rfl) dX8_mintable_2 ⟨Nat.le_of_ble_eq_true rfl, Nat.le_of_ble_eq_true rfl⟩) hS (fun E ce q9 G9 H locs hw hP hD hS hce hcv hcl => ?_) (fun r2 G1 H locs hw hP hD hS => ?_)
  · exact xout hno hlk hce hcv hcl hw hP hD hS (Nat.le_of_ble_eq_true rfl) (Nat.le_of_ble_eq_true rfl)
  · obtain ⟨y3, hw⟩ := hw
    refine lv_aload_n hx hb dX8_mintable_5 rfl (lv_at hl 0 rfl) ?_
    refine gf_X8_0 hx hb hE hP hown rfl (hE.w qw_318 rfl _) dX8_mintable_6 ?_
    refine gn_X3_1 hx hb hE hP hown rfl (hE.w qw_163 rfl _) dX8_mintable_9 ?_
    refine call_i (run_V (cc := cX8_mintable) (As := [.ref (xa X (0 + 2))]) (rest := []) hx hb hml hown hE hz (okX7_dropsFreeAt X l hfl y3 (k0_2 rfl) hw) qw_1281 qw_1066 qw_1067 qw_76 qw_1068 (myX7_dropsFreeAt) ⟨Nat.le_of_ble_eq_true rfl, Nat.le_of_ble_eq_true rfl⟩ (rv_X7 hE hP y3) hP hD hS rfl hl.1 rfl (Nat.le_of_ble_eq_true rfl) dX8_mintable_12 ⟨Nat.le_of_ble_eq_true rfl, Nat.le_of_ble_eq_true rfl⟩) hS (fun r5 G4 H locs hw hP hD hS => ?_)
    refine vx_ret ?_
    exact end_i hx hb hr hlk rfl hw hP hD hS dX8_mintable_15
def wpX8_daysUntilSound (post : Int32 → GS → Prop) (xpost : String → GS → Prop) (a1 : Int32) (G : GS) : Prop :=
  wpX8_vaultAt (fun (r2 : Nat) (G1 : GS) =>
  kd r2 = 3 ∧
    wpX7_daysBySubtraction (fun (r5 : Int32) (G4 : GS) =>
    post r5 G4) r2 (0 + 2) G1) xpost a1 G
set_option maxHeartbeats 4000000 in
set_option maxRecDepth 100000 in
theorem okX8_daysUntilSound (X : Cx) (l : Launch) (hfl : l.stackTraces = false) {post : Int32 → GS → Prop} {xpost : String → GS → Prop} {a1 : Int32} {G : GS}  (hw : wpX8_daysUntilSound post xpost a1 G) : CX X l yX8_daysUntilSound cX8_daysUntilSound 2 (some FieldType.int) 7 1 6 [.ref (xa X 165), .int a1] G (Qi X post) xpost := by
  refine xbegin (by decide) (Nat.le_of_ble_eq_true rfl) (fun p e s m below meth c hx hb hr hml hlk hown hno hE hz ls hl hP hD hS => ?_)
  have hl : lv_has ls 2 [(0, .ref (xa X 165)), (1, .int a1)] := hl
  have hown : s.vm.findClass "FlyTreasury" = some m.cls := hown
  unfold wpX8_daysUntilSound at hw
  refine lv_aload_n hx hb dX8_daysUntilSound_0 rfl (lv_at hl 0 rfl) ?_
  refine lv_iload_n hx hb dX8_daysUntilSound_1 rfl (lv_at hl 1 rfl) ?_
  refine xcall_r (xrun_V (cc := cX8_daysUntilSound) (As := [.int a1]) (rest := []) hx hb hml hown hE hz (okX8_vaultAt X l hfl  hw) qw_1180 qw_1182 qw_3 qw_74 qw_1183 (myX8_vaultAt) ⟨Nat.le_of_ble_eq_true rfl, Nat.le_of_ble_eq_true rfl⟩ (rv_X8 hE hP rfl) hP hD hS rfl hl.1 rfl (Nat.le_of_ble_eq_true rfl) dX8_daysUntilSound_2 ⟨Nat.le_of_ble_eq_true rfl, Nat.le_of_ble_eq_true rfl⟩) hS (fun E ce q9 G9 H locs hw hP hD hS hce hcv hcl => ?_) (fun r2 G1 H locs hw hP hD hS => ?_)
  · exact xout hno hlk hce hcv hcl hw hP hD hS (Nat.le_of_ble_eq_true rfl) (Nat.le_of_ble_eq_true rfl)
  · obtain ⟨y3, hw⟩ := hw
    refine lv_aload_n hx hb dX8_daysUntilSound_5 rfl (lv_at hl 0 rfl) ?_
    refine gf_X8_0 hx hb hE hP hown rfl (hE.w qw_318 rfl _) dX8_daysUntilSound_6 ?_
    refine gn_X3_1 hx hb hE hP hown rfl (hE.w qw_163 rfl _) dX8_daysUntilSound_9 ?_
    refine call_i (run_V (cc := cX8_daysUntilSound) (As := [.ref (xa X (0 + 2))]) (rest := []) hx hb hml hown hE hz (okX7_daysBySubtraction X l hfl y3 (k0_2 rfl) hw) qw_1289 qw_425 qw_426 qw_76 qw_427 (myX7_daysBySubtraction) ⟨Nat.le_of_ble_eq_true rfl, Nat.le_of_ble_eq_true rfl⟩ (rv_X7 hE hP y3) hP hD hS rfl hl.1 rfl (Nat.le_of_ble_eq_true rfl) dX8_daysUntilSound_12 ⟨Nat.le_of_ble_eq_true rfl, Nat.le_of_ble_eq_true rfl⟩) hS (fun r5 G4 H locs hw hP hD hS => ?_)
    refine vx_ret ?_
    exact end_i hx hb hr hlk rfl hw hP hD hS dX8_daysUntilSound_15
def wpX8_daysUntilSoundByCounting (post : Int32 → GS → Prop) (xpost : String → GS → Prop) (a1 : Int32) (G : GS) : Prop :=
  wpX8_vaultAt (fun (r2 : Nat) (G1 : GS) =>
  kd r2 = 3 ∧
    wpX7_daysByCounting (fun (r5 : Int32) (G4 : GS) =>
    post r5 G4) r2 (0 + 2) G1) xpost a1 G
set_option maxHeartbeats 4000000 in
set_option maxRecDepth 100000 in
theorem okX8_daysUntilSoundByCounting (X : Cx) (l : Launch) (hfl : l.stackTraces = false) {post : Int32 → GS → Prop} {xpost : String → GS → Prop} {a1 : Int32} {G : GS}  (hw : wpX8_daysUntilSoundByCounting post xpost a1 G) : CX X l yX8_daysUntilSoundByCounting cX8_daysUntilSoundByCounting 2 (some FieldType.int) 7 1 6 [.ref (xa X 165), .int a1] G (Qi X post) xpost := by
  refine xbegin (by decide) (Nat.le_of_ble_eq_true rfl) (fun p e s m below meth c hx hb hr hml hlk hown hno hE hz ls hl hP hD hS => ?_)
  have hl : lv_has ls 2 [(0, .ref (xa X 165)), (1, .int a1)] := hl
  have hown : s.vm.findClass "FlyTreasury" = some m.cls := hown
  unfold wpX8_daysUntilSoundByCounting at hw
  refine lv_aload_n hx hb dX8_daysUntilSoundByCounting_0 rfl (lv_at hl 0 rfl) ?_
  refine lv_iload_n hx hb dX8_daysUntilSoundByCounting_1 rfl (lv_at hl 1 rfl) ?_
  refine xcall_r (xrun_V (cc := cX8_daysUntilSoundByCounting) (As := [.int a1]) (rest := []) hx hb hml hown hE hz (okX8_vaultAt X l hfl  hw) qw_1180 qw_1182 qw_3 qw_74 qw_1183 (myX8_vaultAt) ⟨Nat.le_of_ble_eq_true rfl, Nat.le_of_ble_eq_true rfl⟩ (rv_X8 hE hP rfl) hP hD hS rfl hl.1 rfl (Nat.le_of_ble_eq_true rfl) dX8_daysUntilSoundByCounting_2 ⟨Nat.le_of_ble_eq_true rfl, Nat.le_of_ble_eq_true rfl⟩) hS (fun E ce q9 G9 H locs hw hP hD hS hce hcv hcl => ?_) (fun r2 G1 H locs hw hP hD hS => ?_)
  · exact xout hno hlk hce hcv hcl hw hP hD hS (Nat.le_of_ble_eq_true rfl) (Nat.le_of_ble_eq_true rfl)
  · obtain ⟨y3, hw⟩ := hw
    refine lv_aload_n hx hb dX8_daysUntilSoundByCounting_5 rfl (lv_at hl 0 rfl) ?_
    refine gf_X8_0 hx hb hE hP hown rfl (hE.w qw_318 rfl _) dX8_daysUntilSoundByCounting_6 ?_
    refine gn_X3_1 hx hb hE hP hown rfl (hE.w qw_163 rfl _) dX8_daysUntilSoundByCounting_9 ?_
    refine call_i (run_V (cc := cX8_daysUntilSoundByCounting) (As := [.ref (xa X (0 + 2))]) (rest := []) hx hb hml hown hE hz (okX7_daysByCounting X l hfl y3 (k0_2 rfl) hw) qw_1297 qw_441 qw_442 qw_76 qw_443 (myX7_daysByCounting) ⟨Nat.le_of_ble_eq_true rfl, Nat.le_of_ble_eq_true rfl⟩ (rv_X7 hE hP y3) hP hD hS rfl hl.1 rfl (Nat.le_of_ble_eq_true rfl) dX8_daysUntilSoundByCounting_12 ⟨Nat.le_of_ble_eq_true rfl, Nat.le_of_ble_eq_true rfl⟩) hS (fun r5 G4 H locs hw hP hD hS => ?_)
    refine vx_ret ?_
    exact end_i hx hb hr hlk rfl hw hP hD hS dX8_daysUntilSoundByCounting_15
def wpX8_mostFlies (post : Int32 → GS → Prop) (xpost : String → GS → Prop) (a1 : Int32) (a2 : Int32) (G : GS) : Prop :=
  wpX8_vaultAt (fun (r2 : Nat) (G1 : GS) =>
  kd r2 = 3 ∧
    wpX8_kindNumber (fun (r5 : Int32) (G4 : GS) =>
    wpX7_mostByValue (fun (r7 : Int32) (G6 : GS) =>
      post r7 G6) r2 r5 (0 + 2) G4) xpost a2 G1) xpost a1 G
set_option maxHeartbeats 4000000 in
set_option maxRecDepth 100000 in
theorem okX8_mostFlies (X : Cx) (l : Launch) (hfl : l.stackTraces = false) {post : Int32 → GS → Prop} {xpost : String → GS → Prop} {a1 : Int32} {a2 : Int32} {G : GS}  (hw : wpX8_mostFlies post xpost a1 a2 G) : CX X l yX8_mostFlies cX8_mostFlies 4 (some FieldType.int) 7 2 12 [.ref (xa X 165), .int a1, .int a2] G (Qi X post) xpost := by
  refine xbegin (by decide) (Nat.le_of_ble_eq_true rfl) (fun p e s m below meth c hx hb hr hml hlk hown hno hE hz ls hl hP hD hS => ?_)
  have hl : lv_has ls 4 [(0, .ref (xa X 165)), (1, .int a1), (2, .int a2)] := hl
  have hown : s.vm.findClass "FlyTreasury" = some m.cls := hown
  unfold wpX8_mostFlies at hw
  refine lv_aload_n hx hb dX8_mostFlies_0 rfl (lv_at hl 0 rfl) ?_
  refine lv_iload_n hx hb dX8_mostFlies_1 rfl (lv_at hl 1 rfl) ?_
  refine xcall_r (xrun_V (cc := cX8_mostFlies) (As := [.int a1]) (rest := []) hx hb hml hown hE hz (okX8_vaultAt X l hfl  hw) qw_1180 qw_1182 qw_3 qw_74 qw_1183 (myX8_vaultAt) ⟨Nat.le_of_ble_eq_true rfl, Nat.le_of_ble_eq_true rfl⟩ (rv_X8 hE hP rfl) hP hD hS rfl hl.1 rfl (Nat.le_of_ble_eq_true rfl) dX8_mostFlies_2 ⟨Nat.le_of_ble_eq_true rfl, Nat.le_of_ble_eq_true rfl⟩) hS (fun E ce q9 G9 H locs hw hP hD hS hce hcv hcl => ?_) (fun r2 G1 H locs hw hP hD hS => ?_)
  · exact xout hno hlk hce hcv hcl hw hP hD hS (Nat.le_of_ble_eq_true rfl) (Nat.le_of_ble_eq_true rfl)
  · obtain ⟨y3, hw⟩ := hw
    refine lv_astore_n (lv' := [(3, .ref (xa X r2)), (0, .ref (xa X 165)), (1, .int a1), (2, .int a2)]) hx hb dX8_mostFlies_5 rfl hl (by decide) rfl (fun ls hl => ?_)
    refine lv_aload_n hx hb dX8_mostFlies_6 rfl (lv_at hl 0 rfl) ?_
    refine lv_iload_n hx hb dX8_mostFlies_7 rfl (lv_at hl 3 rfl) ?_
    refine xcall_i (xrun_S (cc := cX8_mostFlies) (As := [.int a2]) (rest := [.ref (xa X r2)]) hx hb hml hown hE hz (okX8_kindNumber X l hfl  hw) qw_1185 qw_1186 qw_74 qw_1187 (myX8_kindNumber).2 ⟨Nat.le_of_ble_eq_true rfl, Nat.le_of_ble_eq_true rfl⟩ hP hD hS rfl hl.1 rfl (Nat.le_of_ble_eq_true rfl) dX8_mostFlies_8 ⟨Nat.le_of_ble_eq_true rfl, Nat.le_of_ble_eq_true rfl⟩) hS (fun E ce q9 G9 H locs hw hP hD hS hce hcv hcl => ?_) (fun r5 G4 H locs hw hP hD hS => ?_)
    · exact xout hno hlk hce hcv hcl hw hP hD hS (Nat.le_of_ble_eq_true rfl) (Nat.le_of_ble_eq_true rfl)
    · refine lv_aload_n hx hb dX8_mostFlies_11 rfl (lv_at hl 1 rfl) ?_
      refine gf_X8_0 hx hb hE hP hown rfl (hE.w qw_318 rfl _) dX8_mostFlies_12 ?_
      refine gn_X3_1 hx hb hE hP hown rfl (hE.w qw_163 rfl _) dX8_mostFlies_15 ?_
      refine call_i (run_V (cc := cX8_mostFlies) (As := [.int r5, .ref (xa X (0 + 2))]) (rest := []) hx hb hml hown hE hz (okX7_mostByValue X l hfl y3 (k0_2 rfl) hw) qw_1305 qw_1306 qw_1307 qw_76 qw_1308 (myX7_mostByValue) ⟨Nat.le_of_ble_eq_true rfl, Nat.le_of_ble_eq_true rfl⟩ (rv_X7 hE hP y3) hP hD hS rfl hl.1 rfl (Nat.le_of_ble_eq_true rfl) dX8_mostFlies_18 ⟨Nat.le_of_ble_eq_true rfl, Nat.le_of_ble_eq_true rfl⟩) hS (fun r7 G6 H locs hw hP hD hS => ?_)
      refine vx_ret ?_
      exact end_i hx hb hr hlk rfl hw hP hD hS dX8_mostFlies_21
def wpX8_mostFliesByExchanges (post : Int32 → GS → Prop) (xpost : String → GS → Prop) (a1 : Int32) (a2 : Int32) (G : GS) : Prop :=
  wpX8_vaultAt (fun (r2 : Nat) (G1 : GS) =>
  kd r2 = 3 ∧
    wpX8_kindNumber (fun (r5 : Int32) (G4 : GS) =>
    wpX7_mostBySwaps (fun (r7 : Int32) (G6 : GS) =>
      post r7 G6) r2 r5 (0 + 2) G4) xpost a2 G1) xpost a1 G
set_option maxHeartbeats 4000000 in
set_option maxRecDepth 100000 in
theorem okX8_mostFliesByExchanges (X : Cx) (l : Launch) (hfl : l.stackTraces = false) {post : Int32 → GS → Prop} {xpost : String → GS → Prop} {a1 : Int32} {a2 : Int32} {G : GS}  (hw : wpX8_mostFliesByExchanges post xpost a1 a2 G) : CX X l yX8_mostFliesByExchanges cX8_mostFliesByExchanges 4 (some FieldType.int) 7 2 12 [.ref (xa X 165), .int a1, .int a2] G (Qi X post) xpost := by
  refine xbegin (by decide) (Nat.le_of_ble_eq_true rfl) (fun p e s m below meth c hx hb hr hml hlk hown hno hE hz ls hl hP hD hS => ?_)
  have hl : lv_has ls 4 [(0, .ref (xa X 165)), (1, .int a1), (2, .int a2)] := hl
  have hown : s.vm.findClass "FlyTreasury" = some m.cls := hown
  unfold wpX8_mostFliesByExchanges at hw
  refine lv_aload_n hx hb dX8_mostFliesByExchanges_0 rfl (lv_at hl 0 rfl) ?_
  refine lv_iload_n hx hb dX8_mostFliesByExchanges_1 rfl (lv_at hl 1 rfl) ?_
  refine xcall_r (xrun_V (cc := cX8_mostFliesByExchanges) (As := [.int a1]) (rest := []) hx hb hml hown hE hz (okX8_vaultAt X l hfl  hw) qw_1180 qw_1182 qw_3 qw_74 qw_1183 (myX8_vaultAt) ⟨Nat.le_of_ble_eq_true rfl, Nat.le_of_ble_eq_true rfl⟩ (rv_X8 hE hP rfl) hP hD hS rfl hl.1 rfl (Nat.le_of_ble_eq_true rfl) dX8_mostFliesByExchanges_2 ⟨Nat.le_of_ble_eq_true rfl, Nat.le_of_ble_eq_true rfl⟩) hS (fun E ce q9 G9 H locs hw hP hD hS hce hcv hcl => ?_) (fun r2 G1 H locs hw hP hD hS => ?_)
  · exact xout hno hlk hce hcv hcl hw hP hD hS (Nat.le_of_ble_eq_true rfl) (Nat.le_of_ble_eq_true rfl)
  · obtain ⟨y3, hw⟩ := hw
    refine lv_astore_n (lv' := [(3, .ref (xa X r2)), (0, .ref (xa X 165)), (1, .int a1), (2, .int a2)]) hx hb dX8_mostFliesByExchanges_5 rfl hl (by decide) rfl (fun ls hl => ?_)
    refine lv_aload_n hx hb dX8_mostFliesByExchanges_6 rfl (lv_at hl 0 rfl) ?_
    refine lv_iload_n hx hb dX8_mostFliesByExchanges_7 rfl (lv_at hl 3 rfl) ?_
    refine xcall_i (xrun_S (cc := cX8_mostFliesByExchanges) (As := [.int a2]) (rest := [.ref (xa X r2)]) hx hb hml hown hE hz (okX8_kindNumber X l hfl  hw) qw_1185 qw_1186 qw_74 qw_1187 (myX8_kindNumber).2 ⟨Nat.le_of_ble_eq_true rfl, Nat.le_of_ble_eq_true rfl⟩ hP hD hS rfl hl.1 rfl (Nat.le_of_ble_eq_true rfl) dX8_mostFliesByExchanges_8 ⟨Nat.le_of_ble_eq_true rfl, Nat.le_of_ble_eq_true rfl⟩) hS (fun E ce q9 G9 H locs hw hP hD hS hce hcv hcl => ?_) (fun r5 G4 H locs hw hP hD hS => ?_)
    · exact xout hno hlk hce hcv hcl hw hP hD hS (Nat.le_of_ble_eq_true rfl) (Nat.le_of_ble_eq_true rfl)
    · refine lv_aload_n hx hb dX8_mostFliesByExchanges_11 rfl (lv_at hl 1 rfl) ?_
      refine gf_X8_0 hx hb hE hP hown rfl (hE.w qw_318 rfl _) dX8_mostFliesByExchanges_12 ?_
      refine gn_X3_1 hx hb hE hP hown rfl (hE.w qw_163 rfl _) dX8_mostFliesByExchanges_15 ?_
      refine call_i (run_V (cc := cX8_mostFliesByExchanges) (As := [.int r5, .ref (xa X (0 + 2))]) (rest := []) hx hb hml hown hE hz (okX7_mostBySwaps X l hfl y3 (k0_2 rfl) hw) qw_1317 qw_1318 qw_1319 qw_76 qw_1320 (myX7_mostBySwaps) ⟨Nat.le_of_ble_eq_true rfl, Nat.le_of_ble_eq_true rfl⟩ (rv_X7 hE hP y3) hP hD hS rfl hl.1 rfl (Nat.le_of_ble_eq_true rfl) dX8_mostFliesByExchanges_18 ⟨Nat.le_of_ble_eq_true rfl, Nat.le_of_ble_eq_true rfl⟩) hS (fun r7 G6 H locs hw hP hD hS => ?_)
      refine vx_ret ?_
      exact end_i hx hb hr hlk rfl hw hP hD hS dX8_mostFliesByExchanges_21
def wpX8_rate (post : Int32 → GS → Prop) (xpost : String → GS → Prop) (a1 : Int32) (G : GS) : Prop :=
  wpX8_kindNumber (fun (r2 : Int32) (G1 : GS) =>
  vp_in r2 (ln (0 + 2)) ∧
    post (G1.1 (0 + 2) r2.toNatClampNeg) G1) xpost a1 G
set_option maxHeartbeats 4000000 in
set_option maxRecDepth 100000 in
theorem okX8_rate (X : Cx) (l : Launch) (hfl : l.stackTraces = false) {post : Int32 → GS → Prop} {xpost : String → GS → Prop} {a1 : Int32} {G : GS}  (hw : wpX8_rate post xpost a1 G) : CX X l yX8_rate cX8_rate 2 (some FieldType.int) 7 1 6 [.ref (xa X 165), .int a1] G (Qi X post) xpost := by
  refine xbegin (by decide) (Nat.le_of_ble_eq_true rfl) (fun p e s m below meth c hx hb hr hml hlk hown hno hE hz ls hl hP hD hS => ?_)
  have hl : lv_has ls 2 [(0, .ref (xa X 165)), (1, .int a1)] := hl
  have hown : s.vm.findClass "FlyTreasury" = some m.cls := hown
  unfold wpX8_rate at hw
  refine lv_aload_n hx hb dX8_rate_0 rfl (lv_at hl 0 rfl) ?_
  refine gf_X8_0 hx hb hE hP hown rfl (hE.w qw_318 rfl _) dX8_rate_1 ?_
  refine gn_X3_1 hx hb hE hP hown rfl (hE.w qw_163 rfl _) dX8_rate_4 ?_
  refine lv_iload_n hx hb dX8_rate_7 rfl (lv_at hl 1 rfl) ?_
  refine xcall_i (xrun_S (cc := cX8_rate) (As := [.int a1]) (rest := [.ref (xa X (0 + 2))]) hx hb hml hown hE hz (okX8_kindNumber X l hfl  hw) qw_1185 qw_1186 qw_74 qw_1187 (myX8_kindNumber).2 ⟨Nat.le_of_ble_eq_true rfl, Nat.le_of_ble_eq_true rfl⟩ hP hD hS rfl hl.1 rfl (Nat.le_of_ble_eq_true rfl) dX8_rate_8 ⟨Nat.le_of_ble_eq_true rfl, Nat.le_of_ble_eq_true rfl⟩) hS (fun E ce q9 G9 H locs hw hP hD hS hce hcv hcl => ?_) (fun r2 G1 H locs hw hP hD hS => ?_)
  · exact xout hno hlk hce hcv hcl hw hP hD hS (Nat.le_of_ble_eq_true rfl) (Nat.le_of_ble_eq_true rfl)
  · obtain ⟨y3, hw⟩ := hw
    refine ald_2 hx hb hE hP (k0_2 rfl) y3 dX8_rate_11 ?_
    refine vx_ret ?_
    exact end_i hx hb hr hlk rfl hw hP hD hS dX8_rate_12
def wpX8_totalFlies (post : Int32 → GS → Prop) (xpost : String → GS → Prop) (a1 : Int32) (G : GS) : Prop :=
  wpX8_kindNumber (fun (r2 : Int32) (G1 : GS) =>
  wpX3_fliesByVaults (fun (r4 : Int32) (G3 : GS) =>
    post r4 G3) 0 r2 G1) xpost a1 G
set_option maxHeartbeats 4000000 in
set_option maxRecDepth 100000 in
theorem okX8_totalFlies (X : Cx) (l : Launch) (hfl : l.stackTraces = false) {post : Int32 → GS → Prop} {xpost : String → GS → Prop} {a1 : Int32} {G : GS}  (hw : wpX8_totalFlies post xpost a1 G) : CX X l yX8_totalFlies cX8_totalFlies 2 (some FieldType.int) 7 1 6 [.ref (xa X 165), .int a1] G (Qi X post) xpost := by
  refine xbegin (by decide) (Nat.le_of_ble_eq_true rfl) (fun p e s m below meth c hx hb hr hml hlk hown hno hE hz ls hl hP hD hS => ?_)
  have hl : lv_has ls 2 [(0, .ref (xa X 165)), (1, .int a1)] := hl
  have hown : s.vm.findClass "FlyTreasury" = some m.cls := hown
  unfold wpX8_totalFlies at hw
  refine lv_aload_n hx hb dX8_totalFlies_0 rfl (lv_at hl 0 rfl) ?_
  refine gf_X8_0 hx hb hE hP hown rfl (hE.w qw_318 rfl _) dX8_totalFlies_1 ?_
  refine lv_iload_n hx hb dX8_totalFlies_4 rfl (lv_at hl 1 rfl) ?_
  refine xcall_i (xrun_S (cc := cX8_totalFlies) (As := [.int a1]) (rest := [.ref (xa X 0)]) hx hb hml hown hE hz (okX8_kindNumber X l hfl  hw) qw_1185 qw_1186 qw_74 qw_1187 (myX8_kindNumber).2 ⟨Nat.le_of_ble_eq_true rfl, Nat.le_of_ble_eq_true rfl⟩ hP hD hS rfl hl.1 rfl (Nat.le_of_ble_eq_true rfl) dX8_totalFlies_5 ⟨Nat.le_of_ble_eq_true rfl, Nat.le_of_ble_eq_true rfl⟩) hS (fun E ce q9 G9 H locs hw hP hD hS hce hcv hcl => ?_) (fun r2 G1 H locs hw hP hD hS => ?_)
  · exact xout hno hlk hce hcv hcl hw hP hD hS (Nat.le_of_ble_eq_true rfl) (Nat.le_of_ble_eq_true rfl)
  · refine call_i (run_V (cc := cX8_totalFlies) (As := [.int r2]) (rest := []) hx hb hml hown hE hz (okX3_fliesByVaults X l hfl rfl hw) qw_1335 qw_375 qw_376 qw_75 qw_377 (myX3_fliesByVaults) ⟨Nat.le_of_ble_eq_true rfl, Nat.le_of_ble_eq_true rfl⟩ (rv_X3 hE hP rfl) hP hD hS rfl hl.1 rfl (Nat.le_of_ble_eq_true rfl) dX8_totalFlies_8 ⟨Nat.le_of_ble_eq_true rfl, Nat.le_of_ble_eq_true rfl⟩) hS (fun r4 G3 H locs hw hP hD hS => ?_)
    refine vx_ret ?_
    exact end_i hx hb hr hlk rfl hw hP hD hS dX8_totalFlies_11
def wpX8_totalFliesByAccounts (post : Int32 → GS → Prop) (xpost : String → GS → Prop) (a1 : Int32) (G : GS) : Prop :=
  wpX8_kindNumber (fun (r2 : Int32) (G1 : GS) =>
  wpX3_fliesByAccounts (fun (r4 : Int32) (G3 : GS) =>
    post r4 G3) 0 r2 G1) xpost a1 G
set_option maxHeartbeats 4000000 in
set_option maxRecDepth 100000 in
theorem okX8_totalFliesByAccounts (X : Cx) (l : Launch) (hfl : l.stackTraces = false) {post : Int32 → GS → Prop} {xpost : String → GS → Prop} {a1 : Int32} {G : GS}  (hw : wpX8_totalFliesByAccounts post xpost a1 G) : CX X l yX8_totalFliesByAccounts cX8_totalFliesByAccounts 2 (some FieldType.int) 7 1 6 [.ref (xa X 165), .int a1] G (Qi X post) xpost := by
  refine xbegin (by decide) (Nat.le_of_ble_eq_true rfl) (fun p e s m below meth c hx hb hr hml hlk hown hno hE hz ls hl hP hD hS => ?_)
  have hl : lv_has ls 2 [(0, .ref (xa X 165)), (1, .int a1)] := hl
  have hown : s.vm.findClass "FlyTreasury" = some m.cls := hown
  unfold wpX8_totalFliesByAccounts at hw
  refine lv_aload_n hx hb dX8_totalFliesByAccounts_0 rfl (lv_at hl 0 rfl) ?_
  refine gf_X8_0 hx hb hE hP hown rfl (hE.w qw_318 rfl _) dX8_totalFliesByAccounts_1 ?_
  refine lv_iload_n hx hb dX8_totalFliesByAccounts_4 rfl (lv_at hl 1 rfl) ?_
  refine xcall_i (xrun_S (cc := cX8_totalFliesByAccounts) (As := [.int a1]) (rest := [.ref (xa X 0)]) hx hb hml hown hE hz (okX8_kindNumber X l hfl  hw) qw_1185 qw_1186 qw_74 qw_1187 (myX8_kindNumber).2 ⟨Nat.le_of_ble_eq_true rfl, Nat.le_of_ble_eq_true rfl⟩ hP hD hS rfl hl.1 rfl (Nat.le_of_ble_eq_true rfl) dX8_totalFliesByAccounts_5 ⟨Nat.le_of_ble_eq_true rfl, Nat.le_of_ble_eq_true rfl⟩) hS (fun E ce q9 G9 H locs hw hP hD hS hce hcv hcl => ?_) (fun r2 G1 H locs hw hP hD hS => ?_)
  · exact xout hno hlk hce hcv hcl hw hP hD hS (Nat.le_of_ble_eq_true rfl) (Nat.le_of_ble_eq_true rfl)
  · refine call_i (run_V (cc := cX8_totalFliesByAccounts) (As := [.int r2]) (rest := []) hx hb hml hown hE hz (okX3_fliesByAccounts X l hfl rfl hw) qw_1343 qw_411 qw_412 qw_75 qw_413 (myX3_fliesByAccounts) ⟨Nat.le_of_ble_eq_true rfl, Nat.le_of_ble_eq_true rfl⟩ (rv_X3 hE hP rfl) hP hD hS rfl hl.1 rfl (Nat.le_of_ble_eq_true rfl) dX8_totalFliesByAccounts_8 ⟨Nat.le_of_ble_eq_true rfl, Nat.le_of_ble_eq_true rfl⟩) hS (fun r4 G3 H locs hw hP hD hS => ?_)
    refine vx_ret ?_
    exact end_i hx hb hr hlk rfl hw hP hD hS dX8_totalFliesByAccounts_11
def wpX8_totalValue (post : Int32 → GS → Prop) (G : GS) : Prop :=
  wpX3_valueByVaults (fun (r2 : Int32) (G1 : GS) =>
  post r2 G1) 0 G
set_option maxHeartbeats 4000000 in
set_option maxRecDepth 100000 in
theorem okX8_totalValue (X : Cx) (l : Launch) (hfl : l.stackTraces = false) {post : Int32 → GS → Prop}  {G : GS}  (hw : wpX8_totalValue post G) : CT X l yX8_totalValue cX8_totalValue 1 (some FieldType.int) 3 0 0 [.ref (xa X 165)] G (Qi X post) := by
  refine mbegin (by decide) (Nat.le_of_ble_eq_true rfl) (fun p e s m below meth c hx hb hr hml hlk hown hE hz ls hl hP hD hS => ?_)
  have hl : lv_has ls 1 [(0, .ref (xa X 165))] := hl
  have hown : s.vm.findClass "FlyTreasury" = some m.cls := hown
  unfold wpX8_totalValue at hw
  refine lv_aload_n hx hb dX8_totalValue_0 rfl (lv_at hl 0 rfl) ?_
  refine gf_X8_0 hx hb hE hP hown rfl (hE.w qw_318 rfl _) dX8_totalValue_1 ?_
  refine call_i (run_V (cc := cX8_totalValue) (As := []) (rest := []) hx hb hml hown hE hz (okX3_valueByVaults X l hfl rfl hw) qw_354 qw_355 qw_356 qw_75 qw_357 (myX3_valueByVaults) ⟨Nat.le_of_ble_eq_true rfl, Nat.le_of_ble_eq_true rfl⟩ (rv_X3 hE hP rfl) hP hD hS rfl hl.1 rfl (Nat.le_of_ble_eq_true rfl) dX8_totalValue_4 ⟨Nat.le_of_ble_eq_true rfl, Nat.le_of_ble_eq_true rfl⟩) hS (fun r2 G1 H locs hw hP hD hS => ?_)
  exact end_i hx hb hr hlk rfl hw hP hD hS dX8_totalValue_7
def wpX8_totalValueByKinds (post : Int32 → GS → Prop) (G : GS) : Prop :=
  wpX3_valueByKinds (fun (r2 : Int32) (G1 : GS) =>
  post r2 G1) 0 G
set_option maxHeartbeats 4000000 in
set_option maxRecDepth 100000 in
theorem okX8_totalValueByKinds (X : Cx) (l : Launch) (hfl : l.stackTraces = false) {post : Int32 → GS → Prop}  {G : GS}  (hw : wpX8_totalValueByKinds post G) : CT X l yX8_totalValueByKinds cX8_totalValueByKinds 1 (some FieldType.int) 4 0 0 [.ref (xa X 165)] G (Qi X post) := by
  refine mbegin (by decide) (Nat.le_of_ble_eq_true rfl) (fun p e s m below meth c hx hb hr hml hlk hown hE hz ls hl hP hD hS => ?_)
  have hl : lv_has ls 1 [(0, .ref (xa X 165))] := hl
  have hown : s.vm.findClass "FlyTreasury" = some m.cls := hown
  unfold wpX8_totalValueByKinds at hw
  refine lv_aload_n hx hb dX8_totalValueByKinds_0 rfl (lv_at hl 0 rfl) ?_
  refine gf_X8_0 hx hb hE hP hown rfl (hE.w qw_318 rfl _) dX8_totalValueByKinds_1 ?_
  refine call_i (run_V (cc := cX8_totalValueByKinds) (As := []) (rest := []) hx hb hml hown hE hz (okX3_valueByKinds X l hfl rfl hw) qw_366 qw_367 qw_368 qw_75 qw_369 (myX3_valueByKinds) ⟨Nat.le_of_ble_eq_true rfl, Nat.le_of_ble_eq_true rfl⟩ (rv_X3 hE hP rfl) hP hD hS rfl hl.1 rfl (Nat.le_of_ble_eq_true rfl) dX8_totalValueByKinds_4 ⟨Nat.le_of_ble_eq_true rfl, Nat.le_of_ble_eq_true rfl⟩) hS (fun r2 G1 H locs hw hP hD hS => ?_)
  exact end_i hx hb hr hlk rfl hw hP hD hS dX8_totalValueByKinds_7
def wpX8_vaultByValue (post : Int32 → GS → Prop) (xpost : String → GS → Prop) (a1 : Int32) (G : GS) : Prop :=
  wpX3_vaultAtRank (fun (r2 : Int32) (G1 : GS) =>
  if 0 ≤ r2 then
    post r2 G1
  else
    xpost "java/util/NoSuchElementException" G1) 0 a1 G
set_option maxHeartbeats 4000000 in
set_option maxRecDepth 100000 in
theorem okX8_vaultByValue (X : Cx) (l : Launch) (hfl : l.stackTraces = false) {post : Int32 → GS → Prop} {xpost : String → GS → Prop} {a1 : Int32} {G : GS}  (hw : wpX8_vaultByValue post xpost a1 G) : CX X l yX8_vaultByValue cX8_vaultByValue 3 (some FieldType.int) 6 1 6 [.ref (xa X 165), .int a1] G (Qi X post) xpost := by
  refine xbegin (by decide) (Nat.le_of_ble_eq_true rfl) (fun p e s m below meth c hx hb hr hml hlk hown hno hE hz ls hl hP hD hS => ?_)
  have hl : lv_has ls 3 [(0, .ref (xa X 165)), (1, .int a1)] := hl
  have hown : s.vm.findClass "FlyTreasury" = some m.cls := hown
  unfold wpX8_vaultByValue at hw
  refine lv_aload_n hx hb dX8_vaultByValue_0 rfl (lv_at hl 0 rfl) ?_
  refine gf_X8_0 hx hb hE hP hown rfl (hE.w qw_318 rfl _) dX8_vaultByValue_1 ?_
  refine lv_iload_n hx hb dX8_vaultByValue_4 rfl (lv_at hl 1 rfl) ?_
  refine call_i (run_V (cc := cX8_vaultByValue) (As := [.int a1]) (rest := []) hx hb hml hown hE hz (okX3_vaultAtRank X l hfl rfl hw) qw_1351 qw_1352 qw_1353 qw_75 qw_1354 (myX3_vaultAtRank) ⟨Nat.le_of_ble_eq_true rfl, Nat.le_of_ble_eq_true rfl⟩ (rv_X3 hE hP rfl) hP hD hS rfl hl.1 rfl (Nat.le_of_ble_eq_true rfl) dX8_vaultByValue_5 ⟨Nat.le_of_ble_eq_true rfl, Nat.le_of_ble_eq_true rfl⟩) hS (fun r2 G1 H locs hw hP hD hS => ?_)
  refine lv_istore_n (lv' := [(2, .int r2), (0, .ref (xa X 165)), (1, .int a1)]) hx hb dX8_vaultByValue_8 rfl hl (by decide) rfl (fun ls hl => ?_)
  refine lv_iload_n hx hb dX8_vaultByValue_9 rfl (lv_at hl 0 rfl) ?_
  refine lv_if_ge (tgt := 23) hx hb dX8_vaultByValue_10 (by decide) (fun c3 => ?_) (fun c3 => ?_)
  · replace hw := ite_t hw c3
    refine lv_iload_n hx hb dX8_vaultByValue_23 rfl (lv_at hl 0 rfl) ?_
    refine W.widen (k := 1) (n := 6) (Nat.le_of_ble_eq_true rfl) (Nat.le_of_ble_eq_true rfl) ?_
    refine vx_ret ?_
    exact end_i hx hb hr hlk rfl hw hP hD hS dX8_vaultByValue_24
  · replace hw := ite_f hw c3
    exact thr_NS hx hb hfl hown hE hP hD hS hl.1 hml (sr_8 hE) (hE.w qw_1234 rfl _) (hE.w qw_102 rfl _) dX8_vaultByValue_13 dX8_vaultByValue_16 dX8_vaultByValue_17 dX8_vaultByValue_19 dX8_vaultByValue_22 hno (by decide) (by decide) (Nat.le_of_ble_eq_true rfl) (Nat.le_of_ble_eq_true rfl) hlk hw (Nat.le_of_ble_eq_true rfl) (Nat.le_of_ble_eq_true rfl)
def wpX8_kindByValue (post : Int32 → GS → Prop) (xpost : String → GS → Prop) (a1 : Int32) (G : GS) : Prop :=
  wpX3_kindAtRank (fun (r2 : Int32) (G1 : GS) =>
  if 0 ≤ r2 then
    wpJ0_charAt_5068e (fun (r5 : Int32) (G4 : GS) =>
      narrow .char (.int r5) = .int r5 ∧ post r5 G4) 0 r2 G1
  else
    xpost "java/util/NoSuchElementException" G1) 0 a1 G
set_option maxHeartbeats 4000000 in
set_option maxRecDepth 100000 in
theorem okX8_kindByValue (X : Cx) (l : Launch) (hfl : l.stackTraces = false) {post : Int32 → GS → Prop} {xpost : String → GS → Prop} {a1 : Int32} {G : GS}  (hw : wpX8_kindByValue post xpost a1 G) : CX X l yX8_kindByValue cX8_kindByValue 3 (some FieldType.char) 6 1 6 [.ref (xa X 165), .int a1] G (Qi X post) xpost := by
  refine xbegin (by decide) (Nat.le_of_ble_eq_true rfl) (fun p e s m below meth c hx hb hr hml hlk hown hno hE hz ls hl hP hD hS => ?_)
  have hl : lv_has ls 3 [(0, .ref (xa X 165)), (1, .int a1)] := hl
  have hown : s.vm.findClass "FlyTreasury" = some m.cls := hown
  unfold wpX8_kindByValue at hw
  refine lv_aload_n hx hb dX8_kindByValue_0 rfl (lv_at hl 0 rfl) ?_
  refine gf_X8_0 hx hb hE hP hown rfl (hE.w qw_318 rfl _) dX8_kindByValue_1 ?_
  refine lv_iload_n hx hb dX8_kindByValue_4 rfl (lv_at hl 1 rfl) ?_
  refine call_i (run_V (cc := cX8_kindByValue) (As := [.int a1]) (rest := []) hx hb hml hown hE hz (okX3_kindAtRank X l hfl rfl hw) qw_1367 qw_1368 qw_1369 qw_75 qw_1370 (myX3_kindAtRank) ⟨Nat.le_of_ble_eq_true rfl, Nat.le_of_ble_eq_true rfl⟩ (rv_X3 hE hP rfl) hP hD hS rfl hl.1 rfl (Nat.le_of_ble_eq_true rfl) dX8_kindByValue_5 ⟨Nat.le_of_ble_eq_true rfl, Nat.le_of_ble_eq_true rfl⟩) hS (fun r2 G1 H locs hw hP hD hS => ?_)
  refine lv_istore_n (lv' := [(2, .int r2), (0, .ref (xa X 165)), (1, .int a1)]) hx hb dX8_kindByValue_8 rfl hl (by decide) rfl (fun ls hl => ?_)
  refine lv_iload_n hx hb dX8_kindByValue_9 rfl (lv_at hl 0 rfl) ?_
  refine lv_if_ge (tgt := 23) hx hb dX8_kindByValue_10 (by decide) (fun c3 => ?_) (fun c3 => ?_)
  · replace hw := ite_t hw c3
    refine va_ldcS hx hb hown (sr_0 hE) dX8_kindByValue_23 ?_
    refine lv_iload_n hx hb dX8_kindByValue_25 rfl (lv_at hl 0 rfl) ?_
    refine call_i (run_V (cc := cX8_kindByValue) (As := [.int r2]) (rest := []) hx hb hml hown hE hz (okJ0_charAt_5068e X l hfl (by decide) hw) qw_820 qw_821 qw_822 qw_84 qw_823 (myJ0_charAt_5068e) ⟨Nat.le_of_ble_eq_true rfl, Nat.le_of_ble_eq_true rfl⟩ (vk_recv hE.S (by decide) hS) hP hD hS rfl hl.1 rfl (Nat.le_of_ble_eq_true rfl) dX8_kindByValue_26 ⟨Nat.le_of_ble_eq_true rfl, Nat.le_of_ble_eq_true rfl⟩) hS (fun r5 G4 H locs hw hP hD hS => ?_)
    refine W.widen (k := 1) (n := 6) (Nat.le_of_ble_eq_true rfl) (Nat.le_of_ble_eq_true rfl) ?_
    refine vx_ret ?_
    obtain ⟨y6, hw⟩ := hw
    exact end_i hx hb hr hlk y6 hw hP hD hS dX8_kindByValue_29
  · replace hw := ite_f hw c3
    exact thr_NS hx hb hfl hown hE hP hD hS hl.1 hml (sr_8 hE) (hE.w qw_1234 rfl _) (hE.w qw_102 rfl _) dX8_kindByValue_13 dX8_kindByValue_16 dX8_kindByValue_17 dX8_kindByValue_19 dX8_kindByValue_22 hno (by decide) (by decide) (Nat.le_of_ble_eq_true rfl) (Nat.le_of_ble_eq_true rfl) hlk hw (Nat.le_of_ble_eq_true rfl) (Nat.le_of_ble_eq_true rfl)
def wpX8_day (post : Int32 → GS → Prop) (G : GS) : Prop :=
  post (G.1 0 5) G
set_option maxHeartbeats 4000000 in
set_option maxRecDepth 100000 in
theorem okX8_day (X : Cx) (l : Launch) (hfl : l.stackTraces = false) {post : Int32 → GS → Prop}  {G : GS}  (hw : wpX8_day post G) : CT X l yX8_day cX8_day 1 (some FieldType.int) 1 0 0 [.ref (xa X 165)] G (Qi X post) := by
  refine mbegin (by decide) (Nat.le_of_ble_eq_true rfl) (fun p e s m below meth c hx hb hr hml hlk hown hE hz ls hl hP hD hS => ?_)
  have hl : lv_has ls 1 [(0, .ref (xa X 165))] := hl
  have hown : s.vm.findClass "FlyTreasury" = some m.cls := hown
  unfold wpX8_day at hw
  refine lv_aload_n hx hb dX8_day_0 rfl (lv_at hl 0 rfl) ?_
  refine gf_X8_0 hx hb hE hP hown rfl (hE.w qw_318 rfl _) dX8_day_1 ?_
  refine gn_X3_5 hx hb hE hP hown rfl (hE.w qw_169 rfl _) dX8_day_4 ?_
  exact end_i hx hb hr hlk rfl hw hP hD hS dX8_day_7
def wpX8_mintedTotal (post : Int32 → GS → Prop) (G : GS) : Prop :=
  post (G.1 0 6) G
set_option maxHeartbeats 4000000 in
set_option maxRecDepth 100000 in
theorem okX8_mintedTotal (X : Cx) (l : Launch) (hfl : l.stackTraces = false) {post : Int32 → GS → Prop}  {G : GS}  (hw : wpX8_mintedTotal post G) : CT X l yX8_mintedTotal cX8_mintedTotal 1 (some FieldType.int) 1 0 0 [.ref (xa X 165)] G (Qi X post) := by
  refine mbegin (by decide) (Nat.le_of_ble_eq_true rfl) (fun p e s m below meth c hx hb hr hml hlk hown hE hz ls hl hP hD hS => ?_)
  have hl : lv_has ls 1 [(0, .ref (xa X 165))] := hl
  have hown : s.vm.findClass "FlyTreasury" = some m.cls := hown
  unfold wpX8_mintedTotal at hw
  refine lv_aload_n hx hb dX8_mintedTotal_0 rfl (lv_at hl 0 rfl) ?_
  refine gf_X8_0 hx hb hE hP hown rfl (hE.w qw_318 rfl _) dX8_mintedTotal_1 ?_
  refine gn_X3_6 hx hb hE hP hown rfl (hE.w qw_171 rfl _) dX8_mintedTotal_4 ?_
  exact end_i hx hb hr hlk rfl hw hP hD hS dX8_mintedTotal_7
def wpX8_redeemedTotal (post : Int32 → GS → Prop) (G : GS) : Prop :=
  post (G.1 0 7) G
set_option maxHeartbeats 4000000 in
set_option maxRecDepth 100000 in
theorem okX8_redeemedTotal (X : Cx) (l : Launch) (hfl : l.stackTraces = false) {post : Int32 → GS → Prop}  {G : GS}  (hw : wpX8_redeemedTotal post G) : CT X l yX8_redeemedTotal cX8_redeemedTotal 1 (some FieldType.int) 1 0 0 [.ref (xa X 165)] G (Qi X post) := by
  refine mbegin (by decide) (Nat.le_of_ble_eq_true rfl) (fun p e s m below meth c hx hb hr hml hlk hown hE hz ls hl hP hD hS => ?_)
  have hl : lv_has ls 1 [(0, .ref (xa X 165))] := hl
  have hown : s.vm.findClass "FlyTreasury" = some m.cls := hown
  unfold wpX8_redeemedTotal at hw
  refine lv_aload_n hx hb dX8_redeemedTotal_0 rfl (lv_at hl 0 rfl) ?_
  refine gf_X8_0 hx hb hE hP hown rfl (hE.w qw_318 rfl _) dX8_redeemedTotal_1 ?_
  refine gn_X3_7 hx hb hE hP hown rfl (hE.w qw_173 rfl _) dX8_redeemedTotal_4 ?_
  exact end_i hx hb hr hlk rfl hw hP hD hS dX8_redeemedTotal_7
def wpX8_evaporatedTotal (post : Int32 → GS → Prop) (G : GS) : Prop :=
  post (G.1 0 8) G
set_option maxHeartbeats 4000000 in
set_option maxRecDepth 100000 in
theorem okX8_evaporatedTotal (X : Cx) (l : Launch) (hfl : l.stackTraces = false) {post : Int32 → GS → Prop}  {G : GS}  (hw : wpX8_evaporatedTotal post G) : CT X l yX8_evaporatedTotal cX8_evaporatedTotal 1 (some FieldType.int) 1 0 0 [.ref (xa X 165)] G (Qi X post) := by
  refine mbegin (by decide) (Nat.le_of_ble_eq_true rfl) (fun p e s m below meth c hx hb hr hml hlk hown hE hz ls hl hP hD hS => ?_)
  have hl : lv_has ls 1 [(0, .ref (xa X 165))] := hl
  have hown : s.vm.findClass "FlyTreasury" = some m.cls := hown
  unfold wpX8_evaporatedTotal at hw
  refine lv_aload_n hx hb dX8_evaporatedTotal_0 rfl (lv_at hl 0 rfl) ?_
  refine gf_X8_0 hx hb hE hP hown rfl (hE.w qw_318 rfl _) dX8_evaporatedTotal_1 ?_
  refine gn_X3_8 hx hb hE hP hown rfl (hE.w qw_175 rfl _) dX8_evaporatedTotal_4 ?_
  exact end_i hx hb hr hlk rfl hw hP hD hS dX8_evaporatedTotal_7
def wpX8_auditTotal (post : Int32 → GS → Prop) (G : GS) : Prop :=
  post (G.1 0 9) G
set_option maxHeartbeats 4000000 in
set_option maxRecDepth 100000 in
theorem okX8_auditTotal (X : Cx) (l : Launch) (hfl : l.stackTraces = false) {post : Int32 → GS → Prop}  {G : GS}  (hw : wpX8_auditTotal post G) : CT X l yX8_auditTotal cX8_auditTotal 1 (some FieldType.int) 1 0 0 [.ref (xa X 165)] G (Qi X post) := by
  refine mbegin (by decide) (Nat.le_of_ble_eq_true rfl) (fun p e s m below meth c hx hb hr hml hlk hown hE hz ls hl hP hD hS => ?_)
  have hl : lv_has ls 1 [(0, .ref (xa X 165))] := hl
  have hown : s.vm.findClass "FlyTreasury" = some m.cls := hown
  unfold wpX8_auditTotal at hw
  refine lv_aload_n hx hb dX8_auditTotal_0 rfl (lv_at hl 0 rfl) ?_
  refine gf_X8_0 hx hb hE hP hown rfl (hE.w qw_318 rfl _) dX8_auditTotal_1 ?_
  refine gn_X3_9 hx hb hE hP hown rfl (hE.w qw_177 rfl _) dX8_auditTotal_4 ?_
  exact end_i hx hb hr hlk rfl hw hP hD hS dX8_auditTotal_7
def wpX8_soundAuditTotal (post : Int32 → GS → Prop) (G : GS) : Prop :=
  post (G.1 0 10) G
set_option maxHeartbeats 4000000 in
set_option maxRecDepth 100000 in
theorem okX8_soundAuditTotal (X : Cx) (l : Launch) (hfl : l.stackTraces = false) {post : Int32 → GS → Prop}  {G : GS}  (hw : wpX8_soundAuditTotal post G) : CT X l yX8_soundAuditTotal cX8_soundAuditTotal 1 (some FieldType.int) 1 0 0 [.ref (xa X 165)] G (Qi X post) := by
  refine mbegin (by decide) (Nat.le_of_ble_eq_true rfl) (fun p e s m below meth c hx hb hr hml hlk hown hE hz ls hl hP hD hS => ?_)
  have hl : lv_has ls 1 [(0, .ref (xa X 165))] := hl
  have hown : s.vm.findClass "FlyTreasury" = some m.cls := hown
  unfold wpX8_soundAuditTotal at hw
  refine lv_aload_n hx hb dX8_soundAuditTotal_0 rfl (lv_at hl 0 rfl) ?_
  refine gf_X8_0 hx hb hE hP hown rfl (hE.w qw_318 rfl _) dX8_soundAuditTotal_1 ?_
  refine gn_X3_10 hx hb hE hP hown rfl (hE.w qw_179 rfl _) dX8_soundAuditTotal_4 ?_
  exact end_i hx hb hr hlk rfl hw hP hD hS dX8_soundAuditTotal_7
def wpX8_meanValue (post : UInt64 → GS → Prop) (xpost : String → GS → Prop) (G : GS) : Prop :=
  if (G.1 0 4) = 0 then
  xpost "java/lang/ArithmeticException" G
else
  wpX3_valueByVaults (fun (r3 : Int32) (G2 : GS) =>
    vf_n64 (FP.ddiv (FP.i2d r3) (FP.i2d (G2.1 0 4))) ∧
      post (FP.ddiv (FP.i2d r3) (FP.i2d (G2.1 0 4))) G2) 0 G
set_option maxHeartbeats 4000000 in
set_option maxRecDepth 100000 in
theorem okX8_meanValue (X : Cx) (l : Launch) (hfl : l.stackTraces = false) {post : UInt64 → GS → Prop} {xpost : String → GS → Prop}  {G : GS}  (hw : wpX8_meanValue post xpost G) : CX X l yX8_meanValue cX8_meanValue 1 (some FieldType.double) 6 1 6 [.ref (xa X 165)] G (Qd X post) xpost := by
  refine xbegin (by decide) (Nat.le_of_ble_eq_true rfl) (fun p e s m below meth c hx hb hr hml hlk hown hno hE hz ls hl hP hD hS => ?_)
  have hl : lv_has ls 1 [(0, .ref (xa X 165))] := hl
  have hown : s.vm.findClass "FlyTreasury" = some m.cls := hown
  unfold wpX8_meanValue at hw
  refine lv_aload_n hx hb dX8_meanValue_0 rfl (lv_at hl 0 rfl) ?_
  refine gf_X8_0 hx hb hE hP hown rfl (hE.w qw_318 rfl _) dX8_meanValue_1 ?_
  refine gn_X3_4 hx hb hE hP hown rfl (hE.w qw_167 rfl _) dX8_meanValue_4 ?_
  refine lv_if_ne (tgt := 20) hx hb dX8_meanValue_7 (by decide) (fun c1 => ?_) (fun c1 => ?_)
  · replace hw := ite_f hw c1
    refine lv_aload_n hx hb dX8_meanValue_20 rfl (lv_at hl 0 rfl) ?_
    refine gf_X8_0 hx hb hE hP hown rfl (hE.w qw_318 rfl _) dX8_meanValue_21 ?_
    refine call_i (run_V (cc := cX8_meanValue) (As := []) (rest := []) hx hb hml hown hE hz (okX3_valueByVaults X l hfl rfl hw) qw_354 qw_355 qw_356 qw_75 qw_357 (myX3_valueByVaults) ⟨Nat.le_of_ble_eq_true rfl, Nat.le_of_ble_eq_true rfl⟩ (rv_X3 hE hP rfl) hP hD hS rfl hl.1 rfl (Nat.le_of_ble_eq_true rfl) dX8_meanValue_24 ⟨Nat.le_of_ble_eq_true rfl, Nat.le_of_ble_eq_true rfl⟩) hS (fun r3 G2 H locs hw hP hD hS => ?_)
    refine lv_i2d hx hb dX8_meanValue_27 ?_
    refine lv_aload_n hx hb dX8_meanValue_28 rfl (lv_at hl 0 rfl) ?_
    refine gf_X8_0 hx hb hE hP hown rfl (hE.w qw_318 rfl _) dX8_meanValue_29 ?_
    refine gn_X3_4 hx hb hE hP hown rfl (hE.w qw_167 rfl _) dX8_meanValue_32 ?_
    refine lv_i2d hx hb dX8_meanValue_35 ?_
    obtain ⟨y4, hw⟩ := hw
    refine lv_ddiv hx hb dX8_meanValue_36 y4 ?_
    refine W.widen (k := 1) (n := 6) (Nat.le_of_ble_eq_true rfl) (Nat.le_of_ble_eq_true rfl) ?_
    refine vx_ret ?_
    exact end_d hx hb hr hlk hw hP hD hS dX8_meanValue_37
  · replace hw := ite_t hw c1
    exact thr_AE hx hb hfl hown hE hP hD hS hl.1 hml (sr_9 hE) (hE.w qw_1396 rfl _) (hE.w qw_103 rfl _) dX8_meanValue_10 dX8_meanValue_13 dX8_meanValue_14 dX8_meanValue_16 dX8_meanValue_19 hno (by decide) (by decide) (Nat.le_of_ble_eq_true rfl) (Nat.le_of_ble_eq_true rfl) hlk hw (Nat.le_of_ble_eq_true rfl) (Nat.le_of_ble_eq_true rfl)
def wpX8_soundShare (post : UInt32 → GS → Prop) (xpost : String → GS → Prop) (G : GS) : Prop :=
  if (G.1 0 9) = 0 then
  xpost "java/lang/ArithmeticException" G
else
  vf_n32 (FP.fdiv (FP.i2f (G.1 0 10)) (FP.i2f (G.1 0 9))) ∧
    post (FP.fdiv (FP.i2f (G.1 0 10)) (FP.i2f (G.1 0 9))) G
set_option maxHeartbeats 4000000 in
set_option maxRecDepth 100000 in
theorem okX8_soundShare (X : Cx) (l : Launch) (hfl : l.stackTraces = false) {post : UInt32 → GS → Prop} {xpost : String → GS → Prop}  {G : GS}  (hw : wpX8_soundShare post xpost G) : CX X l yX8_soundShare cX8_soundShare 1 (some FieldType.float) 6 1 6 [.ref (xa X 165)] G (Qf X post) xpost := by
  refine xbegin (by decide) (Nat.le_of_ble_eq_true rfl) (fun p e s m below meth c hx hb hr hml hlk hown hno hE hz ls hl hP hD hS => ?_)
  have hl : lv_has ls 1 [(0, .ref (xa X 165))] := hl
  have hown : s.vm.findClass "FlyTreasury" = some m.cls := hown
  unfold wpX8_soundShare at hw
  refine lv_aload_n hx hb dX8_soundShare_0 rfl (lv_at hl 0 rfl) ?_
  refine gf_X8_0 hx hb hE hP hown rfl (hE.w qw_318 rfl _) dX8_soundShare_1 ?_
  refine gn_X3_9 hx hb hE hP hown rfl (hE.w qw_177 rfl _) dX8_soundShare_4 ?_
  refine lv_if_ne (tgt := 21) hx hb dX8_soundShare_7 (by decide) (fun c1 => ?_) (fun c1 => ?_)
  · replace hw := ite_f hw c1
    refine lv_aload_n hx hb dX8_soundShare_21 rfl (lv_at hl 0 rfl) ?_
    refine gf_X8_0 hx hb hE hP hown rfl (hE.w qw_318 rfl _) dX8_soundShare_22 ?_
    refine gn_X3_10 hx hb hE hP hown rfl (hE.w qw_179 rfl _) dX8_soundShare_25 ?_
    refine lv_i2f hx hb dX8_soundShare_28 ?_
    refine lv_aload_n hx hb dX8_soundShare_29 rfl (lv_at hl 0 rfl) ?_
    refine gf_X8_0 hx hb hE hP hown rfl (hE.w qw_318 rfl _) dX8_soundShare_30 ?_
    refine gn_X3_9 hx hb hE hP hown rfl (hE.w qw_177 rfl _) dX8_soundShare_33 ?_
    refine lv_i2f hx hb dX8_soundShare_36 ?_
    obtain ⟨y2, hw⟩ := hw
    refine lv_fdiv hx hb dX8_soundShare_37 y2 ?_
    refine W.widen (k := 1) (n := 6) (Nat.le_of_ble_eq_true rfl) (Nat.le_of_ble_eq_true rfl) ?_
    refine vx_ret ?_
    exact end_f hx hb hr hlk hw hP hD hS dX8_soundShare_38
  · replace hw := ite_t hw c1
    exact thrW_AE hx hb hfl hown hE hP hD hS hl.1 hml (sr_10 hE) (hE.w qw_1396 rfl _) (hE.w qw_103 rfl _) dX8_soundShare_10 dX8_soundShare_13 dX8_soundShare_14 dX8_soundShare_17 dX8_soundShare_20 hno (by decide) (by decide) (Nat.le_of_ble_eq_true rfl) (Nat.le_of_ble_eq_true rfl) hlk hw (Nat.le_of_ble_eq_true rfl) (Nat.le_of_ble_eq_true rfl)
def wpX8_isConsistent (post : Int32 → GS → Prop) (G : GS) : Prop :=
  wpX3_fliesAgree (fun (r2 : Int32) (G1 : GS) =>
  if r2 = 0 then
    post 0 G1
  else
    wpX3_valuesAgree (fun (r5 : Int32) (G4 : GS) =>
      if r5 = 0 then
        post 0 G4
      else
        wpX3_predictionsAgree (fun (r8 : Int32) (G7 : GS) =>
          if r8 = 0 then
            post 0 G7
          else
            wpX3_dewAgrees (fun (r11 : Int32) (G10 : GS) =>
              if r11 = 0 then
                post 0 G10
              else
                post 1 G10) 0 G7) 0 G4) 0 G1) 0 G
set_option maxHeartbeats 4000000 in
set_option maxRecDepth 100000 in
theorem okX8_isConsistent (X : Cx) (l : Launch) (hfl : l.stackTraces = false) {post : Int32 → GS → Prop}  {G : GS}  (hw : wpX8_isConsistent post G) : CT X l yX8_isConsistent cX8_isConsistent 1 (some FieldType.boolean) 5 0 0 [.ref (xa X 165)] G (Qi X post) := by
  refine mbegin (by decide) (Nat.le_of_ble_eq_true rfl) (fun p e s m below meth c hx hb hr hml hlk hown hE hz ls hl hP hD hS => ?_)
  have hl : lv_has ls 1 [(0, .ref (xa X 165))] := hl
  have hown : s.vm.findClass "FlyTreasury" = some m.cls := hown
  unfold wpX8_isConsistent at hw
  refine lv_aload_n hx hb dX8_isConsistent_0 rfl (lv_at hl 0 rfl) ?_
  refine gf_X8_0 hx hb hE hP hown rfl (hE.w qw_318 rfl _) dX8_isConsistent_1 ?_
  refine call_i (run_V (cc := cX8_isConsistent) (As := []) (rest := []) hx hb hml hown hE hz (okX3_fliesAgree X l hfl rfl hw) qw_406 qw_407 qw_408 qw_75 qw_409 (myX3_fliesAgree) ⟨Nat.le_of_ble_eq_true rfl, Nat.le_of_ble_eq_true rfl⟩ (rv_X3 hE hP rfl) hP hD hS rfl hl.1 rfl (Nat.le_of_ble_eq_true rfl) dX8_isConsistent_4 ⟨Nat.le_of_ble_eq_true rfl, Nat.le_of_ble_eq_true rfl⟩) hS (fun r2 G1 H locs hw hP hD hS => ?_)
  refine lv_if_eq (tgt := 44) hx hb dX8_isConsistent_7 (by decide) (fun c3 => ?_) (fun c3 => ?_)
  · replace hw := ite_t hw c3
    refine lv_iconst (v := 0) hx hb dX8_isConsistent_44 (by decide) ?_
    exact end_i hx hb hr hlk (by decide) hw hP hD hS dX8_isConsistent_45
  · replace hw := ite_f hw c3
    refine lv_aload_n hx hb dX8_isConsistent_10 rfl (lv_at hl 0 rfl) ?_
    refine gf_X8_0 hx hb hE hP hown rfl (hE.w qw_318 rfl _) dX8_isConsistent_11 ?_
    refine call_i (run_V (cc := cX8_isConsistent) (As := []) (rest := []) hx hb hml hown hE hz (okX3_valuesAgree X l hfl rfl hw) qw_414 qw_415 qw_416 qw_75 qw_417 (myX3_valuesAgree) ⟨Nat.le_of_ble_eq_true rfl, Nat.le_of_ble_eq_true rfl⟩ (rv_X3 hE hP rfl) hP hD hS rfl hl.1 rfl (Nat.le_of_ble_eq_true rfl) dX8_isConsistent_14 ⟨Nat.le_of_ble_eq_true rfl, Nat.le_of_ble_eq_true rfl⟩) hS (fun r5 G4 H locs hw hP hD hS => ?_)
    refine lv_if_eq (tgt := 44) hx hb dX8_isConsistent_17 (by decide) (fun c6 => ?_) (fun c6 => ?_)
    · replace hw := ite_t hw c6
      refine lv_iconst (v := 0) hx hb dX8_isConsistent_44 (by decide) ?_
      exact end_i hx hb hr hlk (by decide) hw hP hD hS dX8_isConsistent_45
    · replace hw := ite_f hw c6
      refine lv_aload_n hx hb dX8_isConsistent_20 rfl (lv_at hl 0 rfl) ?_
      refine gf_X8_0 hx hb hE hP hown rfl (hE.w qw_318 rfl _) dX8_isConsistent_21 ?_
      refine call_i (run_V (cc := cX8_isConsistent) (As := []) (rest := []) hx hb hml hown hE hz (okX3_predictionsAgree X l hfl rfl hw) qw_420 qw_421 qw_422 qw_75 qw_423 (myX3_predictionsAgree) ⟨Nat.le_of_ble_eq_true rfl, Nat.le_of_ble_eq_true rfl⟩ (rv_X3 hE hP rfl) hP hD hS rfl hl.1 rfl (Nat.le_of_ble_eq_true rfl) dX8_isConsistent_24 ⟨Nat.le_of_ble_eq_true rfl, Nat.le_of_ble_eq_true rfl⟩) hS (fun r8 G7 H locs hw hP hD hS => ?_)
      refine lv_if_eq (tgt := 44) hx hb dX8_isConsistent_27 (by decide) (fun c9 => ?_) (fun c9 => ?_)
      · replace hw := ite_t hw c9
        refine lv_iconst (v := 0) hx hb dX8_isConsistent_44 (by decide) ?_
        exact end_i hx hb hr hlk (by decide) hw hP hD hS dX8_isConsistent_45
      · replace hw := ite_f hw c9
        refine lv_aload_n hx hb dX8_isConsistent_30 rfl (lv_at hl 0 rfl) ?_
        refine gf_X8_0 hx hb hE hP hown rfl (hE.w qw_318 rfl _) dX8_isConsistent_31 ?_
        refine call_i (run_V (cc := cX8_isConsistent) (As := []) (rest := []) hx hb hml hown hE hz (okX3_dewAgrees X l hfl rfl hw) qw_444 qw_445 qw_446 qw_75 qw_447 (myX3_dewAgrees) ⟨Nat.le_of_ble_eq_true rfl, Nat.le_of_ble_eq_true rfl⟩ (rv_X3 hE hP rfl) hP hD hS rfl hl.1 rfl (Nat.le_of_ble_eq_true rfl) dX8_isConsistent_34 ⟨Nat.le_of_ble_eq_true rfl, Nat.le_of_ble_eq_true rfl⟩) hS (fun r11 G10 H locs hw hP hD hS => ?_)
        refine lv_if_eq (tgt := 44) hx hb dX8_isConsistent_37 (by decide) (fun c12 => ?_) (fun c12 => ?_)
        · replace hw := ite_t hw c12
          refine lv_iconst (v := 0) hx hb dX8_isConsistent_44 (by decide) ?_
          exact end_i hx hb hr hlk (by decide) hw hP hD hS dX8_isConsistent_45
        · replace hw := ite_f hw c12
          refine lv_iconst (v := 1) hx hb dX8_isConsistent_40 (by decide) ?_
          refine lv_goto (tgt := 45) hx hb dX8_isConsistent_41 (by decide) ?_
          exact end_i hx hb hr hlk (by decide) hw hP hD hS dX8_isConsistent_45
def wbX8_type_12 (post : Int32 → GS → Prop) (xpost : String → GS → Prop) (a1 : Int32) (G : GS) : Prop :=
  xpost "java/lang/IllegalArgumentException" G
def wpX8_type (post : Int32 → GS → Prop) (xpost : String → GS → Prop) (a1 : Int32) (G : GS) : Prop :=
  if a1 < 32 then
  wbX8_type_12 post xpost a1 G
else
  if a1 ≤ 126 then
    if (G.1 168 2) < 60 then
      wpX6_append (fun (G4 : GS) =>
        post (G4.1 168 2) G4) a1 G
    else
      xpost "java/lang/IllegalStateException" G
  else
    wbX8_type_12 post xpost a1 G
set_option maxHeartbeats 4000000 in
set_option maxRecDepth 100000 in
theorem okX8_type (X : Cx) (l : Launch) (hfl : l.stackTraces = false) {post : Int32 → GS → Prop} {xpost : String → GS → Prop} {a1 : Int32} {G : GS}  (hw : wpX8_type post xpost a1 G) : CX X l yX8_type cX8_type 2 (some FieldType.int) 6 1 6 [.ref (xa X 165), .int a1] G (Qi X post) xpost := by
  refine xbegin (by decide) (Nat.le_of_ble_eq_true rfl) (fun p e s m below meth c hx hb hr hml hlk hown hno hE hz ls hl hP hD hS => ?_)
  have hl : lv_has ls 2 [(0, .ref (xa X 165)), (1, .int a1)] := hl
  have hown : s.vm.findClass "FlyTreasury" = some m.cls := hown
  have B12 : ∀ (G : GS) (H : Heap) (locs : List Loc) (ls : Array Slot), wbX8_type_12 post xpost a1 G  → va_P (xD X) vwCl (pool X G) H → va_D (xA X) (pool X G) → va_S (xA X) s.heap H locs → lv_has ls 2 [] → W p l e (rmL 6 1 6) s m [.ref (xa X 165), .int a1].toArray below meth c H locs 0 0 (vx_MQ below (Qi X post) (XX X xpost) [.ref (xa X 165), .int a1].toArray s 1 6 (xA X)) (F0 m 12 ls []) := by
    intro G   H locs ls hw hP hD hS hl
    unfold wbX8_type_12 at hw
    exact thrW_IA hx hb hfl hown hE hP hD hS hl.1 hml (sr_12 hE) (hE.w qw_897 rfl _) (hE.w qw_93 rfl _) dX8_type_12 dX8_type_15 dX8_type_16 dX8_type_19 dX8_type_22 hno (by decide) (by decide) (Nat.le_of_ble_eq_true rfl) (Nat.le_of_ble_eq_true rfl) hlk hw (Nat.le_of_ble_eq_true rfl) (Nat.le_of_ble_eq_true rfl)
  unfold wpX8_type at hw
  refine lv_iload_n hx hb dX8_type_0 rfl (lv_at hl 1 rfl) ?_
  refine lv_bipush (v := 32) hx hb dX8_type_1 (by decide) ?_
  refine lv_icmp_lt (tgt := 12) hx hb dX8_type_3 (by decide) (fun c1 => ?_) (fun c1 => ?_)
  · replace hw := ite_t hw c1
    exact B12 G   _ _ _ hw hP hD hS (lv_sub hl [] rfl)
  · replace hw := ite_f hw c1
    refine lv_iload_n hx hb dX8_type_6 rfl (lv_at hl 1 rfl) ?_
    refine lv_bipush (v := 126) hx hb dX8_type_7 (by decide) ?_
    refine lv_icmp_le (tgt := 23) hx hb dX8_type_9 (by decide) (fun c2 => ?_) (fun c2 => ?_)
    · replace hw := ite_t hw c2
      refine lv_aload_n hx hb dX8_type_23 rfl (lv_at hl 0 rfl) ?_
      refine gf_X8_4 hx hb hE hP hown rfl (hE.w qw_322 rfl _) dX8_type_24 ?_
      refine gn_X6_2 hx hb hE hP hown rfl (hE.w qw_269 rfl _) dX8_type_27 ?_
      refine lv_bipush (v := 60) hx hb dX8_type_30 (by decide) ?_
      refine lv_icmp_lt (tgt := 46) hx hb dX8_type_32 (by decide) (fun c3 => ?_) (fun c3 => ?_)
      · replace hw := ite_t hw c3
        refine lv_aload_n hx hb dX8_type_46 rfl (lv_at hl 0 rfl) ?_
        refine gf_X8_4 hx hb hE hP hown rfl (hE.w qw_322 rfl _) dX8_type_47 ?_
        refine lv_iload_n hx hb dX8_type_50 rfl (lv_at hl 1 rfl) ?_
        refine call_v (run_V (cc := cX8_type) (As := [.int a1]) (rest := []) hx hb hml hown hE hz (okX6_append X l hfl  hw) qw_1441 qw_1442 qw_1443 qw_78 qw_1444 (myX6_append) ⟨Nat.le_of_ble_eq_true rfl, Nat.le_of_ble_eq_true rfl⟩ (rv_X6 hE hP rfl) hP hD hS rfl hl.1 rfl (Nat.le_of_ble_eq_true rfl) dX8_type_51 ⟨Nat.le_of_ble_eq_true rfl, Nat.le_of_ble_eq_true rfl⟩) hS (fun G4 H locs hw hP hD hS => ?_)
        refine lv_aload_n hx hb dX8_type_54 rfl (lv_at hl 0 rfl) ?_
        refine gf_X8_4 hx hb hE hP hown rfl (hE.w qw_322 rfl _) dX8_type_55 ?_
        refine gn_X6_2 hx hb hE hP hown rfl (hE.w qw_269 rfl _) dX8_type_58 ?_
        refine W.widen (k := 1) (n := 6) (Nat.le_of_ble_eq_true rfl) (Nat.le_of_ble_eq_true rfl) ?_
        refine vx_ret ?_
        exact end_i hx hb hr hlk rfl hw hP hD hS dX8_type_61
      · replace hw := ite_f hw c3
        exact thrW_IS hx hb hfl hown hE hP hD hS hl.1 hml (sr_13 hE) (hE.w qw_900 rfl _) (hE.w qw_94 rfl _) dX8_type_35 dX8_type_38 dX8_type_39 dX8_type_42 dX8_type_45 hno (by decide) (by decide) (Nat.le_of_ble_eq_true rfl) (Nat.le_of_ble_eq_true rfl) hlk hw (Nat.le_of_ble_eq_true rfl) (Nat.le_of_ble_eq_true rfl)
    · replace hw := ite_f hw c2
      exact B12 G   _ _ _ hw hP hD hS (lv_sub hl [] rfl)
