def wpX8_demand (post : GS → Prop) (xpost : String → GS → Prop) (e1 : Nat) (G : GS) : Prop :=
  wpOrd (fun (r1 : Int32) (G2 : GS) =>
  vp_in r1 5 ∧
    ∀ z4 : Int32, z4 = ([0, 1, 2, 3, 4] : List Int32).getD r1.toNatClampNeg 0 →
    if z4.toInt < 1 ∨ 4 < z4.toInt then
    post G2
  else if z4 = 1 then
    xpost "java/lang/IndexOutOfBoundsException" G2
  else if z4 = 2 then
    xpost "java/lang/IllegalArgumentException" G2
  else if z4 = 3 then
    xpost "java/lang/IllegalStateException" G2
  else if z4 = 4 then
    xpost "java/lang/UnsupportedOperationException" G2
  else False) e1 G
set_option maxHeartbeats 4000000 in
set_option maxRecDepth 100000 in
theorem okX8_demand (X : Cx) (l : Launch) (hfl : l.stackTraces = false) {post : GS → Prop} {xpost : String → GS → Prop} {e1 : Nat} {G : GS} (h1 : e1 < 5) (hw : wpX8_demand post xpost e1 G) : CX X l yX8_demand cX8_demand 1 none 6 1 6 [.ref (xk X 0 e1)] G (Qv X post) xpost := by
  refine xbegin (by decide) (Nat.le_of_ble_eq_true rfl) (fun p e s m below meth c hx hb hr hml hlk hown hno hE hz ls hl hP hD hS => ?_)
  have hl : lv_has ls 1 [(0, .ref (xk X 0 e1))] := hl
  have hown : s.vm.findClass "FlyTreasury" = some m.cls := hown
  unfold wpX8_demand at hw
  refine va_gets hx hb hE.zR hS hown (hE.w qw_876 rfl _) (fun _ h9 => h9) dX8_demand_0 ?_
  refine lv_aload_n hx hb dX8_demand_3 rfl (lv_at hl 0 rfl) ?_
  refine call_i (run_ord0 (cc := cX8_demand) hx hb hml hown hE hz h1 qw_878 qw_879 qw_881 hP hD hS hl.1 (Nat.le_of_ble_eq_true rfl) dX8_demand_4 ⟨Nat.le_of_ble_eq_true rfl, Nat.le_of_ble_eq_true rfl⟩ ⟨Nat.le_of_ble_eq_true rfl, Nat.le_of_ble_eq_true rfl⟩ hw) hS (fun r1 G2 H locs hw hP hD hS => ?_)
  obtain ⟨y3, hw⟩ := hw
  refine va_ti hx hb hE.tR hS y3 rfl dX8_demand_7 ?_
  refine lv_topi (fun z4 ez4 => ?_)
  replace hw := hw z4 ez4
  by_cases c5 : z4.toInt < 1 ∨ 4 < z4.toInt
  · replace hw := ite_t hw c5
    refine lv_tableOut (tgt := 84) hx hb dX8_demand_8 c5 (by decide) ?_
    refine W.widen (k := 1) (n := 6) (Nat.le_of_ble_eq_true rfl) (Nat.le_of_ble_eq_true rfl) ?_
    refine vx_ret ?_
    exact end_v hx hb hr hlk hw hP hD hS dX8_demand_84
  · replace hw := ite_f hw c5
    by_cases c6 : z4 = 1
    · replace hw := ite_t hw c6
      subst c6
      refine lv_tableIn (off := 32) (tgt := 40) hx hb dX8_demand_8 (by decide) (by decide) (by decide) (by decide) ?_
      exact thrW_IO hx hb hfl hown hE hP hD hS hl.1 hml (sr_1 hE) (hE.w qw_884 rfl _) (hE.w qw_92 rfl _) dX8_demand_40 dX8_demand_43 dX8_demand_44 dX8_demand_47 dX8_demand_50 hno (by decide) (by decide) (Nat.le_of_ble_eq_true rfl) (Nat.le_of_ble_eq_true rfl) hlk hw (Nat.le_of_ble_eq_true rfl) (Nat.le_of_ble_eq_true rfl)
    · replace hw := ite_f hw c6
      by_cases c7 : z4 = 2
      · replace hw := ite_t hw c7
        subst c7
        refine lv_tableIn (off := 43) (tgt := 51) hx hb dX8_demand_8 (by decide) (by decide) (by decide) (by decide) ?_
        exact thrW_IA hx hb hfl hown hE hP hD hS hl.1 hml (sr_2 hE) (hE.w qw_897 rfl _) (hE.w qw_93 rfl _) dX8_demand_51 dX8_demand_54 dX8_demand_55 dX8_demand_58 dX8_demand_61 hno (by decide) (by decide) (Nat.le_of_ble_eq_true rfl) (Nat.le_of_ble_eq_true rfl) hlk hw (Nat.le_of_ble_eq_true rfl) (Nat.le_of_ble_eq_true rfl)
      · replace hw := ite_f hw c7
        by_cases c8 : z4 = 3
        · replace hw := ite_t hw c8
          subst c8
          refine lv_tableIn (off := 54) (tgt := 62) hx hb dX8_demand_8 (by decide) (by decide) (by decide) (by decide) ?_
          exact thrW_IS hx hb hfl hown hE hP hD hS hl.1 hml (sr_3 hE) (hE.w qw_900 rfl _) (hE.w qw_94 rfl _) dX8_demand_62 dX8_demand_65 dX8_demand_66 dX8_demand_69 dX8_demand_72 hno (by decide) (by decide) (Nat.le_of_ble_eq_true rfl) (Nat.le_of_ble_eq_true rfl) hlk hw (Nat.le_of_ble_eq_true rfl) (Nat.le_of_ble_eq_true rfl)
        · replace hw := ite_f hw c8
          by_cases c9 : z4 = 4
          · replace hw := ite_t hw c9
            subst c9
            refine lv_tableIn (off := 65) (tgt := 73) hx hb dX8_demand_8 (by decide) (by decide) (by decide) (by decide) ?_
            exact thrW_UO hx hb hfl hown hE hP hD hS hl.1 hml (sr_4 hE) (hE.w qw_916 rfl _) (hE.w qw_95 rfl _) dX8_demand_73 dX8_demand_76 dX8_demand_77 dX8_demand_80 dX8_demand_83 hno (by decide) (by decide) (Nat.le_of_ble_eq_true rfl) (Nat.le_of_ble_eq_true rfl) hlk hw (Nat.le_of_ble_eq_true rfl) (Nat.le_of_ble_eq_true rfl)
          · replace hw := ite_f hw c9
            exact hw.elim
def wpX8_addVault (post : Int32 → GS → Prop) (xpost : String → GS → Prop) (a1 : Int32) (G : GS) : Prop :=
  wpX3_refusalToOpen (fun (r2 : Nat) (G1 : GS) =>
  r2 < 5 ∧
    wpX8_demand (fun (G4 : GS) =>
    wpX2_remember (fun (G5 : GS) =>
      wpX3_open (fun (r7 : Int32) (G6 : GS) =>
        post r7 G6) 0 a1 G5) 0 G4) xpost r2 G1) 0 a1 G
set_option maxHeartbeats 4000000 in
set_option maxRecDepth 100000 in
theorem okX8_addVault (X : Cx) (l : Launch) (hfl : l.stackTraces = false) {post : Int32 → GS → Prop} {xpost : String → GS → Prop} {a1 : Int32} {G : GS}  (hw : wpX8_addVault post xpost a1 G) : CX X l yX8_addVault cX8_addVault 2 (some FieldType.int) 7 1 6 [.ref (xa X 165), .int a1] G (Qi X post) xpost := by
  refine xbegin (by decide) (Nat.le_of_ble_eq_true rfl) (fun p e s m below meth c hx hb hr hml hlk hown hno hE hz ls hl hP hD hS => ?_)
  have hl : lv_has ls 2 [(0, .ref (xa X 165)), (1, .int a1)] := hl
  have hown : s.vm.findClass "FlyTreasury" = some m.cls := hown
  unfold wpX8_addVault at hw
  refine lv_aload_n hx hb dX8_addVault_0 rfl (lv_at hl 0 rfl) ?_
  refine gf_X8_0 hx hb hE hP hown rfl (hE.w qw_318 rfl _) dX8_addVault_1 ?_
  refine lv_iload_n hx hb dX8_addVault_4 rfl (lv_at hl 1 rfl) ?_
  refine call_r (run_V (cc := cX8_addVault) (As := [.int a1]) (rest := []) hx hb hml hown hE hz (okX3_refusalToOpen X l hfl rfl hw) qw_860 qw_861 qw_862 qw_75 qw_863 (myX3_refusalToOpen) ⟨Nat.le_of_ble_eq_true rfl, Nat.le_of_ble_eq_true rfl⟩ (rv_X3 hE hP rfl) hP hD hS rfl hl.1 rfl (Nat.le_of_ble_eq_true rfl) dX8_addVault_5 ⟨Nat.le_of_ble_eq_true rfl, Nat.le_of_ble_eq_true rfl⟩) hS (fun r2 G1 H locs hw hP hD hS => ?_)
  obtain ⟨y3, hw⟩ := hw
  refine xcall_v (xrun_S (cc := cX8_addVault) (As := [.ref (xk X 0 r2)]) (rest := []) hx hb hml hown hE hz (okX8_demand X l hfl y3 hw) qw_873 qw_874 qw_74 qw_875 (myX8_demand).2 ⟨Nat.le_of_ble_eq_true rfl, Nat.le_of_ble_eq_true rfl⟩ hP hD hS rfl hl.1 rfl (Nat.le_of_ble_eq_true rfl) dX8_addVault_8 ⟨Nat.le_of_ble_eq_true rfl, Nat.le_of_ble_eq_true rfl⟩) hS (fun E ce q9 G9 H locs hw hP hD hS hce hcv hcl => ?_) (fun G4 H locs hw hP hD hS => ?_)
  · exact xout hno hlk hce hcv hcl hw hP hD hS (Nat.le_of_ble_eq_true rfl) (Nat.le_of_ble_eq_true rfl)
  · refine lv_aload_n hx hb dX8_addVault_11 rfl (lv_at hl 0 rfl) ?_
    refine gf_X8_3 hx hb hE hP hown rfl (hE.w qw_321 rfl _) dX8_addVault_12 ?_
    refine lv_aload_n hx hb dX8_addVault_15 rfl (lv_at hl 0 rfl) ?_
    refine gf_X8_0 hx hb hE hP hown rfl (hE.w qw_318 rfl _) dX8_addVault_16 ?_
    refine call_v (run_V (cc := cX8_addVault) (As := [.ref (xa X 0)]) (rest := []) hx hb hml hown hE hz (okX2_remember X l hfl rfl hw) qw_932 qw_933 qw_934 qw_77 qw_935 (myX2_remember) ⟨Nat.le_of_ble_eq_true rfl, Nat.le_of_ble_eq_true rfl⟩ (rv_X2 hE hP rfl) hP hD hS rfl hl.1 rfl (Nat.le_of_ble_eq_true rfl) dX8_addVault_19 ⟨Nat.le_of_ble_eq_true rfl, Nat.le_of_ble_eq_true rfl⟩) hS (fun G5 H locs hw hP hD hS => ?_)
    refine lv_aload_n hx hb dX8_addVault_22 rfl (lv_at hl 0 rfl) ?_
    refine gf_X8_0 hx hb hE hP hown rfl (hE.w qw_318 rfl _) dX8_addVault_23 ?_
    refine lv_iload_n hx hb dX8_addVault_26 rfl (lv_at hl 1 rfl) ?_
    refine call_i (run_V (cc := cX8_addVault) (As := [.int a1]) (rest := []) hx hb hml hown hE hz (okX3_open X l hfl rfl hw) qw_938 qw_939 qw_940 qw_75 qw_941 (myX3_open) ⟨Nat.le_of_ble_eq_true rfl, Nat.le_of_ble_eq_true rfl⟩ (rv_X3 hE hP rfl) hP hD hS rfl hl.1 rfl (Nat.le_of_ble_eq_true rfl) dX8_addVault_27 ⟨Nat.le_of_ble_eq_true rfl, Nat.le_of_ble_eq_true rfl⟩) hS (fun r7 G6 H locs hw hP hD hS => ?_)
    refine vx_ret ?_
    exact end_i hx hb hr hlk rfl hw hP hD hS dX8_addVault_30
def wpX8_deposit (post : Int32 → GS → Prop) (xpost : String → GS → Prop) (a1 : Int32) (a2 : Int32) (a3 : Int32) (G : GS) : Prop :=
  wpX3_refusalToPut (fun (r2 : Nat) (G1 : GS) =>
  r2 < 5 ∧
    wpX8_demand (fun (G4 : GS) =>
    wpX2_remember (fun (G5 : GS) =>
      wpX3_put (fun (r7 : Int32) (G6 : GS) =>
        post r7 G6) 0 a1 a2 a3 G5) 0 G4) xpost r2 G1) 0 a1 a2 a3 G
set_option maxHeartbeats 4000000 in
set_option maxRecDepth 100000 in
theorem okX8_deposit (X : Cx) (l : Launch) (hfl : l.stackTraces = false) {post : Int32 → GS → Prop} {xpost : String → GS → Prop} {a1 : Int32} {a2 : Int32} {a3 : Int32} {G : GS}  (hw : wpX8_deposit post xpost a1 a2 a3 G) : CX X l yX8_deposit cX8_deposit 4 (some FieldType.int) 7 1 6 [.ref (xa X 165), .int a1, .int a2, .int a3] G (Qi X post) xpost := by
  refine xbegin (by decide) (Nat.le_of_ble_eq_true rfl) (fun p e s m below meth c hx hb hr hml hlk hown hno hE hz ls hl hP hD hS => ?_)
  have hl : lv_has ls 4 [(0, .ref (xa X 165)), (1, .int a1), (2, .int a2), (3, .int a3)] := hl
  have hown : s.vm.findClass "FlyTreasury" = some m.cls := hown
  unfold wpX8_deposit at hw
  refine lv_aload_n hx hb dX8_deposit_0 rfl (lv_at hl 0 rfl) ?_
  refine gf_X8_0 hx hb hE hP hown rfl (hE.w qw_318 rfl _) dX8_deposit_1 ?_
  refine lv_iload_n hx hb dX8_deposit_4 rfl (lv_at hl 1 rfl) ?_
  refine lv_iload_n hx hb dX8_deposit_5 rfl (lv_at hl 2 rfl) ?_
  refine lv_iload_n hx hb dX8_deposit_6 rfl (lv_at hl 3 rfl) ?_
  refine call_r (run_V (cc := cX8_deposit) (As := [.int a1, .int a2, .int a3]) (rest := []) hx hb hml hown hE hz (okX3_refusalToPut X l hfl rfl hw) qw_952 qw_953 qw_954 qw_75 qw_955 (myX3_refusalToPut) ⟨Nat.le_of_ble_eq_true rfl, Nat.le_of_ble_eq_true rfl⟩ (rv_X3 hE hP rfl) hP hD hS rfl hl.1 rfl (Nat.le_of_ble_eq_true rfl) dX8_deposit_7 ⟨Nat.le_of_ble_eq_true rfl, Nat.le_of_ble_eq_true rfl⟩) hS (fun r2 G1 H locs hw hP hD hS => ?_)
  obtain ⟨y3, hw⟩ := hw
  refine xcall_v (xrun_S (cc := cX8_deposit) (As := [.ref (xk X 0 r2)]) (rest := []) hx hb hml hown hE hz (okX8_demand X l hfl y3 hw) qw_873 qw_874 qw_74 qw_875 (myX8_demand).2 ⟨Nat.le_of_ble_eq_true rfl, Nat.le_of_ble_eq_true rfl⟩ hP hD hS rfl hl.1 rfl (Nat.le_of_ble_eq_true rfl) dX8_deposit_10 ⟨Nat.le_of_ble_eq_true rfl, Nat.le_of_ble_eq_true rfl⟩) hS (fun E ce q9 G9 H locs hw hP hD hS hce hcv hcl => ?_) (fun G4 H locs hw hP hD hS => ?_)
  · exact xout hno hlk hce hcv hcl hw hP hD hS (Nat.le_of_ble_eq_true rfl) (Nat.le_of_ble_eq_true rfl)
  · refine lv_aload_n hx hb dX8_deposit_13 rfl (lv_at hl 0 rfl) ?_
    refine gf_X8_3 hx hb hE hP hown rfl (hE.w qw_321 rfl _) dX8_deposit_14 ?_
    refine lv_aload_n hx hb dX8_deposit_17 rfl (lv_at hl 0 rfl) ?_
    refine gf_X8_0 hx hb hE hP hown rfl (hE.w qw_318 rfl _) dX8_deposit_18 ?_
    refine call_v (run_V (cc := cX8_deposit) (As := [.ref (xa X 0)]) (rest := []) hx hb hml hown hE hz (okX2_remember X l hfl rfl hw) qw_932 qw_933 qw_934 qw_77 qw_935 (myX2_remember) ⟨Nat.le_of_ble_eq_true rfl, Nat.le_of_ble_eq_true rfl⟩ (rv_X2 hE hP rfl) hP hD hS rfl hl.1 rfl (Nat.le_of_ble_eq_true rfl) dX8_deposit_21 ⟨Nat.le_of_ble_eq_true rfl, Nat.le_of_ble_eq_true rfl⟩) hS (fun G5 H locs hw hP hD hS => ?_)
    refine lv_aload_n hx hb dX8_deposit_24 rfl (lv_at hl 0 rfl) ?_
    refine gf_X8_0 hx hb hE hP hown rfl (hE.w qw_318 rfl _) dX8_deposit_25 ?_
    refine lv_iload_n hx hb dX8_deposit_28 rfl (lv_at hl 1 rfl) ?_
    refine lv_iload_n hx hb dX8_deposit_29 rfl (lv_at hl 2 rfl) ?_
    refine lv_iload_n hx hb dX8_deposit_30 rfl (lv_at hl 3 rfl) ?_
    refine call_i (run_V (cc := cX8_deposit) (As := [.int a1, .int a2, .int a3]) (rest := []) hx hb hml hown hE hz (okX3_put X l hfl rfl hw) qw_1009 qw_1010 qw_1011 qw_75 qw_1012 (myX3_put) ⟨Nat.le_of_ble_eq_true rfl, Nat.le_of_ble_eq_true rfl⟩ (rv_X3 hE hP rfl) hP hD hS rfl hl.1 rfl (Nat.le_of_ble_eq_true rfl) dX8_deposit_31 ⟨Nat.le_of_ble_eq_true rfl, Nat.le_of_ble_eq_true rfl⟩) hS (fun r7 G6 H locs hw hP hD hS => ?_)
    refine vx_ret ?_
    exact end_i hx hb hr hlk rfl hw hP hD hS dX8_deposit_34
def wpX8_withdraw (post : Int32 → GS → Prop) (xpost : String → GS → Prop) (a1 : Int32) (a2 : Int32) (a3 : Int32) (G : GS) : Prop :=
  wpX3_refusalToTake (fun (r2 : Nat) (G1 : GS) =>
  r2 < 5 ∧
    wpX8_demand (fun (G4 : GS) =>
    wpX2_remember (fun (G5 : GS) =>
      wpX3_take (fun (r7 : Int32) (G6 : GS) =>
        post r7 G6) 0 a1 a2 a3 G5) 0 G4) xpost r2 G1) 0 a1 a2 a3 G
set_option maxHeartbeats 4000000 in
set_option maxRecDepth 100000 in
theorem okX8_withdraw (X : Cx) (l : Launch) (hfl : l.stackTraces = false) {post : Int32 → GS → Prop} {xpost : String → GS → Prop} {a1 : Int32} {a2 : Int32} {a3 : Int32} {G : GS}  (hw : wpX8_withdraw post xpost a1 a2 a3 G) : CX X l yX8_withdraw cX8_withdraw 4 (some FieldType.int) 7 1 6 [.ref (xa X 165), .int a1, .int a2, .int a3] G (Qi X post) xpost := by
  refine xbegin (by decide) (Nat.le_of_ble_eq_true rfl) (fun p e s m below meth c hx hb hr hml hlk hown hno hE hz ls hl hP hD hS => ?_)
  have hl : lv_has ls 4 [(0, .ref (xa X 165)), (1, .int a1), (2, .int a2), (3, .int a3)] := hl
  have hown : s.vm.findClass "FlyTreasury" = some m.cls := hown
  unfold wpX8_withdraw at hw
  refine lv_aload_n hx hb dX8_withdraw_0 rfl (lv_at hl 0 rfl) ?_
  refine gf_X8_0 hx hb hE hP hown rfl (hE.w qw_318 rfl _) dX8_withdraw_1 ?_
  refine lv_iload_n hx hb dX8_withdraw_4 rfl (lv_at hl 1 rfl) ?_
  refine lv_iload_n hx hb dX8_withdraw_5 rfl (lv_at hl 2 rfl) ?_
  refine lv_iload_n hx hb dX8_withdraw_6 rfl (lv_at hl 3 rfl) ?_
  refine call_r (run_V (cc := cX8_withdraw) (As := [.int a1, .int a2, .int a3]) (rest := []) hx hb hml hown hE hz (okX3_refusalToTake X l hfl rfl hw) qw_1021 qw_1022 qw_1023 qw_75 qw_1024 (myX3_refusalToTake) ⟨Nat.le_of_ble_eq_true rfl, Nat.le_of_ble_eq_true rfl⟩ (rv_X3 hE hP rfl) hP hD hS rfl hl.1 rfl (Nat.le_of_ble_eq_true rfl) dX8_withdraw_7 ⟨Nat.le_of_ble_eq_true rfl, Nat.le_of_ble_eq_true rfl⟩) hS (fun r2 G1 H locs hw hP hD hS => ?_)
  obtain ⟨y3, hw⟩ := hw
  refine xcall_v (xrun_S (cc := cX8_withdraw) (As := [.ref (xk X 0 r2)]) (rest := []) hx hb hml hown hE hz (okX8_demand X l hfl y3 hw) qw_873 qw_874 qw_74 qw_875 (myX8_demand).2 ⟨Nat.le_of_ble_eq_true rfl, Nat.le_of_ble_eq_true rfl⟩ hP hD hS rfl hl.1 rfl (Nat.le_of_ble_eq_true rfl) dX8_withdraw_10 ⟨Nat.le_of_ble_eq_true rfl, Nat.le_of_ble_eq_true rfl⟩) hS (fun E ce q9 G9 H locs hw hP hD hS hce hcv hcl => ?_) (fun G4 H locs hw hP hD hS => ?_)
  · exact xout hno hlk hce hcv hcl hw hP hD hS (Nat.le_of_ble_eq_true rfl) (Nat.le_of_ble_eq_true rfl)
  · refine lv_aload_n hx hb dX8_withdraw_13 rfl (lv_at hl 0 rfl) ?_
    refine gf_X8_3 hx hb hE hP hown rfl (hE.w qw_321 rfl _) dX8_withdraw_14 ?_
    refine lv_aload_n hx hb dX8_withdraw_17 rfl (lv_at hl 0 rfl) ?_
    refine gf_X8_0 hx hb hE hP hown rfl (hE.w qw_318 rfl _) dX8_withdraw_18 ?_
    refine call_v (run_V (cc := cX8_withdraw) (As := [.ref (xa X 0)]) (rest := []) hx hb hml hown hE hz (okX2_remember X l hfl rfl hw) qw_932 qw_933 qw_934 qw_77 qw_935 (myX2_remember) ⟨Nat.le_of_ble_eq_true rfl, Nat.le_of_ble_eq_true rfl⟩ (rv_X2 hE hP rfl) hP hD hS rfl hl.1 rfl (Nat.le_of_ble_eq_true rfl) dX8_withdraw_21 ⟨Nat.le_of_ble_eq_true rfl, Nat.le_of_ble_eq_true rfl⟩) hS (fun G5 H locs hw hP hD hS => ?_)
    refine lv_aload_n hx hb dX8_withdraw_24 rfl (lv_at hl 0 rfl) ?_
    refine gf_X8_0 hx hb hE hP hown rfl (hE.w qw_318 rfl _) dX8_withdraw_25 ?_
    refine lv_iload_n hx hb dX8_withdraw_28 rfl (lv_at hl 1 rfl) ?_
    refine lv_iload_n hx hb dX8_withdraw_29 rfl (lv_at hl 2 rfl) ?_
    refine lv_iload_n hx hb dX8_withdraw_30 rfl (lv_at hl 3 rfl) ?_
    refine call_i (run_V (cc := cX8_withdraw) (As := [.int a1, .int a2, .int a3]) (rest := []) hx hb hml hown hE hz (okX3_take X l hfl rfl hw) qw_1032 qw_1033 qw_1034 qw_75 qw_1035 (myX3_take) ⟨Nat.le_of_ble_eq_true rfl, Nat.le_of_ble_eq_true rfl⟩ (rv_X3 hE hP rfl) hP hD hS rfl hl.1 rfl (Nat.le_of_ble_eq_true rfl) dX8_withdraw_31 ⟨Nat.le_of_ble_eq_true rfl, Nat.le_of_ble_eq_true rfl⟩) hS (fun r7 G6 H locs hw hP hD hS => ?_)
    refine vx_ret ?_
    exact end_i hx hb hr hlk rfl hw hP hD hS dX8_withdraw_34
def wpX8_exchange (post : Int32 → GS → Prop) (xpost : String → GS → Prop) (a1 : Int32) (a2 : Int32) (a3 : Int32) (a4 : Int32) (G : GS) : Prop :=
  wpX3_refusalToSwap (fun (r2 : Nat) (G1 : GS) =>
  r2 < 5 ∧
    wpX8_demand (fun (G4 : GS) =>
    wpX2_remember (fun (G5 : GS) =>
      wpX3_swap (fun (r7 : Int32) (G6 : GS) =>
        post r7 G6) 0 a1 a2 a3 a4 G5) 0 G4) xpost r2 G1) 0 a1 a2 a3 a4 G
set_option maxHeartbeats 4000000 in
set_option maxRecDepth 100000 in
theorem okX8_exchange (X : Cx) (l : Launch) (hfl : l.stackTraces = false) {post : Int32 → GS → Prop} {xpost : String → GS → Prop} {a1 : Int32} {a2 : Int32} {a3 : Int32} {a4 : Int32} {G : GS}  (hw : wpX8_exchange post xpost a1 a2 a3 a4 G) : CX X l yX8_exchange cX8_exchange 5 (some FieldType.int) 7 1 6 [.ref (xa X 165), .int a1, .int a2, .int a3, .int a4] G (Qi X post) xpost := by
  refine xbegin (by decide) (Nat.le_of_ble_eq_true rfl) (fun p e s m below meth c hx hb hr hml hlk hown hno hE hz ls hl hP hD hS => ?_)
  have hl : lv_has ls 5 [(0, .ref (xa X 165)), (1, .int a1), (2, .int a2), (3, .int a3), (4, .int a4)] := hl
  have hown : s.vm.findClass "FlyTreasury" = some m.cls := hown
  unfold wpX8_exchange at hw
  refine lv_aload_n hx hb dX8_exchange_0 rfl (lv_at hl 0 rfl) ?_
  refine gf_X8_0 hx hb hE hP hown rfl (hE.w qw_318 rfl _) dX8_exchange_1 ?_
  refine lv_iload_n hx hb dX8_exchange_4 rfl (lv_at hl 1 rfl) ?_
  refine lv_iload_n hx hb dX8_exchange_5 rfl (lv_at hl 2 rfl) ?_
  refine lv_iload_n hx hb dX8_exchange_6 rfl (lv_at hl 3 rfl) ?_
  refine lv_iload hx hb dX8_exchange_7 (lv_at hl 4 rfl) ?_
  refine call_r (run_V (cc := cX8_exchange) (As := [.int a1, .int a2, .int a3, .int a4]) (rest := []) hx hb hml hown hE hz (okX3_refusalToSwap X l hfl rfl hw) qw_1043 qw_1044 qw_1045 qw_75 qw_1046 (myX3_refusalToSwap) ⟨Nat.le_of_ble_eq_true rfl, Nat.le_of_ble_eq_true rfl⟩ (rv_X3 hE hP rfl) hP hD hS rfl hl.1 rfl (Nat.le_of_ble_eq_true rfl) dX8_exchange_9 ⟨Nat.le_of_ble_eq_true rfl, Nat.le_of_ble_eq_true rfl⟩) hS (fun r2 G1 H locs hw hP hD hS => ?_)
  obtain ⟨y3, hw⟩ := hw
  refine xcall_v (xrun_S (cc := cX8_exchange) (As := [.ref (xk X 0 r2)]) (rest := []) hx hb hml hown hE hz (okX8_demand X l hfl y3 hw) qw_873 qw_874 qw_74 qw_875 (myX8_demand).2 ⟨Nat.le_of_ble_eq_true rfl, Nat.le_of_ble_eq_true rfl⟩ hP hD hS rfl hl.1 rfl (Nat.le_of_ble_eq_true rfl) dX8_exchange_12 ⟨Nat.le_of_ble_eq_true rfl, Nat.le_of_ble_eq_true rfl⟩) hS (fun E ce q9 G9 H locs hw hP hD hS hce hcv hcl => ?_) (fun G4 H locs hw hP hD hS => ?_)
  · exact xout hno hlk hce hcv hcl hw hP hD hS (Nat.le_of_ble_eq_true rfl) (Nat.le_of_ble_eq_true rfl)
  · refine lv_aload_n hx hb dX8_exchange_15 rfl (lv_at hl 0 rfl) ?_
    refine gf_X8_3 hx hb hE hP hown rfl (hE.w qw_321 rfl _) dX8_exchange_16 ?_
    refine lv_aload_n hx hb dX8_exchange_19 rfl (lv_at hl 0 rfl) ?_
    refine gf_X8_0 hx hb hE hP hown rfl (hE.w qw_318 rfl _) dX8_exchange_20 ?_
    refine call_v (run_V (cc := cX8_exchange) (As := [.ref (xa X 0)]) (rest := []) hx hb hml hown hE hz (okX2_remember X l hfl rfl hw) qw_932 qw_933 qw_934 qw_77 qw_935 (myX2_remember) ⟨Nat.le_of_ble_eq_true rfl, Nat.le_of_ble_eq_true rfl⟩ (rv_X2 hE hP rfl) hP hD hS rfl hl.1 rfl (Nat.le_of_ble_eq_true rfl) dX8_exchange_23 ⟨Nat.le_of_ble_eq_true rfl, Nat.le_of_ble_eq_true rfl⟩) hS (fun G5 H locs hw hP hD hS => ?_)
    refine lv_aload_n hx hb dX8_exchange_26 rfl (lv_at hl 0 rfl) ?_
    refine gf_X8_0 hx hb hE hP hown rfl (hE.w qw_318 rfl _) dX8_exchange_27 ?_
    refine lv_iload_n hx hb dX8_exchange_30 rfl (lv_at hl 1 rfl) ?_
    refine lv_iload_n hx hb dX8_exchange_31 rfl (lv_at hl 2 rfl) ?_
    refine lv_iload_n hx hb dX8_exchange_32 rfl (lv_at hl 3 rfl) ?_
    refine lv_iload hx hb dX8_exchange_33 (lv_at hl 4 rfl) ?_
    refine call_i (run_V (cc := cX8_exchange) (As := [.int a1, .int a2, .int a3, .int a4]) (rest := []) hx hb hml hown hE hz (okX3_swap X l hfl rfl hw) qw_1050 qw_1051 qw_1052 qw_75 qw_1053 (myX3_swap) ⟨Nat.le_of_ble_eq_true rfl, Nat.le_of_ble_eq_true rfl⟩ (rv_X3 hE hP rfl) hP hD hS rfl hl.1 rfl (Nat.le_of_ble_eq_true rfl) dX8_exchange_35 ⟨Nat.le_of_ble_eq_true rfl, Nat.le_of_ble_eq_true rfl⟩) hS (fun r7 G6 H locs hw hP hD hS => ?_)
    refine vx_ret ?_
    exact end_i hx hb hr hlk rfl hw hP hD hS dX8_exchange_38
def wpX8_mint (post : Int32 → GS → Prop) (xpost : String → GS → Prop) (a1 : Int32) (a2 : Int32) (G : GS) : Prop :=
  wpX3_refusalToIssue (fun (r2 : Nat) (G1 : GS) =>
  r2 < 5 ∧
    wpX8_demand (fun (G4 : GS) =>
    wpX2_remember (fun (G5 : GS) =>
      wpX3_issue (fun (r7 : Int32) (G6 : GS) =>
        post r7 G6) 0 a1 a2 G5) 0 G4) xpost r2 G1) 0 a1 a2 G
set_option maxHeartbeats 4000000 in
set_option maxRecDepth 100000 in
theorem okX8_mint (X : Cx) (l : Launch) (hfl : l.stackTraces = false) {post : Int32 → GS → Prop} {xpost : String → GS → Prop} {a1 : Int32} {a2 : Int32} {G : GS}  (hw : wpX8_mint post xpost a1 a2 G) : CX X l yX8_mint cX8_mint 3 (some FieldType.int) 7 1 6 [.ref (xa X 165), .int a1, .int a2] G (Qi X post) xpost := by
  refine xbegin (by decide) (Nat.le_of_ble_eq_true rfl) (fun p e s m below meth c hx hb hr hml hlk hown hno hE hz ls hl hP hD hS => ?_)
  have hl : lv_has ls 3 [(0, .ref (xa X 165)), (1, .int a1), (2, .int a2)] := hl
  have hown : s.vm.findClass "FlyTreasury" = some m.cls := hown
  unfold wpX8_mint at hw
  refine lv_aload_n hx hb dX8_mint_0 rfl (lv_at hl 0 rfl) ?_
  refine gf_X8_0 hx hb hE hP hown rfl (hE.w qw_318 rfl _) dX8_mint_1 ?_
  refine lv_iload_n hx hb dX8_mint_4 rfl (lv_at hl 1 rfl) ?_
  refine lv_iload_n hx hb dX8_mint_5 rfl (lv_at hl 2 rfl) ?_
  refine call_r (run_V (cc := cX8_mint) (As := [.int a1, .int a2]) (rest := []) hx hb hml hown hE hz (okX3_refusalToIssue X l hfl rfl hw) qw_1061 qw_1062 qw_1063 qw_75 qw_1064 (myX3_refusalToIssue) ⟨Nat.le_of_ble_eq_true rfl, Nat.le_of_ble_eq_true rfl⟩ (rv_X3 hE hP rfl) hP hD hS rfl hl.1 rfl (Nat.le_of_ble_eq_true rfl) dX8_mint_6 ⟨Nat.le_of_ble_eq_true rfl, Nat.le_of_ble_eq_true rfl⟩) hS (fun r2 G1 H locs hw hP hD hS => ?_)
  obtain ⟨y3, hw⟩ := hw
  refine xcall_v (xrun_S (cc := cX8_mint) (As := [.ref (xk X 0 r2)]) (rest := []) hx hb hml hown hE hz (okX8_demand X l hfl y3 hw) qw_873 qw_874 qw_74 qw_875 (myX8_demand).2 ⟨Nat.le_of_ble_eq_true rfl, Nat.le_of_ble_eq_true rfl⟩ hP hD hS rfl hl.1 rfl (Nat.le_of_ble_eq_true rfl) dX8_mint_9 ⟨Nat.le_of_ble_eq_true rfl, Nat.le_of_ble_eq_true rfl⟩) hS (fun E ce q9 G9 H locs hw hP hD hS hce hcv hcl => ?_) (fun G4 H locs hw hP hD hS => ?_)
  · exact xout hno hlk hce hcv hcl hw hP hD hS (Nat.le_of_ble_eq_true rfl) (Nat.le_of_ble_eq_true rfl)
  · refine lv_aload_n hx hb dX8_mint_12 rfl (lv_at hl 0 rfl) ?_
    refine gf_X8_3 hx hb hE hP hown rfl (hE.w qw_321 rfl _) dX8_mint_13 ?_
    refine lv_aload_n hx hb dX8_mint_16 rfl (lv_at hl 0 rfl) ?_
    refine gf_X8_0 hx hb hE hP hown rfl (hE.w qw_318 rfl _) dX8_mint_17 ?_
    refine call_v (run_V (cc := cX8_mint) (As := [.ref (xa X 0)]) (rest := []) hx hb hml hown hE hz (okX2_remember X l hfl rfl hw) qw_932 qw_933 qw_934 qw_77 qw_935 (myX2_remember) ⟨Nat.le_of_ble_eq_true rfl, Nat.le_of_ble_eq_true rfl⟩ (rv_X2 hE hP rfl) hP hD hS rfl hl.1 rfl (Nat.le_of_ble_eq_true rfl) dX8_mint_20 ⟨Nat.le_of_ble_eq_true rfl, Nat.le_of_ble_eq_true rfl⟩) hS (fun G5 H locs hw hP hD hS => ?_)
    refine lv_aload_n hx hb dX8_mint_23 rfl (lv_at hl 0 rfl) ?_
    refine gf_X8_0 hx hb hE hP hown rfl (hE.w qw_318 rfl _) dX8_mint_24 ?_
    refine lv_iload_n hx hb dX8_mint_27 rfl (lv_at hl 1 rfl) ?_
    refine lv_iload_n hx hb dX8_mint_28 rfl (lv_at hl 2 rfl) ?_
    refine call_i (run_V (cc := cX8_mint) (As := [.int a1, .int a2]) (rest := []) hx hb hml hown hE hz (okX3_issue X l hfl rfl hw) qw_1069 qw_1070 qw_1071 qw_75 qw_1072 (myX3_issue) ⟨Nat.le_of_ble_eq_true rfl, Nat.le_of_ble_eq_true rfl⟩ (rv_X3 hE hP rfl) hP hD hS rfl hl.1 rfl (Nat.le_of_ble_eq_true rfl) dX8_mint_29 ⟨Nat.le_of_ble_eq_true rfl, Nat.le_of_ble_eq_true rfl⟩) hS (fun r7 G6 H locs hw hP hD hS => ?_)
    refine vx_ret ?_
    exact end_i hx hb hr hlk rfl hw hP hD hS dX8_mint_32
def wpX8_redeem (post : Int32 → GS → Prop) (xpost : String → GS → Prop) (a1 : Int32) (a2 : Int32) (G : GS) : Prop :=
  wpX3_refusalToMelt (fun (r2 : Nat) (G1 : GS) =>
  r2 < 5 ∧
    wpX8_demand (fun (G4 : GS) =>
    wpX2_remember (fun (G5 : GS) =>
      wpX3_melt (fun (r7 : Int32) (G6 : GS) =>
        post r7 G6) 0 a1 a2 G5) 0 G4) xpost r2 G1) 0 a1 a2 G
set_option maxHeartbeats 4000000 in
set_option maxRecDepth 100000 in
theorem okX8_redeem (X : Cx) (l : Launch) (hfl : l.stackTraces = false) {post : Int32 → GS → Prop} {xpost : String → GS → Prop} {a1 : Int32} {a2 : Int32} {G : GS}  (hw : wpX8_redeem post xpost a1 a2 G) : CX X l yX8_redeem cX8_redeem 3 (some FieldType.int) 7 1 6 [.ref (xa X 165), .int a1, .int a2] G (Qi X post) xpost := by
  refine xbegin (by decide) (Nat.le_of_ble_eq_true rfl) (fun p e s m below meth c hx hb hr hml hlk hown hno hE hz ls hl hP hD hS => ?_)
  have hl : lv_has ls 3 [(0, .ref (xa X 165)), (1, .int a1), (2, .int a2)] := hl
  have hown : s.vm.findClass "FlyTreasury" = some m.cls := hown
  unfold wpX8_redeem at hw
  refine lv_aload_n hx hb dX8_redeem_0 rfl (lv_at hl 0 rfl) ?_
  refine gf_X8_0 hx hb hE hP hown rfl (hE.w qw_318 rfl _) dX8_redeem_1 ?_
  refine lv_iload_n hx hb dX8_redeem_4 rfl (lv_at hl 1 rfl) ?_
  refine lv_iload_n hx hb dX8_redeem_5 rfl (lv_at hl 2 rfl) ?_
  refine call_r (run_V (cc := cX8_redeem) (As := [.int a1, .int a2]) (rest := []) hx hb hml hown hE hz (okX3_refusalToMelt X l hfl rfl hw) qw_1080 qw_1081 qw_1082 qw_75 qw_1083 (myX3_refusalToMelt) ⟨Nat.le_of_ble_eq_true rfl, Nat.le_of_ble_eq_true rfl⟩ (rv_X3 hE hP rfl) hP hD hS rfl hl.1 rfl (Nat.le_of_ble_eq_true rfl) dX8_redeem_6 ⟨Nat.le_of_ble_eq_true rfl, Nat.le_of_ble_eq_true rfl⟩) hS (fun r2 G1 H locs hw hP hD hS => ?_)
  obtain ⟨y3, hw⟩ := hw
  refine xcall_v (xrun_S (cc := cX8_redeem) (As := [.ref (xk X 0 r2)]) (rest := []) hx hb hml hown hE hz (okX8_demand X l hfl y3 hw) qw_873 qw_874 qw_74 qw_875 (myX8_demand).2 ⟨Nat.le_of_ble_eq_true rfl, Nat.le_of_ble_eq_true rfl⟩ hP hD hS rfl hl.1 rfl (Nat.le_of_ble_eq_true rfl) dX8_redeem_9 ⟨Nat.le_of_ble_eq_true rfl, Nat.le_of_ble_eq_true rfl⟩) hS (fun E ce q9 G9 H locs hw hP hD hS hce hcv hcl => ?_) (fun G4 H locs hw hP hD hS => ?_)
  · exact xout hno hlk hce hcv hcl hw hP hD hS (Nat.le_of_ble_eq_true rfl) (Nat.le_of_ble_eq_true rfl)
  · refine lv_aload_n hx hb dX8_redeem_12 rfl (lv_at hl 0 rfl) ?_
    refine gf_X8_3 hx hb hE hP hown rfl (hE.w qw_321 rfl _) dX8_redeem_13 ?_
    refine lv_aload_n hx hb dX8_redeem_16 rfl (lv_at hl 0 rfl) ?_
    refine gf_X8_0 hx hb hE hP hown rfl (hE.w qw_318 rfl _) dX8_redeem_17 ?_
    refine call_v (run_V (cc := cX8_redeem) (As := [.ref (xa X 0)]) (rest := []) hx hb hml hown hE hz (okX2_remember X l hfl rfl hw) qw_932 qw_933 qw_934 qw_77 qw_935 (myX2_remember) ⟨Nat.le_of_ble_eq_true rfl, Nat.le_of_ble_eq_true rfl⟩ (rv_X2 hE hP rfl) hP hD hS rfl hl.1 rfl (Nat.le_of_ble_eq_true rfl) dX8_redeem_20 ⟨Nat.le_of_ble_eq_true rfl, Nat.le_of_ble_eq_true rfl⟩) hS (fun G5 H locs hw hP hD hS => ?_)
    refine lv_aload_n hx hb dX8_redeem_23 rfl (lv_at hl 0 rfl) ?_
    refine gf_X8_0 hx hb hE hP hown rfl (hE.w qw_318 rfl _) dX8_redeem_24 ?_
    refine lv_iload_n hx hb dX8_redeem_27 rfl (lv_at hl 1 rfl) ?_
    refine lv_iload_n hx hb dX8_redeem_28 rfl (lv_at hl 2 rfl) ?_
    refine call_i (run_V (cc := cX8_redeem) (As := [.int a1, .int a2]) (rest := []) hx hb hml hown hE hz (okX3_melt X l hfl rfl hw) qw_1084 qw_1085 qw_1086 qw_75 qw_1087 (myX3_melt) ⟨Nat.le_of_ble_eq_true rfl, Nat.le_of_ble_eq_true rfl⟩ (rv_X3 hE hP rfl) hP hD hS rfl hl.1 rfl (Nat.le_of_ble_eq_true rfl) dX8_redeem_29 ⟨Nat.le_of_ble_eq_true rfl, Nat.le_of_ble_eq_true rfl⟩) hS (fun r7 G6 H locs hw hP hD hS => ?_)
    refine vx_ret ?_
    exact end_i hx hb hr hlk rfl hw hP hD hS dX8_redeem_32
def wpX8_audit (post : Int32 → GS → Prop) (xpost : String → GS → Prop) (a1 : Int32) (G : GS) : Prop :=
  wpX3_refusalToInspect (fun (r2 : Nat) (G1 : GS) =>
  r2 < 5 ∧
    wpX8_demand (fun (G4 : GS) =>
    wpX2_remember (fun (G5 : GS) =>
      wpX3_inspect (fun (r7 : Int32) (G6 : GS) =>
        narrow .boolean (.int r7) = .int r7 ∧ post r7 G6) 0 a1 G5) 0 G4) xpost r2 G1) 0 a1 G
set_option maxHeartbeats 4000000 in
set_option maxRecDepth 100000 in
theorem okX8_audit (X : Cx) (l : Launch) (hfl : l.stackTraces = false) {post : Int32 → GS → Prop} {xpost : String → GS → Prop} {a1 : Int32} {G : GS}  (hw : wpX8_audit post xpost a1 G) : CX X l yX8_audit cX8_audit 2 (some FieldType.boolean) 7 1 6 [.ref (xa X 165), .int a1] G (Qi X post) xpost := by
  refine xbegin (by decide) (Nat.le_of_ble_eq_true rfl) (fun p e s m below meth c hx hb hr hml hlk hown hno hE hz ls hl hP hD hS => ?_)
  have hl : lv_has ls 2 [(0, .ref (xa X 165)), (1, .int a1)] := hl
  have hown : s.vm.findClass "FlyTreasury" = some m.cls := hown
  unfold wpX8_audit at hw
  refine lv_aload_n hx hb dX8_audit_0 rfl (lv_at hl 0 rfl) ?_
  refine gf_X8_0 hx hb hE hP hown rfl (hE.w qw_318 rfl _) dX8_audit_1 ?_
  refine lv_iload_n hx hb dX8_audit_4 rfl (lv_at hl 1 rfl) ?_
  refine call_r (run_V (cc := cX8_audit) (As := [.int a1]) (rest := []) hx hb hml hown hE hz (okX3_refusalToInspect X l hfl rfl hw) qw_1095 qw_1096 qw_1097 qw_75 qw_1098 (myX3_refusalToInspect) ⟨Nat.le_of_ble_eq_true rfl, Nat.le_of_ble_eq_true rfl⟩ (rv_X3 hE hP rfl) hP hD hS rfl hl.1 rfl (Nat.le_of_ble_eq_true rfl) dX8_audit_5 ⟨Nat.le_of_ble_eq_true rfl, Nat.le_of_ble_eq_true rfl⟩) hS (fun r2 G1 H locs hw hP hD hS => ?_)
  obtain ⟨y3, hw⟩ := hw
  refine xcall_v (xrun_S (cc := cX8_audit) (As := [.ref (xk X 0 r2)]) (rest := []) hx hb hml hown hE hz (okX8_demand X l hfl y3 hw) qw_873 qw_874 qw_74 qw_875 (myX8_demand).2 ⟨Nat.le_of_ble_eq_true rfl, Nat.le_of_ble_eq_true rfl⟩ hP hD hS rfl hl.1 rfl (Nat.le_of_ble_eq_true rfl) dX8_audit_8 ⟨Nat.le_of_ble_eq_true rfl, Nat.le_of_ble_eq_true rfl⟩) hS (fun E ce q9 G9 H locs hw hP hD hS hce hcv hcl => ?_) (fun G4 H locs hw hP hD hS => ?_)
  · exact xout hno hlk hce hcv hcl hw hP hD hS (Nat.le_of_ble_eq_true rfl) (Nat.le_of_ble_eq_true rfl)
  · refine lv_aload_n hx hb dX8_audit_11 rfl (lv_at hl 0 rfl) ?_
    refine gf_X8_3 hx hb hE hP hown rfl (hE.w qw_321 rfl _) dX8_audit_12 ?_
    refine lv_aload_n hx hb dX8_audit_15 rfl (lv_at hl 0 rfl) ?_
    refine gf_X8_0 hx hb hE hP hown rfl (hE.w qw_318 rfl _) dX8_audit_16 ?_
    refine call_v (run_V (cc := cX8_audit) (As := [.ref (xa X 0)]) (rest := []) hx hb hml hown hE hz (okX2_remember X l hfl rfl hw) qw_932 qw_933 qw_934 qw_77 qw_935 (myX2_remember) ⟨Nat.le_of_ble_eq_true rfl, Nat.le_of_ble_eq_true rfl⟩ (rv_X2 hE hP rfl) hP hD hS rfl hl.1 rfl (Nat.le_of_ble_eq_true rfl) dX8_audit_19 ⟨Nat.le_of_ble_eq_true rfl, Nat.le_of_ble_eq_true rfl⟩) hS (fun G5 H locs hw hP hD hS => ?_)
    refine lv_aload_n hx hb dX8_audit_22 rfl (lv_at hl 0 rfl) ?_
    refine gf_X8_0 hx hb hE hP hown rfl (hE.w qw_318 rfl _) dX8_audit_23 ?_
    refine lv_iload_n hx hb dX8_audit_26 rfl (lv_at hl 1 rfl) ?_
    refine call_i (run_V (cc := cX8_audit) (As := [.int a1]) (rest := []) hx hb hml hown hE hz (okX3_inspect X l hfl rfl hw) qw_1099 qw_1100 qw_1101 qw_75 qw_1102 (myX3_inspect) ⟨Nat.le_of_ble_eq_true rfl, Nat.le_of_ble_eq_true rfl⟩ (rv_X3 hE hP rfl) hP hD hS rfl hl.1 rfl (Nat.le_of_ble_eq_true rfl) dX8_audit_27 ⟨Nat.le_of_ble_eq_true rfl, Nat.le_of_ble_eq_true rfl⟩) hS (fun r7 G6 H locs hw hP hD hS => ?_)
    refine vx_ret ?_
    obtain ⟨y8, hw⟩ := hw
    exact end_i hx hb hr hlk y8 hw hP hD hS dX8_audit_30
def wpX8_setRate (post : Int32 → GS → Prop) (xpost : String → GS → Prop) (a1 : Int32) (a2 : Int32) (G : GS) : Prop :=
  wpX3_refusalToRate (fun (r2 : Nat) (G1 : GS) =>
  r2 < 5 ∧
    wpX8_demand (fun (G4 : GS) =>
    wpX2_remember (fun (G5 : GS) =>
      wpX3_changeRate (fun (r7 : Int32) (G6 : GS) =>
        post r7 G6) 0 a1 a2 G5) 0 G4) xpost r2 G1) 0 a1 a2 G
set_option maxHeartbeats 4000000 in
set_option maxRecDepth 100000 in
theorem okX8_setRate (X : Cx) (l : Launch) (hfl : l.stackTraces = false) {post : Int32 → GS → Prop} {xpost : String → GS → Prop} {a1 : Int32} {a2 : Int32} {G : GS}  (hw : wpX8_setRate post xpost a1 a2 G) : CX X l yX8_setRate cX8_setRate 3 (some FieldType.int) 7 1 6 [.ref (xa X 165), .int a1, .int a2] G (Qi X post) xpost := by
  refine xbegin (by decide) (Nat.le_of_ble_eq_true rfl) (fun p e s m below meth c hx hb hr hml hlk hown hno hE hz ls hl hP hD hS => ?_)
  have hl : lv_has ls 3 [(0, .ref (xa X 165)), (1, .int a1), (2, .int a2)] := hl
  have hown : s.vm.findClass "FlyTreasury" = some m.cls := hown
  unfold wpX8_setRate at hw
  refine lv_aload_n hx hb dX8_setRate_0 rfl (lv_at hl 0 rfl) ?_
  refine gf_X8_0 hx hb hE hP hown rfl (hE.w qw_318 rfl _) dX8_setRate_1 ?_
  refine lv_iload_n hx hb dX8_setRate_4 rfl (lv_at hl 1 rfl) ?_
  refine lv_iload_n hx hb dX8_setRate_5 rfl (lv_at hl 2 rfl) ?_
  refine call_r (run_V (cc := cX8_setRate) (As := [.int a1, .int a2]) (rest := []) hx hb hml hown hE hz (okX3_refusalToRate X l hfl rfl hw) qw_1123 qw_1124 qw_1125 qw_75 qw_1126 (myX3_refusalToRate) ⟨Nat.le_of_ble_eq_true rfl, Nat.le_of_ble_eq_true rfl⟩ (rv_X3 hE hP rfl) hP hD hS rfl hl.1 rfl (Nat.le_of_ble_eq_true rfl) dX8_setRate_6 ⟨Nat.le_of_ble_eq_true rfl, Nat.le_of_ble_eq_true rfl⟩) hS (fun r2 G1 H locs hw hP hD hS => ?_)
  obtain ⟨y3, hw⟩ := hw
  refine xcall_v (xrun_S (cc := cX8_setRate) (As := [.ref (xk X 0 r2)]) (rest := []) hx hb hml hown hE hz (okX8_demand X l hfl y3 hw) qw_873 qw_874 qw_74 qw_875 (myX8_demand).2 ⟨Nat.le_of_ble_eq_true rfl, Nat.le_of_ble_eq_true rfl⟩ hP hD hS rfl hl.1 rfl (Nat.le_of_ble_eq_true rfl) dX8_setRate_9 ⟨Nat.le_of_ble_eq_true rfl, Nat.le_of_ble_eq_true rfl⟩) hS (fun E ce q9 G9 H locs hw hP hD hS hce hcv hcl => ?_) (fun G4 H locs hw hP hD hS => ?_)
  · exact xout hno hlk hce hcv hcl hw hP hD hS (Nat.le_of_ble_eq_true rfl) (Nat.le_of_ble_eq_true rfl)
  · refine lv_aload_n hx hb dX8_setRate_12 rfl (lv_at hl 0 rfl) ?_
    refine gf_X8_3 hx hb hE hP hown rfl (hE.w qw_321 rfl _) dX8_setRate_13 ?_
    refine lv_aload_n hx hb dX8_setRate_16 rfl (lv_at hl 0 rfl) ?_
    refine gf_X8_0 hx hb hE hP hown rfl (hE.w qw_318 rfl _) dX8_setRate_17 ?_
    refine call_v (run_V (cc := cX8_setRate) (As := [.ref (xa X 0)]) (rest := []) hx hb hml hown hE hz (okX2_remember X l hfl rfl hw) qw_932 qw_933 qw_934 qw_77 qw_935 (myX2_remember) ⟨Nat.le_of_ble_eq_true rfl, Nat.le_of_ble_eq_true rfl⟩ (rv_X2 hE hP rfl) hP hD hS rfl hl.1 rfl (Nat.le_of_ble_eq_true rfl) dX8_setRate_20 ⟨Nat.le_of_ble_eq_true rfl, Nat.le_of_ble_eq_true rfl⟩) hS (fun G5 H locs hw hP hD hS => ?_)
    refine lv_aload_n hx hb dX8_setRate_23 rfl (lv_at hl 0 rfl) ?_
    refine gf_X8_0 hx hb hE hP hown rfl (hE.w qw_318 rfl _) dX8_setRate_24 ?_
    refine lv_iload_n hx hb dX8_setRate_27 rfl (lv_at hl 1 rfl) ?_
    refine lv_iload_n hx hb dX8_setRate_28 rfl (lv_at hl 2 rfl) ?_
    refine call_i (run_V (cc := cX8_setRate) (As := [.int a1, .int a2]) (rest := []) hx hb hml hown hE hz (okX3_changeRate X l hfl rfl hw) qw_1127 qw_1128 qw_1129 qw_75 qw_1130 (myX3_changeRate) ⟨Nat.le_of_ble_eq_true rfl, Nat.le_of_ble_eq_true rfl⟩ (rv_X3 hE hP rfl) hP hD hS rfl hl.1 rfl (Nat.le_of_ble_eq_true rfl) dX8_setRate_29 ⟨Nat.le_of_ble_eq_true rfl, Nat.le_of_ble_eq_true rfl⟩) hS (fun r7 G6 H locs hw hP hD hS => ?_)
    refine vx_ret ?_
    exact end_i hx hb hr hlk rfl hw hP hD hS dX8_setRate_32
def wpX8_setStickiness (post : Int32 → GS → Prop) (xpost : String → GS → Prop) (a1 : Int32) (a2 : Int32) (G : GS) : Prop :=
  wpX3_refusalToStick (fun (r2 : Nat) (G1 : GS) =>
  r2 < 5 ∧
    wpX8_demand (fun (G4 : GS) =>
    wpX2_remember (fun (G5 : GS) =>
      wpX3_changeStickiness (fun (r7 : Int32) (G6 : GS) =>
        post r7 G6) 0 a1 a2 G5) 0 G4) xpost r2 G1) 0 a1 a2 G
set_option maxHeartbeats 4000000 in
set_option maxRecDepth 100000 in
theorem okX8_setStickiness (X : Cx) (l : Launch) (hfl : l.stackTraces = false) {post : Int32 → GS → Prop} {xpost : String → GS → Prop} {a1 : Int32} {a2 : Int32} {G : GS}  (hw : wpX8_setStickiness post xpost a1 a2 G) : CX X l yX8_setStickiness cX8_setStickiness 3 (some FieldType.int) 7 1 6 [.ref (xa X 165), .int a1, .int a2] G (Qi X post) xpost := by
  refine xbegin (by decide) (Nat.le_of_ble_eq_true rfl) (fun p e s m below meth c hx hb hr hml hlk hown hno hE hz ls hl hP hD hS => ?_)
  have hl : lv_has ls 3 [(0, .ref (xa X 165)), (1, .int a1), (2, .int a2)] := hl
  have hown : s.vm.findClass "FlyTreasury" = some m.cls := hown
  unfold wpX8_setStickiness at hw
  refine lv_aload_n hx hb dX8_setStickiness_0 rfl (lv_at hl 0 rfl) ?_
  refine gf_X8_0 hx hb hE hP hown rfl (hE.w qw_318 rfl _) dX8_setStickiness_1 ?_
  refine lv_iload_n hx hb dX8_setStickiness_4 rfl (lv_at hl 1 rfl) ?_
  refine lv_iload_n hx hb dX8_setStickiness_5 rfl (lv_at hl 2 rfl) ?_
  refine call_r (run_V (cc := cX8_setStickiness) (As := [.int a1, .int a2]) (rest := []) hx hb hml hown hE hz (okX3_refusalToStick X l hfl rfl hw) qw_1138 qw_1139 qw_1140 qw_75 qw_1141 (myX3_refusalToStick) ⟨Nat.le_of_ble_eq_true rfl, Nat.le_of_ble_eq_true rfl⟩ (rv_X3 hE hP rfl) hP hD hS rfl hl.1 rfl (Nat.le_of_ble_eq_true rfl) dX8_setStickiness_6 ⟨Nat.le_of_ble_eq_true rfl, Nat.le_of_ble_eq_true rfl⟩) hS (fun r2 G1 H locs hw hP hD hS => ?_)
  obtain ⟨y3, hw⟩ := hw
  refine xcall_v (xrun_S (cc := cX8_setStickiness) (As := [.ref (xk X 0 r2)]) (rest := []) hx hb hml hown hE hz (okX8_demand X l hfl y3 hw) qw_873 qw_874 qw_74 qw_875 (myX8_demand).2 ⟨Nat.le_of_ble_eq_true rfl, Nat.le_of_ble_eq_true rfl⟩ hP hD hS rfl hl.1 rfl (Nat.le_of_ble_eq_true rfl) dX8_setStickiness_9 ⟨Nat.le_of_ble_eq_true rfl, Nat.le_of_ble_eq_true rfl⟩) hS (fun E ce q9 G9 H locs hw hP hD hS hce hcv hcl => ?_) (fun G4 H locs hw hP hD hS => ?_)
  · exact xout hno hlk hce hcv hcl hw hP hD hS (Nat.le_of_ble_eq_true rfl) (Nat.le_of_ble_eq_true rfl)
  · refine lv_aload_n hx hb dX8_setStickiness_12 rfl (lv_at hl 0 rfl) ?_
    refine gf_X8_3 hx hb hE hP hown rfl (hE.w qw_321 rfl _) dX8_setStickiness_13 ?_
    refine lv_aload_n hx hb dX8_setStickiness_16 rfl (lv_at hl 0 rfl) ?_
    refine gf_X8_0 hx hb hE hP hown rfl (hE.w qw_318 rfl _) dX8_setStickiness_17 ?_
    refine call_v (run_V (cc := cX8_setStickiness) (As := [.ref (xa X 0)]) (rest := []) hx hb hml hown hE hz (okX2_remember X l hfl rfl hw) qw_932 qw_933 qw_934 qw_77 qw_935 (myX2_remember) ⟨Nat.le_of_ble_eq_true rfl, Nat.le_of_ble_eq_true rfl⟩ (rv_X2 hE hP rfl) hP hD hS rfl hl.1 rfl (Nat.le_of_ble_eq_true rfl) dX8_setStickiness_20 ⟨Nat.le_of_ble_eq_true rfl, Nat.le_of_ble_eq_true rfl⟩) hS (fun G5 H locs hw hP hD hS => ?_)
    refine lv_aload_n hx hb dX8_setStickiness_23 rfl (lv_at hl 0 rfl) ?_
    refine gf_X8_0 hx hb hE hP hown rfl (hE.w qw_318 rfl _) dX8_setStickiness_24 ?_
    refine lv_iload_n hx hb dX8_setStickiness_27 rfl (lv_at hl 1 rfl) ?_
    refine lv_iload_n hx hb dX8_setStickiness_28 rfl (lv_at hl 2 rfl) ?_
    refine call_i (run_V (cc := cX8_setStickiness) (As := [.int a1, .int a2]) (rest := []) hx hb hml hown hE hz (okX3_changeStickiness X l hfl rfl hw) qw_1142 qw_1143 qw_1144 qw_75 qw_1145 (myX3_changeStickiness) ⟨Nat.le_of_ble_eq_true rfl, Nat.le_of_ble_eq_true rfl⟩ (rv_X3 hE hP rfl) hP hD hS rfl hl.1 rfl (Nat.le_of_ble_eq_true rfl) dX8_setStickiness_29 ⟨Nat.le_of_ble_eq_true rfl, Nat.le_of_ble_eq_true rfl⟩) hS (fun r7 G6 H locs hw hP hD hS => ?_)
    refine vx_ret ?_
    exact end_i hx hb hr hlk rfl hw hP hD hS dX8_setStickiness_32
def wpX8_passDays (post : Int32 → GS → Prop) (xpost : String → GS → Prop) (a1 : Int32) (G : GS) : Prop :=
  wpX3_refusalToWait (fun (r2 : Nat) (G1 : GS) =>
  r2 < 5 ∧
    wpX8_demand (fun (G4 : GS) =>
    wpX2_remember (fun (G5 : GS) =>
      wpX3_letPass (fun (r7 : Int32) (G6 : GS) =>
        post r7 G6) 0 a1 G5) 0 G4) xpost r2 G1) 0 a1 G
set_option maxHeartbeats 4000000 in
set_option maxRecDepth 100000 in
theorem okX8_passDays (X : Cx) (l : Launch) (hfl : l.stackTraces = false) {post : Int32 → GS → Prop} {xpost : String → GS → Prop} {a1 : Int32} {G : GS}  (hw : wpX8_passDays post xpost a1 G) : CX X l yX8_passDays cX8_passDays 2 (some FieldType.int) 7 1 6 [.ref (xa X 165), .int a1] G (Qi X post) xpost := by
  refine xbegin (by decide) (Nat.le_of_ble_eq_true rfl) (fun p e s m below meth c hx hb hr hml hlk hown hno hE hz ls hl hP hD hS => ?_)
  have hl : lv_has ls 2 [(0, .ref (xa X 165)), (1, .int a1)] := hl
  have hown : s.vm.findClass "FlyTreasury" = some m.cls := hown
  unfold wpX8_passDays at hw
  refine lv_aload_n hx hb dX8_passDays_0 rfl (lv_at hl 0 rfl) ?_
  refine gf_X8_0 hx hb hE hP hown rfl (hE.w qw_318 rfl _) dX8_passDays_1 ?_
  refine lv_iload_n hx hb dX8_passDays_4 rfl (lv_at hl 1 rfl) ?_
  refine call_r (run_V (cc := cX8_passDays) (As := [.int a1]) (rest := []) hx hb hml hown hE hz (okX3_refusalToWait X l hfl rfl hw) qw_1153 qw_1154 qw_1155 qw_75 qw_1156 (myX3_refusalToWait) ⟨Nat.le_of_ble_eq_true rfl, Nat.le_of_ble_eq_true rfl⟩ (rv_X3 hE hP rfl) hP hD hS rfl hl.1 rfl (Nat.le_of_ble_eq_true rfl) dX8_passDays_5 ⟨Nat.le_of_ble_eq_true rfl, Nat.le_of_ble_eq_true rfl⟩) hS (fun r2 G1 H locs hw hP hD hS => ?_)
  obtain ⟨y3, hw⟩ := hw
  refine xcall_v (xrun_S (cc := cX8_passDays) (As := [.ref (xk X 0 r2)]) (rest := []) hx hb hml hown hE hz (okX8_demand X l hfl y3 hw) qw_873 qw_874 qw_74 qw_875 (myX8_demand).2 ⟨Nat.le_of_ble_eq_true rfl, Nat.le_of_ble_eq_true rfl⟩ hP hD hS rfl hl.1 rfl (Nat.le_of_ble_eq_true rfl) dX8_passDays_8 ⟨Nat.le_of_ble_eq_true rfl, Nat.le_of_ble_eq_true rfl⟩) hS (fun E ce q9 G9 H locs hw hP hD hS hce hcv hcl => ?_) (fun G4 H locs hw hP hD hS => ?_)
  · exact xout hno hlk hce hcv hcl hw hP hD hS (Nat.le_of_ble_eq_true rfl) (Nat.le_of_ble_eq_true rfl)
  · refine lv_aload_n hx hb dX8_passDays_11 rfl (lv_at hl 0 rfl) ?_
    refine gf_X8_3 hx hb hE hP hown rfl (hE.w qw_321 rfl _) dX8_passDays_12 ?_
    refine lv_aload_n hx hb dX8_passDays_15 rfl (lv_at hl 0 rfl) ?_
    refine gf_X8_0 hx hb hE hP hown rfl (hE.w qw_318 rfl _) dX8_passDays_16 ?_
    refine call_v (run_V (cc := cX8_passDays) (As := [.ref (xa X 0)]) (rest := []) hx hb hml hown hE hz (okX2_remember X l hfl rfl hw) qw_932 qw_933 qw_934 qw_77 qw_935 (myX2_remember) ⟨Nat.le_of_ble_eq_true rfl, Nat.le_of_ble_eq_true rfl⟩ (rv_X2 hE hP rfl) hP hD hS rfl hl.1 rfl (Nat.le_of_ble_eq_true rfl) dX8_passDays_19 ⟨Nat.le_of_ble_eq_true rfl, Nat.le_of_ble_eq_true rfl⟩) hS (fun G5 H locs hw hP hD hS => ?_)
    refine lv_aload_n hx hb dX8_passDays_22 rfl (lv_at hl 0 rfl) ?_
    refine gf_X8_0 hx hb hE hP hown rfl (hE.w qw_318 rfl _) dX8_passDays_23 ?_
    refine lv_iload_n hx hb dX8_passDays_26 rfl (lv_at hl 1 rfl) ?_
    refine call_i (run_V (cc := cX8_passDays) (As := [.int a1]) (rest := []) hx hb hml hown hE hz (okX3_letPass X l hfl rfl hw) qw_1157 qw_1158 qw_1159 qw_75 qw_1160 (myX3_letPass) ⟨Nat.le_of_ble_eq_true rfl, Nat.le_of_ble_eq_true rfl⟩ (rv_X3 hE hP rfl) hP hD hS rfl hl.1 rfl (Nat.le_of_ble_eq_true rfl) dX8_passDays_27 ⟨Nat.le_of_ble_eq_true rfl, Nat.le_of_ble_eq_true rfl⟩) hS (fun r7 G6 H locs hw hP hD hS => ?_)
    refine vx_ret ?_
    exact end_i hx hb hr hlk rfl hw hP hD hS dX8_passDays_30
def wpX8_vaultCount (post : Int32 → GS → Prop) (G : GS) : Prop :=
  post (G.1 0 4) G
set_option maxHeartbeats 4000000 in
set_option maxRecDepth 100000 in
theorem okX8_vaultCount (X : Cx) (l : Launch) (hfl : l.stackTraces = false) {post : Int32 → GS → Prop}  {G : GS}  (hw : wpX8_vaultCount post G) : CT X l yX8_vaultCount cX8_vaultCount 1 (some FieldType.int) 1 0 0 [.ref (xa X 165)] G (Qi X post) := by
  refine mbegin (by decide) (Nat.le_of_ble_eq_true rfl) (fun p e s m below meth c hx hb hr hml hlk hown hE hz ls hl hP hD hS => ?_)
  have hl : lv_has ls 1 [(0, .ref (xa X 165))] := hl
  have hown : s.vm.findClass "FlyTreasury" = some m.cls := hown
  unfold wpX8_vaultCount at hw
  refine lv_aload_n hx hb dX8_vaultCount_0 rfl (lv_at hl 0 rfl) ?_
  refine gf_X8_0 hx hb hE hP hown rfl (hE.w qw_318 rfl _) dX8_vaultCount_1 ?_
  refine gn_X3_4 hx hb hE hP hown rfl (hE.w qw_167 rfl _) dX8_vaultCount_4 ?_
  exact end_i hx hb hr hlk rfl hw hP hD hS dX8_vaultCount_7
def wpX8_vaultAt (post : Nat → GS → Prop) (xpost : String → GS → Prop) (a1 : Int32) (G : GS) : Prop :=
  wpX3_hasVault (fun (r2 : Int32) (G1 : GS) =>
  if r2 = 0 then
    xpost "java/lang/IndexOutOfBoundsException" G1
  else
    vp_in a1 5 ∧
      post (0 + 1 + 4 + a1.toNatClampNeg) G1) 0 a1 G
set_option maxHeartbeats 4000000 in
set_option maxRecDepth 100000 in
theorem okX8_vaultAt (X : Cx) (l : Launch) (hfl : l.stackTraces = false) {post : Nat → GS → Prop} {xpost : String → GS → Prop} {a1 : Int32} {G : GS}  (hw : wpX8_vaultAt post xpost a1 G) : CX X l yX8_vaultAt cX8_vaultAt 2 (some (FieldType.object "FlyTreasury$Vault")) 6 1 6 [.ref (xa X 165), .int a1] G (Qr X (xa X) post) xpost := by
  refine xbegin (by decide) (Nat.le_of_ble_eq_true rfl) (fun p e s m below meth c hx hb hr hml hlk hown hno hE hz ls hl hP hD hS => ?_)
  have hl : lv_has ls 2 [(0, .ref (xa X 165)), (1, .int a1)] := hl
  have hown : s.vm.findClass "FlyTreasury" = some m.cls := hown
  unfold wpX8_vaultAt at hw
  refine lv_aload_n hx hb dX8_vaultAt_0 rfl (lv_at hl 0 rfl) ?_
  refine gf_X8_0 hx hb hE hP hown rfl (hE.w qw_318 rfl _) dX8_vaultAt_1 ?_
  refine lv_iload_n hx hb dX8_vaultAt_4 rfl (lv_at hl 1 rfl) ?_
  refine call_i (run_V (cc := cX8_vaultAt) (As := [.int a1]) (rest := []) hx hb hml hown hE hz (okX3_hasVault X l hfl rfl hw) qw_1184 qw_957 qw_958 qw_75 qw_959 (myX3_hasVault) ⟨Nat.le_of_ble_eq_true rfl, Nat.le_of_ble_eq_true rfl⟩ (rv_X3 hE hP rfl) hP hD hS rfl hl.1 rfl (Nat.le_of_ble_eq_true rfl) dX8_vaultAt_5 ⟨Nat.le_of_ble_eq_true rfl, Nat.le_of_ble_eq_true rfl⟩) hS (fun r2 G1 H locs hw hP hD hS => ?_)
  refine lv_if_ne (tgt := 22) hx hb dX8_vaultAt_8 (by decide) (fun c3 => ?_) (fun c3 => ?_)
  · replace hw := ite_f hw c3
    refine lv_aload_n hx hb dX8_vaultAt_22 rfl (lv_at hl 0 rfl) ?_
    refine gf_X8_0 hx hb hE hP hown rfl (hE.w qw_318 rfl _) dX8_vaultAt_23 ?_
    refine gn_X3_0 hx hb hE hP hown rfl (hE.w qw_161 rfl _) dX8_vaultAt_26 ?_
    refine lv_iload_n hx hb dX8_vaultAt_29 rfl (lv_at hl 1 rfl) ?_
    obtain ⟨y4, hw⟩ := hw
    refine ald_1 hx hb hE hP (k0_1 rfl) y4 dX8_vaultAt_30 ?_
    refine W.widen (k := 1) (n := 6) (Nat.le_of_ble_eq_true rfl) (Nat.le_of_ble_eq_true rfl) ?_
    refine vx_ret ?_
    exact end_r hx hb hr hlk (Or.inl ⟨_, rfl⟩) hw hP hD hS dX8_vaultAt_31
  · replace hw := ite_t hw c3
    exact thrW_IO hx hb hfl hown hE hP hD hS hl.1 hml (sr_1 hE) (hE.w qw_884 rfl _) (hE.w qw_92 rfl _) dX8_vaultAt_11 dX8_vaultAt_14 dX8_vaultAt_15 dX8_vaultAt_18 dX8_vaultAt_21 hno (by decide) (by decide) (Nat.le_of_ble_eq_true rfl) (Nat.le_of_ble_eq_true rfl) hlk hw (Nat.le_of_ble_eq_true rfl) (Nat.le_of_ble_eq_true rfl)
def wpX8_kindNumber (post : Int32 → GS → Prop) (xpost : String → GS → Prop) (a1 : Int32) (G : GS) : Prop :=
  wpJ0_indexOf_0f7a4 (fun (r2 : Int32) (G1 : GS) =>
  if 0 ≤ r2 then
    post r2 G1
  else
    xpost "java/lang/IllegalArgumentException" G1) 0 a1 G
set_option maxHeartbeats 4000000 in
set_option maxRecDepth 100000 in
theorem okX8_kindNumber (X : Cx) (l : Launch) (hfl : l.stackTraces = false) {post : Int32 → GS → Prop} {xpost : String → GS → Prop} {a1 : Int32} {G : GS}  (hw : wpX8_kindNumber post xpost a1 G) : CX X l yX8_kindNumber cX8_kindNumber 2 (some FieldType.int) 6 1 6 [.int a1] G (Qi X post) xpost := by
  refine xbegin (by decide) (Nat.le_of_ble_eq_true rfl) (fun p e s m below meth c hx hb hr hml hlk hown hno hE hz ls hl hP hD hS => ?_)
  have hl : lv_has ls 2 [(0, .int a1)] := hl
  have hown : s.vm.findClass "FlyTreasury" = some m.cls := hown
  unfold wpX8_kindNumber at hw
  refine va_ldcS hx hb hown (sr_0 hE) dX8_kindNumber_0 ?_
  refine lv_iload_n hx hb dX8_kindNumber_2 rfl (lv_at hl 0 rfl) ?_
  refine call_i (run_V (cc := cX8_kindNumber) (As := [.int a1]) (rest := []) hx hb hml hown hE hz (okJ0_indexOf_0f7a4 X l hfl (by decide) hw) qw_1188 qw_964 qw_965 qw_84 qw_966 (myJ0_indexOf_0f7a4) ⟨Nat.le_of_ble_eq_true rfl, Nat.le_of_ble_eq_true rfl⟩ (vk_recv hE.S (by decide) hS) hP hD hS rfl hl.1 rfl (Nat.le_of_ble_eq_true rfl) dX8_kindNumber_3 ⟨Nat.le_of_ble_eq_true rfl, Nat.le_of_ble_eq_true rfl⟩) hS (fun r2 G1 H locs hw hP hD hS => ?_)
  refine lv_istore_n (lv' := [(1, .int r2), (0, .int a1)]) hx hb dX8_kindNumber_6 rfl hl (by decide) rfl (fun ls hl => ?_)
  refine lv_iload_n hx hb dX8_kindNumber_7 rfl (lv_at hl 0 rfl) ?_
  refine lv_if_ge (tgt := 22) hx hb dX8_kindNumber_8 (by decide) (fun c3 => ?_) (fun c3 => ?_)
  · replace hw := ite_t hw c3
    refine lv_iload_n hx hb dX8_kindNumber_22 rfl (lv_at hl 0 rfl) ?_
    refine W.widen (k := 1) (n := 6) (Nat.le_of_ble_eq_true rfl) (Nat.le_of_ble_eq_true rfl) ?_
    refine vx_ret ?_
    exact end_i hx hb hr hlk rfl hw hP hD hS dX8_kindNumber_23
  · replace hw := ite_f hw c3
    exact thrW_IA hx hb hfl hown hE hP hD hS hl.1 hml (sr_6 hE) (hE.w qw_897 rfl _) (hE.w qw_93 rfl _) dX8_kindNumber_11 dX8_kindNumber_14 dX8_kindNumber_15 dX8_kindNumber_18 dX8_kindNumber_21 hno (by decide) (by decide) (Nat.le_of_ble_eq_true rfl) (Nat.le_of_ble_eq_true rfl) hlk hw (Nat.le_of_ble_eq_true rfl) (Nat.le_of_ble_eq_true rfl)
def wpX8_flies (post : Int32 → GS → Prop) (xpost : String → GS → Prop) (a1 : Int32) (a2 : Int32) (G : GS) : Prop :=
  wpX8_vaultAt (fun (r2 : Nat) (G1 : GS) =>
  kd r2 = 3 ∧
    wpX8_kindNumber (fun (r5 : Int32) (G4 : GS) =>
    vp_in r5 (ln (r2 + 5)) ∧
      post (G4.1 (r2 + 5) r5.toNatClampNeg) G4) xpost a2 G1) xpost a1 G
set_option maxHeartbeats 4000000 in
set_option maxRecDepth 100000 in
theorem okX8_flies (X : Cx) (l : Launch) (hfl : l.stackTraces = false) {post : Int32 → GS → Prop} {xpost : String → GS → Prop} {a1 : Int32} {a2 : Int32} {G : GS}  (hw : wpX8_flies post xpost a1 a2 G) : CX X l yX8_flies cX8_flies 4 (some FieldType.int) 7 2 12 [.ref (xa X 165), .int a1, .int a2] G (Qi X post) xpost := by
  refine xbegin (by decide) (Nat.le_of_ble_eq_true rfl) (fun p e s m below meth c hx hb hr hml hlk hown hno hE hz ls hl hP hD hS => ?_)
  have hl : lv_has ls 4 [(0, .ref (xa X 165)), (1, .int a1), (2, .int a2)] := hl
  have hown : s.vm.findClass "FlyTreasury" = some m.cls := hown
  unfold wpX8_flies at hw
  refine lv_aload_n hx hb dX8_flies_0 rfl (lv_at hl 0 rfl) ?_
  refine lv_iload_n hx hb dX8_flies_1 rfl (lv_at hl 1 rfl) ?_
  refine xcall_r (xrun_V (cc := cX8_flies) (As := [.int a1]) (rest := []) hx hb hml hown hE hz (okX8_vaultAt X l hfl  hw) qw_1180 qw_1182 qw_3 qw_74 qw_1183 (myX8_vaultAt) ⟨Nat.le_of_ble_eq_true rfl, Nat.le_of_ble_eq_true rfl⟩ (rv_X8 hE hP rfl) hP hD hS rfl hl.1 rfl (Nat.le_of_ble_eq_true rfl) dX8_flies_2 ⟨Nat.le_of_ble_eq_true rfl, Nat.le_of_ble_eq_true rfl⟩) hS (fun E ce q9 G9 H locs hw hP hD hS hce hcv hcl => ?_) (fun r2 G1 H locs hw hP hD hS => ?_)
  · exact xout hno hlk hce hcv hcl hw hP hD hS (Nat.le_of_ble_eq_true rfl) (Nat.le_of_ble_eq_true rfl)
  · obtain ⟨y3, hw⟩ := hw
    refine lv_astore_n (lv' := [(3, .ref (xa X r2)), (0, .ref (xa X 165)), (1, .int a1), (2, .int a2)]) hx hb dX8_flies_5 rfl hl (by decide) rfl (fun ls hl => ?_)
    refine lv_aload_n hx hb dX8_flies_6 rfl (lv_at hl 0 rfl) ?_
    refine gn_X7_0 hx hb hE hP hown y3 (hE.w qw_132 rfl _) dX8_flies_7 ?_
    refine lv_iload_n hx hb dX8_flies_10 rfl (lv_at hl 3 rfl) ?_
    refine xcall_i (xrun_S (cc := cX8_flies) (As := [.int a2]) (rest := [.ref (xa X (r2 + 5))]) hx hb hml hown hE hz (okX8_kindNumber X l hfl  hw) qw_1185 qw_1186 qw_74 qw_1187 (myX8_kindNumber).2 ⟨Nat.le_of_ble_eq_true rfl, Nat.le_of_ble_eq_true rfl⟩ hP hD hS rfl hl.1 rfl (Nat.le_of_ble_eq_true rfl) dX8_flies_11 ⟨Nat.le_of_ble_eq_true rfl, Nat.le_of_ble_eq_true rfl⟩) hS (fun E ce q9 G9 H locs hw hP hD hS hce hcv hcl => ?_) (fun r5 G4 H locs hw hP hD hS => ?_)
    · exact xout hno hlk hce hcv hcl hw hP hD hS (Nat.le_of_ble_eq_true rfl) (Nat.le_of_ble_eq_true rfl)
    · obtain ⟨y6, hw⟩ := hw
      refine ald_2 hx hb hE hP (k3_5 y3) y6 dX8_flies_14 ?_
      refine vx_ret ?_
      exact end_i hx hb hr hlk rfl hw hP hD hS dX8_flies_15
def wpX8_crumbs (post : Int32 → GS → Prop) (xpost : String → GS → Prop) (a1 : Int32) (G : GS) : Prop :=
  wpX8_vaultAt (fun (r2 : Nat) (G1 : GS) =>
  kd r2 = 3 ∧
    post (G1.1 r2 1) G1) xpost a1 G
set_option maxHeartbeats 4000000 in
set_option maxRecDepth 100000 in
theorem okX8_crumbs (X : Cx) (l : Launch) (hfl : l.stackTraces = false) {post : Int32 → GS → Prop} {xpost : String → GS → Prop} {a1 : Int32} {G : GS}  (hw : wpX8_crumbs post xpost a1 G) : CX X l yX8_crumbs cX8_crumbs 2 (some FieldType.int) 7 1 6 [.ref (xa X 165), .int a1] G (Qi X post) xpost := by
  refine xbegin (by decide) (Nat.le_of_ble_eq_true rfl) (fun p e s m below meth c hx hb hr hml hlk hown hno hE hz ls hl hP hD hS => ?_)
  have hl : lv_has ls 2 [(0, .ref (xa X 165)), (1, .int a1)] := hl
  have hown : s.vm.findClass "FlyTreasury" = some m.cls := hown
  unfold wpX8_crumbs at hw
  refine lv_aload_n hx hb dX8_crumbs_0 rfl (lv_at hl 0 rfl) ?_
  refine lv_iload_n hx hb dX8_crumbs_1 rfl (lv_at hl 1 rfl) ?_
  refine xcall_r (xrun_V (cc := cX8_crumbs) (As := [.int a1]) (rest := []) hx hb hml hown hE hz (okX8_vaultAt X l hfl  hw) qw_1180 qw_1182 qw_3 qw_74 qw_1183 (myX8_vaultAt) ⟨Nat.le_of_ble_eq_true rfl, Nat.le_of_ble_eq_true rfl⟩ (rv_X8 hE hP rfl) hP hD hS rfl hl.1 rfl (Nat.le_of_ble_eq_true rfl) dX8_crumbs_2 ⟨Nat.le_of_ble_eq_true rfl, Nat.le_of_ble_eq_true rfl⟩) hS (fun E ce q9 G9 H locs hw hP hD hS hce hcv hcl => ?_) (fun r2 G1 H locs hw hP hD hS => ?_)
  · exact xout hno hlk hce hcv hcl hw hP hD hS (Nat.le_of_ble_eq_true rfl) (Nat.le_of_ble_eq_true rfl)
  · obtain ⟨y3, hw⟩ := hw
    refine gn_X7_1 hx hb hE hP hown y3 (hE.w qw_135 rfl _) dX8_crumbs_5 ?_
    refine vx_ret ?_
    exact end_i hx hb hr hlk rfl hw hP hD hS dX8_crumbs_8
def wpX8_dew (post : Int32 → GS → Prop) (xpost : String → GS → Prop) (a1 : Int32) (G : GS) : Prop :=
  wpX8_vaultAt (fun (r2 : Nat) (G1 : GS) =>
  kd r2 = 3 ∧
    post (G1.1 r2 2) G1) xpost a1 G
set_option maxHeartbeats 4000000 in
set_option maxRecDepth 100000 in
theorem okX8_dew (X : Cx) (l : Launch) (hfl : l.stackTraces = false) {post : Int32 → GS → Prop} {xpost : String → GS → Prop} {a1 : Int32} {G : GS}  (hw : wpX8_dew post xpost a1 G) : CX X l yX8_dew cX8_dew 2 (some FieldType.int) 7 1 6 [.ref (xa X 165), .int a1] G (Qi X post) xpost := by
  refine xbegin (by decide) (Nat.le_of_ble_eq_true rfl) (fun p e s m below meth c hx hb hr hml hlk hown hno hE hz ls hl hP hD hS => ?_)
  have hl : lv_has ls 2 [(0, .ref (xa X 165)), (1, .int a1)] := hl
  have hown : s.vm.findClass "FlyTreasury" = some m.cls := hown
  unfold wpX8_dew at hw
  refine lv_aload_n hx hb dX8_dew_0 rfl (lv_at hl 0 rfl) ?_
  refine lv_iload_n hx hb dX8_dew_1 rfl (lv_at hl 1 rfl) ?_
  refine xcall_r (xrun_V (cc := cX8_dew) (As := [.int a1]) (rest := []) hx hb hml hown hE hz (okX8_vaultAt X l hfl  hw) qw_1180 qw_1182 qw_3 qw_74 qw_1183 (myX8_vaultAt) ⟨Nat.le_of_ble_eq_true rfl, Nat.le_of_ble_eq_true rfl⟩ (rv_X8 hE hP rfl) hP hD hS rfl hl.1 rfl (Nat.le_of_ble_eq_true rfl) dX8_dew_2 ⟨Nat.le_of_ble_eq_true rfl, Nat.le_of_ble_eq_true rfl⟩) hS (fun E ce q9 G9 H locs hw hP hD hS hce hcv hcl => ?_) (fun r2 G1 H locs hw hP hD hS => ?_)
  · exact xout hno hlk hce hcv hcl hw hP hD hS (Nat.le_of_ble_eq_true rfl) (Nat.le_of_ble_eq_true rfl)
  · obtain ⟨y3, hw⟩ := hw
    refine gn_X7_2 hx hb hE hP hown y3 (hE.w qw_138 rfl _) dX8_dew_5 ?_
    refine vx_ret ?_
    exact end_i hx hb hr hlk rfl hw hP hD hS dX8_dew_8
def wpX8_wings (post : Int32 → GS → Prop) (xpost : String → GS → Prop) (a1 : Int32) (G : GS) : Prop :=
  wpX8_vaultAt (fun (r2 : Nat) (G1 : GS) =>
  kd r2 = 3 ∧
    post (G1.1 r2 3) G1) xpost a1 G
set_option maxHeartbeats 4000000 in
set_option maxRecDepth 100000 in
theorem okX8_wings (X : Cx) (l : Launch) (hfl : l.stackTraces = false) {post : Int32 → GS → Prop} {xpost : String → GS → Prop} {a1 : Int32} {G : GS}  (hw : wpX8_wings post xpost a1 G) : CX X l yX8_wings cX8_wings 2 (some FieldType.int) 7 1 6 [.ref (xa X 165), .int a1] G (Qi X post) xpost := by
  refine xbegin (by decide) (Nat.le_of_ble_eq_true rfl) (fun p e s m below meth c hx hb hr hml hlk hown hno hE hz ls hl hP hD hS => ?_)
  have hl : lv_has ls 2 [(0, .ref (xa X 165)), (1, .int a1)] := hl
  have hown : s.vm.findClass "FlyTreasury" = some m.cls := hown
  unfold wpX8_wings at hw
  refine lv_aload_n hx hb dX8_wings_0 rfl (lv_at hl 0 rfl) ?_
  refine lv_iload_n hx hb dX8_wings_1 rfl (lv_at hl 1 rfl) ?_
  refine xcall_r (xrun_V (cc := cX8_wings) (As := [.int a1]) (rest := []) hx hb hml hown hE hz (okX8_vaultAt X l hfl  hw) qw_1180 qw_1182 qw_3 qw_74 qw_1183 (myX8_vaultAt) ⟨Nat.le_of_ble_eq_true rfl, Nat.le_of_ble_eq_true rfl⟩ (rv_X8 hE hP rfl) hP hD hS rfl hl.1 rfl (Nat.le_of_ble_eq_true rfl) dX8_wings_2 ⟨Nat.le_of_ble_eq_true rfl, Nat.le_of_ble_eq_true rfl⟩) hS (fun E ce q9 G9 H locs hw hP hD hS hce hcv hcl => ?_) (fun r2 G1 H locs hw hP hD hS => ?_)
  · exact xout hno hlk hce hcv hcl hw hP hD hS (Nat.le_of_ble_eq_true rfl) (Nat.le_of_ble_eq_true rfl)
  · obtain ⟨y3, hw⟩ := hw
    refine gn_X7_3 hx hb hE hP hown y3 (hE.w qw_140 rfl _) dX8_wings_5 ?_
    refine vx_ret ?_
    exact end_i hx hb hr hlk rfl hw hP hD hS dX8_wings_8
def wpX8_stickiness (post : Int32 → GS → Prop) (xpost : String → GS → Prop) (a1 : Int32) (G : GS) : Prop :=
  wpX8_vaultAt (fun (r2 : Nat) (G1 : GS) =>
  kd r2 = 3 ∧
    post (G1.1 r2 4) G1) xpost a1 G
set_option maxHeartbeats 4000000 in
set_option maxRecDepth 100000 in
theorem okX8_stickiness (X : Cx) (l : Launch) (hfl : l.stackTraces = false) {post : Int32 → GS → Prop} {xpost : String → GS → Prop} {a1 : Int32} {G : GS}  (hw : wpX8_stickiness post xpost a1 G) : CX X l yX8_stickiness cX8_stickiness 2 (some FieldType.int) 7 1 6 [.ref (xa X 165), .int a1] G (Qi X post) xpost := by
  refine xbegin (by decide) (Nat.le_of_ble_eq_true rfl) (fun p e s m below meth c hx hb hr hml hlk hown hno hE hz ls hl hP hD hS => ?_)
  have hl : lv_has ls 2 [(0, .ref (xa X 165)), (1, .int a1)] := hl
  have hown : s.vm.findClass "FlyTreasury" = some m.cls := hown
  unfold wpX8_stickiness at hw
  refine lv_aload_n hx hb dX8_stickiness_0 rfl (lv_at hl 0 rfl) ?_
  refine lv_iload_n hx hb dX8_stickiness_1 rfl (lv_at hl 1 rfl) ?_
  refine xcall_r (xrun_V (cc := cX8_stickiness) (As := [.int a1]) (rest := []) hx hb hml hown hE hz (okX8_vaultAt X l hfl  hw) qw_1180 qw_1182 qw_3 qw_74 qw_1183 (myX8_vaultAt) ⟨Nat.le_of_ble_eq_true rfl, Nat.le_of_ble_eq_true rfl⟩ (rv_X8 hE hP rfl) hP hD hS rfl hl.1 rfl (Nat.le_of_ble_eq_true rfl) dX8_stickiness_2 ⟨Nat.le_of_ble_eq_true rfl, Nat.le_of_ble_eq_true rfl⟩) hS (fun E ce q9 G9 H locs hw hP hD hS hce hcv hcl => ?_) (fun r2 G1 H locs hw hP hD hS => ?_)
  · exact xout hno hlk hce hcv hcl hw hP hD hS (Nat.le_of_ble_eq_true rfl) (Nat.le_of_ble_eq_true rfl)
  · obtain ⟨y3, hw⟩ := hw
    refine gn_X7_4 hx hb hE hP hown y3 (hE.w qw_143 rfl _) dX8_stickiness_5 ?_
    refine vx_ret ?_
    exact end_i hx hb hr hlk rfl hw hP hD hS dX8_stickiness_8
def wpX8_isFrozen (post : Int32 → GS → Prop) (xpost : String → GS → Prop) (a1 : Int32) (G : GS) : Prop :=
  wpX8_vaultAt (fun (r2 : Nat) (G1 : GS) =>
  kd r2 = 3 ∧
    wpX7_frozen (fun (r5 : Int32) (G4 : GS) =>
    narrow .boolean (.int r5) = .int r5 ∧ post r5 G4) r2 G1) xpost a1 G
set_option maxHeartbeats 4000000 in
set_option maxRecDepth 100000 in
theorem okX8_isFrozen (X : Cx) (l : Launch) (hfl : l.stackTraces = false) {post : Int32 → GS → Prop} {xpost : String → GS → Prop} {a1 : Int32} {G : GS}  (hw : wpX8_isFrozen post xpost a1 G) : CX X l yX8_isFrozen cX8_isFrozen 2 (some FieldType.boolean) 7 1 6 [.ref (xa X 165), .int a1] G (Qi X post) xpost := by
  refine xbegin (by decide) (Nat.le_of_ble_eq_true rfl) (fun p e s m below meth c hx hb hr hml hlk hown hno hE hz ls hl hP hD hS => ?_)
  have hl : lv_has ls 2 [(0, .ref (xa X 165)), (1, .int a1)] := hl
  have hown : s.vm.findClass "FlyTreasury" = some m.cls := hown
  unfold wpX8_isFrozen at hw
  refine lv_aload_n hx hb dX8_isFrozen_0 rfl (lv_at hl 0 rfl) ?_
  refine lv_iload_n hx hb dX8_isFrozen_1 rfl (lv_at hl 1 rfl) ?_
  refine xcall_r (xrun_V (cc := cX8_isFrozen) (As := [.int a1]) (rest := []) hx hb hml hown hE hz (okX8_vaultAt X l hfl  hw) qw_1180 qw_1182 qw_3 qw_74 qw_1183 (myX8_vaultAt) ⟨Nat.le_of_ble_eq_true rfl, Nat.le_of_ble_eq_true rfl⟩ (rv_X8 hE hP rfl) hP hD hS rfl hl.1 rfl (Nat.le_of_ble_eq_true rfl) dX8_isFrozen_2 ⟨Nat.le_of_ble_eq_true rfl, Nat.le_of_ble_eq_true rfl⟩) hS (fun E ce q9 G9 H locs hw hP hD hS hce hcv hcl => ?_) (fun r2 G1 H locs hw hP hD hS => ?_)
  · exact xout hno hlk hce hcv hcl hw hP hD hS (Nat.le_of_ble_eq_true rfl) (Nat.le_of_ble_eq_true rfl)
  · obtain ⟨y3, hw⟩ := hw
    refine call_i (run_V (cc := cX8_isFrozen) (As := []) (rest := []) hx hb hml hown hE hz (okX7_frozen X l hfl y3 hw) qw_1225 qw_1026 qw_1027 qw_76 qw_1028 (myX7_frozen) ⟨Nat.le_of_ble_eq_true rfl, Nat.le_of_ble_eq_true rfl⟩ (rv_X7 hE hP y3) hP hD hS rfl hl.1 rfl (Nat.le_of_ble_eq_true rfl) dX8_isFrozen_5 ⟨Nat.le_of_ble_eq_true rfl, Nat.le_of_ble_eq_true rfl⟩) hS (fun r5 G4 H locs hw hP hD hS => ?_)
    refine vx_ret ?_
    obtain ⟨y6, hw⟩ := hw
    exact end_i hx hb hr hlk y6 hw hP hD hS dX8_isFrozen_8
def wpX8_daysUntilThaw (post : Int32 → GS → Prop) (xpost : String → GS → Prop) (a1 : Int32) (G : GS) : Prop :=
  wpX8_vaultAt (fun (r2 : Nat) (G1 : GS) =>
  kd r2 = 3 ∧
    wpX7_frozen (fun (r5 : Int32) (G4 : GS) =>
    if r5 = 0 then
      xpost "java/util/NoSuchElementException" G4
    else
      post (G4.1 r2 5) G4) r2 G1) xpost a1 G
set_option maxHeartbeats 4000000 in
set_option maxRecDepth 100000 in
theorem okX8_daysUntilThaw (X : Cx) (l : Launch) (hfl : l.stackTraces = false) {post : Int32 → GS → Prop} {xpost : String → GS → Prop} {a1 : Int32} {G : GS}  (hw : wpX8_daysUntilThaw post xpost a1 G) : CX X l yX8_daysUntilThaw cX8_daysUntilThaw 3 (some FieldType.int) 7 2 12 [.ref (xa X 165), .int a1] G (Qi X post) xpost := by
  refine xbegin (by decide) (Nat.le_of_ble_eq_true rfl) (fun p e s m below meth c hx hb hr hml hlk hown hno hE hz ls hl hP hD hS => ?_)
  have hl : lv_has ls 3 [(0, .ref (xa X 165)), (1, .int a1)] := hl
  have hown : s.vm.findClass "FlyTreasury" = some m.cls := hown
  unfold wpX8_daysUntilThaw at hw
  refine lv_aload_n hx hb dX8_daysUntilThaw_0 rfl (lv_at hl 0 rfl) ?_
  refine lv_iload_n hx hb dX8_daysUntilThaw_1 rfl (lv_at hl 1 rfl) ?_
  refine xcall_r (xrun_V (cc := cX8_daysUntilThaw) (As := [.int a1]) (rest := []) hx hb hml hown hE hz (okX8_vaultAt X l hfl  hw) qw_1180 qw_1182 qw_3 qw_74 qw_1183 (myX8_vaultAt) ⟨Nat.le_of_ble_eq_true rfl, Nat.le_of_ble_eq_true rfl⟩ (rv_X8 hE hP rfl) hP hD hS rfl hl.1 rfl (Nat.le_of_ble_eq_true rfl) dX8_daysUntilThaw_2 ⟨Nat.le_of_ble_eq_true rfl, Nat.le_of_ble_eq_true rfl⟩) hS (fun E ce q9 G9 H locs hw hP hD hS hce hcv hcl => ?_) (fun r2 G1 H locs hw hP hD hS => ?_)
  · exact xout hno hlk hce hcv hcl hw hP hD hS (Nat.le_of_ble_eq_true rfl) (Nat.le_of_ble_eq_true rfl)
  · obtain ⟨y3, hw⟩ := hw
    refine lv_astore_n (lv' := [(2, .ref (xa X r2)), (0, .ref (xa X 165)), (1, .int a1)]) hx hb dX8_daysUntilThaw_5 rfl hl (by decide) rfl (fun ls hl => ?_)
    refine lv_aload_n hx hb dX8_daysUntilThaw_6 rfl (lv_at hl 0 rfl) ?_
    refine call_i (run_V (cc := cX8_daysUntilThaw) (As := []) (rest := []) hx hb hml hown hE hz (okX7_frozen X l hfl y3 hw) qw_1225 qw_1026 qw_1027 qw_76 qw_1028 (myX7_frozen) ⟨Nat.le_of_ble_eq_true rfl, Nat.le_of_ble_eq_true rfl⟩ (rv_X7 hE hP y3) hP hD hS rfl hl.1 rfl (Nat.le_of_ble_eq_true rfl) dX8_daysUntilThaw_7 ⟨Nat.le_of_ble_eq_true rfl, Nat.le_of_ble_eq_true rfl⟩) hS (fun r5 G4 H locs hw hP hD hS => ?_)
    refine lv_if_ne (tgt := 23) hx hb dX8_daysUntilThaw_10 (by decide) (fun c6 => ?_) (fun c6 => ?_)
    · replace hw := ite_f hw c6
      refine lv_aload_n hx hb dX8_daysUntilThaw_23 rfl (lv_at hl 0 rfl) ?_
      refine gn_X7_5 hx hb hE hP hown y3 (hE.w qw_145 rfl _) dX8_daysUntilThaw_24 ?_
      refine W.widen (k := 2) (n := 12) (Nat.le_of_ble_eq_true rfl) (Nat.le_of_ble_eq_true rfl) ?_
      refine vx_ret ?_
      exact end_i hx hb hr hlk rfl hw hP hD hS dX8_daysUntilThaw_27
    · replace hw := ite_t hw c6
      exact thr_NS hx hb hfl hown hE hP hD hS hl.1 hml (sr_7 hE) (hE.w qw_1234 rfl _) (hE.w qw_102 rfl _) dX8_daysUntilThaw_13 dX8_daysUntilThaw_16 dX8_daysUntilThaw_17 dX8_daysUntilThaw_19 dX8_daysUntilThaw_22 hno (by decide) (by decide) (Nat.le_of_ble_eq_true rfl) (Nat.le_of_ble_eq_true rfl) hlk hw (Nat.le_of_ble_eq_true rfl) (Nat.le_of_ble_eq_true rfl)
def wpX8_value (post : Int32 → GS → Prop) (xpost : String → GS → Prop) (a1 : Int32) (G : GS) : Prop :=
  wpX8_vaultAt (fun (r2 : Nat) (G1 : GS) =>
  kd r2 = 3 ∧
    wpX7_legsAt (fun (r5 : Int32) (G4 : GS) =>
    post r5 G4) r2 (0 + 2) G1) xpost a1 G
set_option maxHeartbeats 4000000 in
set_option maxRecDepth 100000 in
theorem okX8_value (X : Cx) (l : Launch) (hfl : l.stackTraces = false) {post : Int32 → GS → Prop} {xpost : String → GS → Prop} {a1 : Int32} {G : GS}  (hw : wpX8_value post xpost a1 G) : CX X l yX8_value cX8_value 2 (some FieldType.int) 7 1 6 [.ref (xa X 165), .int a1] G (Qi X post) xpost := by
  refine xbegin (by decide) (Nat.le_of_ble_eq_true rfl) (fun p e s m below meth c hx hb hr hml hlk hown hno hE hz ls hl hP hD hS => ?_)
  have hl : lv_has ls 2 [(0, .ref (xa X 165)), (1, .int a1)] := hl
  have hown : s.vm.findClass "FlyTreasury" = some m.cls := hown
  unfold wpX8_value at hw
  refine lv_aload_n hx hb dX8_value_0 rfl (lv_at hl 0 rfl) ?_
  refine lv_iload_n hx hb dX8_value_1 rfl (lv_at hl 1 rfl) ?_
  refine xcall_r (xrun_V (cc := cX8_value) (As := [.int a1]) (rest := []) hx hb hml hown hE hz (okX8_vaultAt X l hfl  hw) qw_1180 qw_1182 qw_3 qw_74 qw_1183 (myX8_vaultAt) ⟨Nat.le_of_ble_eq_true rfl, Nat.le_of_ble_eq_true rfl⟩ (rv_X8 hE hP rfl) hP hD hS rfl hl.1 rfl (Nat.le_of_ble_eq_true rfl) dX8_value_2 ⟨Nat.le_of_ble_eq_true rfl, Nat.le_of_ble_eq_true rfl⟩) hS (fun E ce q9 G9 H locs hw hP hD hS hce hcv hcl => ?_) (fun r2 G1 H locs hw hP hD hS => ?_)
  · exact xout hno hlk hce hcv hcl hw hP hD hS (Nat.le_of_ble_eq_true rfl) (Nat.le_of_ble_eq_true rfl)
  · obtain ⟨y3, hw⟩ := hw
    refine lv_aload_n hx hb dX8_value_5 rfl (lv_at hl 0 rfl) ?_
    refine gf_X8_0 hx hb hE hP hown rfl (hE.w qw_318 rfl _) dX8_value_6 ?_
    refine gn_X3_1 hx hb hE hP hown rfl (hE.w qw_163 rfl _) dX8_value_9 ?_
    refine call_i (run_V (cc := cX8_value) (As := [.ref (xa X (0 + 2))]) (rest := []) hx hb hml hown hE hz (okX7_legsAt X l hfl y3 (k0_2 rfl) hw) qw_1257 qw_359 qw_360 qw_76 qw_361 (myX7_legsAt) ⟨Nat.le_of_ble_eq_true rfl, Nat.le_of_ble_eq_true rfl⟩ (rv_X7 hE hP y3) hP hD hS rfl hl.1 rfl (Nat.le_of_ble_eq_true rfl) dX8_value_12 ⟨Nat.le_of_ble_eq_true rfl, Nat.le_of_ble_eq_true rfl⟩) hS (fun r5 G4 H locs hw hP hD hS => ?_)
    refine vx_ret ?_
    exact end_i hx hb hr hlk rfl hw hP hD hS dX8_value_15
def wpX8_reserve (post : Int32 → GS → Prop) (xpost : String → GS → Prop) (a1 : Int32) (G : GS) : Prop :=
  wpX8_vaultAt (fun (r2 : Nat) (G1 : GS) =>
  kd r2 = 3 ∧
    wpX7_legsAt (fun (r5 : Int32) (G4 : GS) =>
    wpX7_reserveOf (fun (r7 : Int32) (G6 : GS) =>
      post r7 G6) r2 r5 G4) r2 (0 + 2) G1) xpost a1 G
set_option maxHeartbeats 4000000 in
set_option maxRecDepth 100000 in
theorem okX8_reserve (X : Cx) (l : Launch) (hfl : l.stackTraces = false) {post : Int32 → GS → Prop} {xpost : String → GS → Prop} {a1 : Int32} {G : GS}  (hw : wpX8_reserve post xpost a1 G) : CX X l yX8_reserve cX8_reserve 3 (some FieldType.int) 7 1 6 [.ref (xa X 165), .int a1] G (Qi X post) xpost := by
  refine xbegin (by decide) (Nat.le_of_ble_eq_true rfl) (fun p e s m below meth c hx hb hr hml hlk hown hno hE hz ls hl hP hD hS => ?_)
  have hl : lv_has ls 3 [(0, .ref (xa X 165)), (1, .int a1)] := hl
  have hown : s.vm.findClass "FlyTreasury" = some m.cls := hown
  unfold wpX8_reserve at hw
  refine lv_aload_n hx hb dX8_reserve_0 rfl (lv_at hl 0 rfl) ?_
  refine lv_iload_n hx hb dX8_reserve_1 rfl (lv_at hl 1 rfl) ?_
  refine xcall_r (xrun_V (cc := cX8_reserve) (As := [.int a1]) (rest := []) hx hb hml hown hE hz (okX8_vaultAt X l hfl  hw) qw_1180 qw_1182 qw_3 qw_74 qw_1183 (myX8_vaultAt) ⟨Nat.le_of_ble_eq_true rfl, Nat.le_of_ble_eq_true rfl⟩ (rv_X8 hE hP rfl) hP hD hS rfl hl.1 rfl (Nat.le_of_ble_eq_true rfl) dX8_reserve_2 ⟨Nat.le_of_ble_eq_true rfl, Nat.le_of_ble_eq_true rfl⟩) hS (fun E ce q9 G9 H locs hw hP hD hS hce hcv hcl => ?_) (fun r2 G1 H locs hw hP hD hS => ?_)
  · exact xout hno hlk hce hcv hcl hw hP hD hS (Nat.le_of_ble_eq_true rfl) (Nat.le_of_ble_eq_true rfl)
  · obtain ⟨y3, hw⟩ := hw
    refine lv_astore_n (lv' := [(2, .ref (xa X r2)), (0, .ref (xa X 165)), (1, .int a1)]) hx hb dX8_reserve_5 rfl hl (by decide) rfl (fun ls hl => ?_)
    refine lv_aload_n hx hb dX8_reserve_6 rfl (lv_at hl 0 rfl) ?_
    refine lv_aload_n hx hb dX8_reserve_7 rfl (lv_at hl 0 rfl) ?_
    refine lv_aload_n hx hb dX8_reserve_8 rfl (lv_at hl 1 rfl) ?_
    refine gf_X8_0 hx hb hE hP hown rfl (hE.w qw_318 rfl _) dX8_reserve_9 ?_
    refine gn_X3_1 hx hb hE hP hown rfl (hE.w qw_163 rfl _) dX8_reserve_12 ?_
    refine call_i (run_V (cc := cX8_reserve) (As := [.ref (xa X (0 + 2))]) (rest := [.ref (xa X r2)]) hx hb hml hown hE hz (okX7_legsAt X l hfl y3 (k0_2 rfl) hw) qw_1257 qw_359 qw_360 qw_76 qw_361 (myX7_legsAt) ⟨Nat.le_of_ble_eq_true rfl, Nat.le_of_ble_eq_true rfl⟩ (rv_X7 hE hP y3) hP hD hS rfl hl.1 rfl (Nat.le_of_ble_eq_true rfl) dX8_reserve_15 ⟨Nat.le_of_ble_eq_true rfl, Nat.le_of_ble_eq_true rfl⟩) hS (fun r5 G4 H locs hw hP hD hS => ?_)
    refine call_i (run_V (cc := cX8_reserve) (As := [.int r5]) (rest := []) hx hb hml hown hE hz (okX7_reserveOf X l hfl y3 hw) qw_1265 qw_434 qw_435 qw_76 qw_436 (myX7_reserveOf) ⟨Nat.le_of_ble_eq_true rfl, Nat.le_of_ble_eq_true rfl⟩ (rv_X7 hE hP y3) hP hD hS rfl hl.1 rfl (Nat.le_of_ble_eq_true rfl) dX8_reserve_18 ⟨Nat.le_of_ble_eq_true rfl, Nat.le_of_ble_eq_true rfl⟩) hS (fun r7 G6 H locs hw hP hD hS => ?_)
    refine vx_ret ?_
    exact end_i hx hb hr hlk rfl hw hP hD hS dX8_reserve_21
def wpX8_isSound (post : Int32 → GS → Prop) (xpost : String → GS → Prop) (a1 : Int32) (G : GS) : Prop :=
  wpX8_vaultAt (fun (r2 : Nat) (G1 : GS) =>
  kd r2 = 3 ∧
    wpX7_soundAt (fun (r5 : Int32) (G4 : GS) =>
    narrow .boolean (.int r5) = .int r5 ∧ post r5 G4) r2 (0 + 2) G1) xpost a1 G
set_option maxHeartbeats 4000000 in
set_option maxRecDepth 100000 in
theorem okX8_isSound (X : Cx) (l : Launch) (hfl : l.stackTraces = false) {post : Int32 → GS → Prop} {xpost : String → GS → Prop} {a1 : Int32} {G : GS}  (hw : wpX8_isSound post xpost a1 G) : CX X l yX8_isSound cX8_isSound 2 (some FieldType.boolean) 7 1 6 [.ref (xa X 165), .int a1] G (Qi X post) xpost := by
  refine xbegin (by decide) (Nat.le_of_ble_eq_true rfl) (fun p e s m below meth c hx hb hr hml hlk hown hno hE hz ls hl hP hD hS => ?_)
  have hl : lv_has ls 2 [(0, .ref (xa X 165)), (1, .int a1)] := hl
  have hown : s.vm.findClass "FlyTreasury" = some m.cls := hown
  unfold wpX8_isSound at hw
  refine lv_aload_n hx hb dX8_isSound_0 rfl (lv_at hl 0 rfl) ?_
  refine lv_iload_n hx hb dX8_isSound_1 rfl (lv_at hl 1 rfl) ?_
  refine xcall_r (xrun_V (cc := cX8_isSound) (As := [.int a1]) (rest := []) hx hb hml hown hE hz (okX8_vaultAt X l hfl  hw) qw_1180 qw_1182 qw_3 qw_74 qw_1183 (myX8_vaultAt) ⟨Nat.le_of_ble_eq_true rfl, Nat.le_of_ble_eq_true rfl⟩ (rv_X8 hE hP rfl) hP hD hS rfl hl.1 rfl (Nat.le_of_ble_eq_true rfl) dX8_isSound_2 ⟨Nat.le_of_ble_eq_true rfl, Nat.le_of_ble_eq_true rfl⟩) hS (fun E ce q9 G9 H locs hw hP hD hS hce hcv hcl => ?_) (fun r2 G1 H locs hw hP hD hS => ?_)
  · exact xout hno hlk hce hcv hcl hw hP hD hS (Nat.le_of_ble_eq_true rfl) (Nat.le_of_ble_eq_true rfl)
  · obtain ⟨y3, hw⟩ := hw
    refine lv_aload_n hx hb dX8_isSound_5 rfl (lv_at hl 0 rfl) ?_
    refine gf_X8_0 hx hb hE hP hown rfl (hE.w qw_318 rfl _) dX8_isSound_6 ?_
    refine gn_X3_1 hx hb hE hP hown rfl (hE.w qw_163 rfl _) dX8_isSound_9 ?_
    refine call_i (run_V (cc := cX8_isSound) (As := [.ref (xa X (0 + 2))]) (rest := []) hx hb hml hown hE hz (okX7_soundAt X l hfl y3 (k0_2 rfl) hw) qw_1273 qw_1104 qw_1105 qw_76 qw_1106 (myX7_soundAt) ⟨Nat.le_of_ble_eq_true rfl, Nat.le_of_ble_eq_true rfl⟩ (rv_X7 hE hP y3) hP hD hS rfl hl.1 rfl (Nat.le_of_ble_eq_true rfl) dX8_isSound_12 ⟨Nat.le_of_ble_eq_true rfl, Nat.le_of_ble_eq_true rfl⟩) hS (fun r5 G4 H locs hw hP hD hS => ?_)
    refine vx_ret ?_
    obtain ⟨y6, hw⟩ := hw
    exact end_i hx hb hr hlk y6 hw hP hD hS dX8_isSound_15
