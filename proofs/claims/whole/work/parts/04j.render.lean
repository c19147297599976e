def wpX8_renderVault (post : Int32 → GS → Prop) (xpost : String → GS → Prop) (a1 : Int32) (G : GS) : Prop :=
  wpX8_vaultAt (fun (r2 : Nat) (G1 : GS) =>
  kd r2 = 3 ∧
    wpJ4_setLength_d00df (fun (G4 : GS) =>
    wpJ0_charAt_5068e (fun (r7 : Int32) (G6 : GS) =>
      wpJ4_append_cf468 (fun (r9 : Nat) (G8 : GS) =>
        r9 = 187 ∧
          vp_in 0 (ln (r2 + 5)) ∧
          wpJ4_append_bf812 (fun (r12 : Nat) (G11 : GS) =>
          r12 = 187 ∧
            wpJ0_charAt_5068e (fun (r15 : Int32) (G14 : GS) =>
            wpJ4_append_cf468 (fun (r17 : Nat) (G16 : GS) =>
              r17 = 187 ∧
                vp_in 1 (ln (r2 + 5)) ∧
                wpJ4_append_bf812 (fun (r20 : Nat) (G19 : GS) =>
                r20 = 187 ∧
                  wpJ0_charAt_5068e (fun (r23 : Int32) (G22 : GS) =>
                  wpJ4_append_cf468 (fun (r25 : Nat) (G24 : GS) =>
                    r25 = 187 ∧
                      vp_in 2 (ln (r2 + 5)) ∧
                      wpJ4_append_bf812 (fun (r28 : Nat) (G27 : GS) =>
                      r28 = 187 ∧
                        wpJ4_append_cf468 (fun (r31 : Nat) (G30 : GS) =>
                        r31 = 187 ∧
                          wpJ4_append_bf812 (fun (r33 : Nat) (G32 : GS) =>
                          r33 = 187 ∧
                            wpJ4_append_cf468 (fun (r35 : Nat) (G34 : GS) =>
                            r35 = 187 ∧
                              wpJ4_append_bf812 (fun (r37 : Nat) (G36 : GS) =>
                              r37 = 187 ∧
                                wpJ4_append_cf468 (fun (r39 : Nat) (G38 : GS) =>
                                r39 = 187 ∧
                                  wpJ4_append_bf812 (fun (r41 : Nat) (G40 : GS) =>
                                  r41 = 187 ∧
                                    wpX7_frozen (fun (r43 : Int32) (G42 : GS) =>
                                    if r43 = 0 then
                                      wpJ4_length_8abf5 (fun (r46 : Int32) (G45 : GS) =>
                                        post r46 G45)  G42
                                    else
                                      wpJ4_append_cf468 (fun (r48 : Nat) (G47 : GS) =>
                                        r48 = 187 ∧
                                          wpJ4_append_bf812 (fun (r50 : Nat) (G49 : GS) =>
                                          r50 = 187 ∧
                                            wpJ4_length_8abf5 (fun (r52 : Int32) (G51 : GS) =>
                                            post r52 G51)  G49) (G47.1 r2 5) G47) 42 G42) r2 G40) (G38.1 r2 3) G38) 119 G36) (G34.1 r2 2) G34) 126 G32) (G30.1 r2 1) G30) 43 G27) (G24.1 (r2 + 5) (2 : Int32).toNatClampNeg) G24) r23 G22) 0 2 G19) (G16.1 (r2 + 5) (1 : Int32).toNatClampNeg) G16) r15 G14) 0 1 G11) (G8.1 (r2 + 5) (0 : Int32).toNatClampNeg) G8) r7 G6) 0 0 G4) 0 G1) xpost a1 G
set_option maxHeartbeats 4000000 in
set_option maxRecDepth 100000 in
theorem okX8_renderVault (X : Cx) (l : Launch) (hfl : l.stackTraces = false) {post : Int32 → GS → Prop} {xpost : String → GS → Prop} {a1 : Int32} {G : GS}  (hw : wpX8_renderVault post xpost a1 G) : CX X l yX8_renderVault cX8_renderVault 4 (some FieldType.int) 7 16 2046 [.ref (xa X 165), .int a1] G (Qi X post) xpost := by
  refine xbegin (by decide) (Nat.le_of_ble_eq_true rfl) (fun p e s m below meth c hx hb hr hml hlk hown hno hE hz ls hl hP hD hS => ?_)
  have hl : lv_has ls 4 [(0, .ref (xa X 165)), (1, .int a1)] := hl
  have hown : s.vm.findClass "FlyTreasury" = some m.cls := hown
  unfold wpX8_renderVault at hw
  refine lv_aload_n hx hb dX8_renderVault_0 rfl (lv_at hl 0 rfl) ?_
  refine lv_iload_n hx hb dX8_renderVault_1 rfl (lv_at hl 1 rfl) ?_
  refine xcall_r (xrun_V (cc := cX8_renderVault) (As := [.int a1]) (rest := []) hx hb hml hown hE hz (okX8_vaultAt X l hfl  hw) qw_1180 qw_1182 qw_3 qw_74 qw_1183 (myX8_vaultAt) ⟨Nat.le_of_ble_eq_true rfl, Nat.le_of_ble_eq_true rfl⟩ (rv_X8 hE hP rfl) hP hD hS rfl hl.1 rfl (Nat.le_of_ble_eq_true rfl) dX8_renderVault_2 ⟨Nat.le_of_ble_eq_true rfl, Nat.le_of_ble_eq_true rfl⟩) hS (fun E ce q9 G9 H locs hw hP hD hS hce hcv hcl => ?_) (fun r2 G1 H locs hw hP hD hS => ?_)
  · exact xout hno hlk hce hcv hcl hw hP hD hS (Nat.le_of_ble_eq_true rfl) (Nat.le_of_ble_eq_true rfl)
  · obtain ⟨y3, hw⟩ := hw
    refine lv_astore_n (lv' := [(2, .ref (xa X r2)), (0, .ref (xa X 165)), (1, .int a1)]) hx hb dX8_renderVault_5 rfl hl (by decide) rfl (fun ls hl => ?_)
    refine lv_aload_n hx hb dX8_renderVault_6 rfl (lv_at hl 1 rfl) ?_
    refine gf_X8_5 hx hb hE hP hown rfl (hE.w qw_323 rfl _) dX8_renderVault_7 ?_
    refine lv_iconst (v := 0) hx hb dX8_renderVault_10 (by decide) ?_
    refine call_v (run_V (cc := cX8_renderVault) (As := [.int 0]) (rest := []) hx hb hml hown hE hz (okJ4_setLength_d00df X l hfl  hw) qw_452 qw_453 qw_454 qw_83 qw_455 (myJ4_setLength_d00df) ⟨Nat.le_of_ble_eq_true rfl, Nat.le_of_ble_eq_true rfl⟩ (rv_J4 hE hP rfl) hP hD hS rfl hl.1 rfl (Nat.le_of_ble_eq_true rfl) dX8_renderVault_11 ⟨Nat.le_of_ble_eq_true rfl, Nat.le_of_ble_eq_true rfl⟩) hS (fun G4 H locs hw hP hD hS => ?_)
    refine lv_iconst (v := 0) hx hb dX8_renderVault_14 (by decide) ?_
    refine lv_istore_n (lv' := [(3, .int 0), (2, .ref (xa X r2)), (0, .ref (xa X 165)), (1, .int a1)]) hx hb dX8_renderVault_15 rfl hl (by decide) rfl (fun ls hl => ?_)
    refine lv_iload_n hx hb dX8_renderVault_16 rfl (lv_at hl 0 rfl) ?_
    refine lv_iconst (v := 3) hx hb dX8_renderVault_17 (by decide) ?_
    refine lv_icmp_ge (tgt := 50) hx hb dX8_renderVault_18 (by decide) (fun c5 => ?_) (fun c5 => ?_)
    · exact absurd c5 (by decide)
    · refine lv_aload_n hx hb dX8_renderVault_21 rfl (lv_at hl 2 rfl) ?_
      refine gf_X8_5 hx hb hE hP hown rfl (hE.w qw_323 rfl _) dX8_renderVault_22 ?_
      refine va_ldcS hx hb hown (sr_0 hE) dX8_renderVault_25 ?_
      refine lv_iload_n hx hb dX8_renderVault_27 rfl (lv_at hl 0 rfl) ?_
      refine call_i (run_V (cc := cX8_renderVault) (As := [.int 0]) (rest := [.ref (xa X 187)]) hx hb hml hown hE hz (okJ0_charAt_5068e X l hfl (by decide) hw) qw_820 qw_821 qw_822 qw_84 qw_823 (myJ0_charAt_5068e) ⟨Nat.le_of_ble_eq_true rfl, Nat.le_of_ble_eq_true rfl⟩ (vk_recv hE.S (by decide) hS) hP hD hS rfl hl.1 rfl (Nat.le_of_ble_eq_true rfl) dX8_renderVault_28 ⟨Nat.le_of_ble_eq_true rfl, Nat.le_of_ble_eq_true rfl⟩) hS (fun r7 G6 H locs hw hP hD hS => ?_)
      refine call_r (run_V (cc := cX8_renderVault) (As := [.int r7]) (rest := []) hx hb hml hown hE hz (okJ4_append_cf468 X l hfl  hw) qw_797 qw_798 qw_799 qw_83 qw_800 (myJ4_append_cf468) ⟨Nat.le_of_ble_eq_true rfl, Nat.le_of_ble_eq_true rfl⟩ (rv_J4 hE hP rfl) hP hD hS rfl hl.1 rfl (Nat.le_of_ble_eq_true rfl) dX8_renderVault_31 ⟨Nat.le_of_ble_eq_true rfl, Nat.le_of_ble_eq_true rfl⟩) hS (fun r9 G8 H locs hw hP hD hS => ?_)
      obtain ⟨rfl, hw⟩ := hw
      refine lv_aload_n hx hb dX8_renderVault_34 rfl (lv_at hl 1 rfl) ?_
      refine gn_X7_0 hx hb hE hP hown y3 (hE.w qw_132 rfl _) dX8_renderVault_35 ?_
      refine lv_iload_n hx hb dX8_renderVault_38 rfl (lv_at hl 0 rfl) ?_
      obtain ⟨y10, hw⟩ := hw
      refine ald_2 hx hb hE hP (k3_5 y3) y10 dX8_renderVault_39 ?_
      refine call_r (run_V (cc := cX8_renderVault) (As := [.int (G8.1 (r2 + 5) (0 : Int32).toNatClampNeg)]) (rest := []) hx hb hml hown hE hz (okJ4_append_bf812 X l hfl  hw) qw_835 qw_586 qw_587 qw_83 qw_588 (myJ4_append_bf812) ⟨Nat.le_of_ble_eq_true rfl, Nat.le_of_ble_eq_true rfl⟩ (rv_J4 hE hP rfl) hP hD hS rfl hl.1 rfl (Nat.le_of_ble_eq_true rfl) dX8_renderVault_40 ⟨Nat.le_of_ble_eq_true rfl, Nat.le_of_ble_eq_true rfl⟩) hS (fun r12 G11 H locs hw hP hD hS => ?_)
      obtain ⟨rfl, hw⟩ := hw
      refine lv_pop hx hb dX8_renderVault_43 rfl ?_
      refine lv_iinc (v := 1) (lv' := [(3, .int 1), (2, .ref (xa X r2)), (0, .ref (xa X 165)), (1, .int a1)]) hx hb dX8_renderVault_44 hl (k := 0) rfl rfl (by decide) rfl (fun ls hl => ?_)
      refine lv_goto (tgt := 16) hx hb dX8_renderVault_47 (by decide) ?_
      refine lv_iload_n hx hb dX8_renderVault_16 rfl (lv_at hl 0 rfl) ?_
      refine lv_iconst (v := 3) hx hb dX8_renderVault_17 (by decide) ?_
      refine lv_icmp_ge (tgt := 50) hx hb dX8_renderVault_18 (by decide) (fun c13 => ?_) (fun c13 => ?_)
      · exact absurd c13 (by decide)
      · refine lv_aload_n hx hb dX8_renderVault_21 rfl (lv_at hl 2 rfl) ?_
        refine gf_X8_5 hx hb hE hP hown rfl (hE.w qw_323 rfl _) dX8_renderVault_22 ?_
        refine va_ldcS hx hb hown (sr_0 hE) dX8_renderVault_25 ?_
        refine lv_iload_n hx hb dX8_renderVault_27 rfl (lv_at hl 0 rfl) ?_
        refine call_i (run_V (cc := cX8_renderVault) (As := [.int 1]) (rest := [.ref (xa X 187)]) hx hb hml hown hE hz (okJ0_charAt_5068e X l hfl (by decide) hw) qw_820 qw_821 qw_822 qw_84 qw_823 (myJ0_charAt_5068e) ⟨Nat.le_of_ble_eq_true rfl, Nat.le_of_ble_eq_true rfl⟩ (vk_recv hE.S (by decide) hS) hP hD hS rfl hl.1 rfl (Nat.le_of_ble_eq_true rfl) dX8_renderVault_28 ⟨Nat.le_of_ble_eq_true rfl, Nat.le_of_ble_eq_true rfl⟩) hS (fun r15 G14 H locs hw hP hD hS => ?_)
        refine call_r (run_V (cc := cX8_renderVault) (As := [.int r15]) (rest := []) hx hb hml hown hE hz (okJ4_append_cf468 X l hfl  hw) qw_797 qw_798 qw_799 qw_83 qw_800 (myJ4_append_cf468) ⟨Nat.le_of_ble_eq_true rfl, Nat.le_of_ble_eq_true rfl⟩ (rv_J4 hE hP rfl) hP hD hS rfl hl.1 rfl (Nat.le_of_ble_eq_true rfl) dX8_renderVault_31 ⟨Nat.le_of_ble_eq_true rfl, Nat.le_of_ble_eq_true rfl⟩) hS (fun r17 G16 H locs hw hP hD hS => ?_)
        obtain ⟨rfl, hw⟩ := hw
        refine lv_aload_n hx hb dX8_renderVault_34 rfl (lv_at hl 1 rfl) ?_
        refine gn_X7_0 hx hb hE hP hown y3 (hE.w qw_132 rfl _) dX8_renderVault_35 ?_
        refine lv_iload_n hx hb dX8_renderVault_38 rfl (lv_at hl 0 rfl) ?_
        obtain ⟨y18, hw⟩ := hw
        refine ald_2 hx hb hE hP (k3_5 y3) y18 dX8_renderVault_39 ?_
        refine call_r (run_V (cc := cX8_renderVault) (As := [.int (G16.1 (r2 + 5) (1 : Int32).toNatClampNeg)]) (rest := []) hx hb hml hown hE hz (okJ4_append_bf812 X l hfl  hw) qw_835 qw_586 qw_587 qw_83 qw_588 (myJ4_append_bf812) ⟨Nat.le_of_ble_eq_true rfl, Nat.le_of_ble_eq_true rfl⟩ (rv_J4 hE hP rfl) hP hD hS rfl hl.1 rfl (Nat.le_of_ble_eq_true rfl) dX8_renderVault_40 ⟨Nat.le_of_ble_eq_true rfl, Nat.le_of_ble_eq_true rfl⟩) hS (fun r20 G19 H locs hw hP hD hS => ?_)
        obtain ⟨rfl, hw⟩ := hw
        refine lv_pop hx hb dX8_renderVault_43 rfl ?_
        refine lv_iinc (v := 2) (lv' := [(3, .int 2), (2, .ref (xa X r2)), (0, .ref (xa X 165)), (1, .int a1)]) hx hb dX8_renderVault_44 hl (k := 0) rfl rfl (by decide) rfl (fun ls hl => ?_)
        refine lv_goto (tgt := 16) hx hb dX8_renderVault_47 (by decide) ?_
        refine lv_iload_n hx hb dX8_renderVault_16 rfl (lv_at hl 0 rfl) ?_
        refine lv_iconst (v := 3) hx hb dX8_renderVault_17 (by decide) ?_
        refine lv_icmp_ge (tgt := 50) hx hb dX8_renderVault_18 (by decide) (fun c21 => ?_) (fun c21 => ?_)
        · exact absurd c21 (by decide)
        · refine lv_aload_n hx hb dX8_renderVault_21 rfl (lv_at hl 2 rfl) ?_
          refine gf_X8_5 hx hb hE hP hown rfl (hE.w qw_323 rfl _) dX8_renderVault_22 ?_
          refine va_ldcS hx hb hown (sr_0 hE) dX8_renderVault_25 ?_
          refine lv_iload_n hx hb dX8_renderVault_27 rfl (lv_at hl 0 rfl) ?_
          refine call_i (run_V (cc := cX8_renderVault) (As := [.int 2]) (rest := [.ref (xa X 187)]) hx hb hml hown hE hz (okJ0_charAt_5068e X l hfl (by decide) hw) qw_820 qw_821 qw_822 qw_84 qw_823 (myJ0_charAt_5068e) ⟨Nat.le_of_ble_eq_true rfl, Nat.le_of_ble_eq_true rfl⟩ (vk_recv hE.S (by decide) hS) hP hD hS rfl hl.1 rfl (Nat.le_of_ble_eq_true rfl) dX8_renderVault_28 ⟨Nat.le_of_ble_eq_true rfl, Nat.le_of_ble_eq_true rfl⟩) hS (fun r23 G22 H locs hw hP hD hS => ?_)
          refine call_r (run_V (cc := cX8_renderVault) (As := [.int r23]) (rest := []) hx hb hml hown hE hz (okJ4_append_cf468 X l hfl  hw) qw_797 qw_798 qw_799 qw_83 qw_800 (myJ4_append_cf468) ⟨Nat.le_of_ble_eq_true rfl, Nat.le_of_ble_eq_true rfl⟩ (rv_J4 hE hP rfl) hP hD hS rfl hl.1 rfl (Nat.le_of_ble_eq_true rfl) dX8_renderVault_31 ⟨Nat.le_of_ble_eq_true rfl, Nat.le_of_ble_eq_true rfl⟩) hS (fun r25 G24 H locs hw hP hD hS => ?_)
          obtain ⟨rfl, hw⟩ := hw
          refine lv_aload_n hx hb dX8_renderVault_34 rfl (lv_at hl 1 rfl) ?_
          refine gn_X7_0 hx hb hE hP hown y3 (hE.w qw_132 rfl _) dX8_renderVault_35 ?_
          refine lv_iload_n hx hb dX8_renderVault_38 rfl (lv_at hl 0 rfl) ?_
          obtain ⟨y26, hw⟩ := hw
          refine ald_2 hx hb hE hP (k3_5 y3) y26 dX8_renderVault_39 ?_
          refine call_r (run_V (cc := cX8_renderVault) (As := [.int (G24.1 (r2 + 5) (2 : Int32).toNatClampNeg)]) (rest := []) hx hb hml hown hE hz (okJ4_append_bf812 X l hfl  hw) qw_835 qw_586 qw_587 qw_83 qw_588 (myJ4_append_bf812) ⟨Nat.le_of_ble_eq_true rfl, Nat.le_of_ble_eq_true rfl⟩ (rv_J4 hE hP rfl) hP hD hS rfl hl.1 rfl (Nat.le_of_ble_eq_true rfl) dX8_renderVault_40 ⟨Nat.le_of_ble_eq_true rfl, Nat.le_of_ble_eq_true rfl⟩) hS (fun r28 G27 H locs hw hP hD hS => ?_)
          obtain ⟨rfl, hw⟩ := hw
          refine lv_pop hx hb dX8_renderVault_43 rfl ?_
          refine lv_iinc (v := 3) (lv' := [(3, .int 3), (2, .ref (xa X r2)), (0, .ref (xa X 165)), (1, .int a1)]) hx hb dX8_renderVault_44 hl (k := 0) rfl rfl (by decide) rfl (fun ls hl => ?_)
          refine lv_goto (tgt := 16) hx hb dX8_renderVault_47 (by decide) ?_
          refine lv_iload_n hx hb dX8_renderVault_16 rfl (lv_at hl 0 rfl) ?_
          refine lv_iconst (v := 3) hx hb dX8_renderVault_17 (by decide) ?_
          refine lv_icmp_ge (tgt := 50) hx hb dX8_renderVault_18 (by decide) (fun c29 => ?_) (fun c29 => ?_)
          · refine lv_aload_n hx hb dX8_renderVault_50 rfl (lv_at hl 2 rfl) ?_
            refine gf_X8_5 hx hb hE hP hown rfl (hE.w qw_323 rfl _) dX8_renderVault_51 ?_
            refine lv_bipush (v := 43) hx hb dX8_renderVault_54 (by decide) ?_
            refine call_r (run_V (cc := cX8_renderVault) (As := [.int 43]) (rest := []) hx hb hml hown hE hz (okJ4_append_cf468 X l hfl  hw) qw_797 qw_798 qw_799 qw_83 qw_800 (myJ4_append_cf468) ⟨Nat.le_of_ble_eq_true rfl, Nat.le_of_ble_eq_true rfl⟩ (rv_J4 hE hP rfl) hP hD hS rfl hl.1 rfl (Nat.le_of_ble_eq_true rfl) dX8_renderVault_56 ⟨Nat.le_of_ble_eq_true rfl, Nat.le_of_ble_eq_true rfl⟩) hS (fun r31 G30 H locs hw hP hD hS => ?_)
            obtain ⟨rfl, hw⟩ := hw
            refine lv_aload_n hx hb dX8_renderVault_59 rfl (lv_at hl 1 rfl) ?_
            refine gn_X7_1 hx hb hE hP hown y3 (hE.w qw_135 rfl _) dX8_renderVault_60 ?_
            refine call_r (run_V (cc := cX8_renderVault) (As := [.int (G30.1 r2 1)]) (rest := []) hx hb hml hown hE hz (okJ4_append_bf812 X l hfl  hw) qw_835 qw_586 qw_587 qw_83 qw_588 (myJ4_append_bf812) ⟨Nat.le_of_ble_eq_true rfl, Nat.le_of_ble_eq_true rfl⟩ (rv_J4 hE hP rfl) hP hD hS rfl hl.1 rfl (Nat.le_of_ble_eq_true rfl) dX8_renderVault_63 ⟨Nat.le_of_ble_eq_true rfl, Nat.le_of_ble_eq_true rfl⟩) hS (fun r33 G32 H locs hw hP hD hS => ?_)
            obtain ⟨rfl, hw⟩ := hw
            refine lv_pop hx hb dX8_renderVault_66 rfl ?_
            refine lv_aload_n hx hb dX8_renderVault_67 rfl (lv_at hl 2 rfl) ?_
            refine gf_X8_5 hx hb hE hP hown rfl (hE.w qw_323 rfl _) dX8_renderVault_68 ?_
            refine lv_bipush (v := 126) hx hb dX8_renderVault_71 (by decide) ?_
            refine call_r (run_V (cc := cX8_renderVault) (As := [.int 126]) (rest := []) hx hb hml hown hE hz (okJ4_append_cf468 X l hfl  hw) qw_797 qw_798 qw_799 qw_83 qw_800 (myJ4_append_cf468) ⟨Nat.le_of_ble_eq_true rfl, Nat.le_of_ble_eq_true rfl⟩ (rv_J4 hE hP rfl) hP hD hS rfl hl.1 rfl (Nat.le_of_ble_eq_true rfl) dX8_renderVault_73 ⟨Nat.le_of_ble_eq_true rfl, Nat.le_of_ble_eq_true rfl⟩) hS (fun r35 G34 H locs hw hP hD hS => ?_)
            obtain ⟨rfl, hw⟩ := hw
            refine lv_aload_n hx hb dX8_renderVault_76 rfl (lv_at hl 1 rfl) ?_
            refine gn_X7_2 hx hb hE hP hown y3 (hE.w qw_138 rfl _) dX8_renderVault_77 ?_
            refine call_r (run_V (cc := cX8_renderVault) (As := [.int (G34.1 r2 2)]) (rest := []) hx hb hml hown hE hz (okJ4_append_bf812 X l hfl  hw) qw_835 qw_586 qw_587 qw_83 qw_588 (myJ4_append_bf812) ⟨Nat.le_of_ble_eq_true rfl, Nat.le_of_ble_eq_true rfl⟩ (rv_J4 hE hP rfl) hP hD hS rfl hl.1 rfl (Nat.le_of_ble_eq_true rfl) dX8_renderVault_80 ⟨Nat.le_of_ble_eq_true rfl, Nat.le_of_ble_eq_true rfl⟩) hS (fun r37 G36 H locs hw hP hD hS => ?_)
            obtain ⟨rfl, hw⟩ := hw
            refine lv_pop hx hb dX8_renderVault_83 rfl ?_
            refine lv_aload_n hx hb dX8_renderVault_84 rfl (lv_at hl 2 rfl) ?_
            refine gf_X8_5 hx hb hE hP hown rfl (hE.w qw_323 rfl _) dX8_renderVault_85 ?_
            refine lv_bipush (v := 119) hx hb dX8_renderVault_88 (by decide) ?_
            refine call_r (run_V (cc := cX8_renderVault) (As := [.int 119]) (rest := []) hx hb hml hown hE hz (okJ4_append_cf468 X l hfl  hw) qw_797 qw_798 qw_799 qw_83 qw_800 (myJ4_append_cf468) ⟨Nat.le_of_ble_eq_true rfl, Nat.le_of_ble_eq_true rfl⟩ (rv_J4 hE hP rfl) hP hD hS rfl hl.1 rfl (Nat.le_of_ble_eq_true rfl) dX8_renderVault_90 ⟨Nat.le_of_ble_eq_true rfl, Nat.le_of_ble_eq_true rfl⟩) hS (fun r39 G38 H locs hw hP hD hS => ?_)
            obtain ⟨rfl, hw⟩ := hw
            refine lv_aload_n hx hb dX8_renderVault_93 rfl (lv_at hl 1 rfl) ?_
            refine gn_X7_3 hx hb hE hP hown y3 (hE.w qw_140 rfl _) dX8_renderVault_94 ?_
            refine call_r (run_V (cc := cX8_renderVault) (As := [.int (G38.1 r2 3)]) (rest := []) hx hb hml hown hE hz (okJ4_append_bf812 X l hfl  hw) qw_835 qw_586 qw_587 qw_83 qw_588 (myJ4_append_bf812) ⟨Nat.le_of_ble_eq_true rfl, Nat.le_of_ble_eq_true rfl⟩ (rv_J4 hE hP rfl) hP hD hS rfl hl.1 rfl (Nat.le_of_ble_eq_true rfl) dX8_renderVault_97 ⟨Nat.le_of_ble_eq_true rfl, Nat.le_of_ble_eq_true rfl⟩) hS (fun r41 G40 H locs hw hP hD hS => ?_)
            obtain ⟨rfl, hw⟩ := hw
            refine lv_pop hx hb dX8_renderVault_100 rfl ?_
            refine lv_aload_n hx hb dX8_renderVault_101 rfl (lv_at hl 1 rfl) ?_
            refine call_i (run_V (cc := cX8_renderVault) (As := []) (rest := []) hx hb hml hown hE hz (okX7_frozen X l hfl y3 hw) qw_1225 qw_1026 qw_1027 qw_76 qw_1028 (myX7_frozen) ⟨Nat.le_of_ble_eq_true rfl, Nat.le_of_ble_eq_true rfl⟩ (rv_X7 hE hP y3) hP hD hS rfl hl.1 rfl (Nat.le_of_ble_eq_true rfl) dX8_renderVault_102 ⟨Nat.le_of_ble_eq_true rfl, Nat.le_of_ble_eq_true rfl⟩) hS (fun r43 G42 H locs hw hP hD hS => ?_)
            refine lv_if_eq (tgt := 125) hx hb dX8_renderVault_105 (by decide) (fun c44 => ?_) (fun c44 => ?_)
            · replace hw := ite_t hw c44
              refine lv_aload_n hx hb dX8_renderVault_125 rfl (lv_at hl 2 rfl) ?_
              refine gf_X8_5 hx hb hE hP hown rfl (hE.w qw_323 rfl _) dX8_renderVault_126 ?_
              refine call_i (run_V (cc := cX8_renderVault) (As := []) (rest := []) hx hb hml hown hE hz (okJ4_length_8abf5 X l hfl  hw) qw_836 qw_632 qw_2080 qw_83 qw_633 (myJ4_length_8abf5) ⟨Nat.le_of_ble_eq_true rfl, Nat.le_of_ble_eq_true rfl⟩ (rv_J4 hE hP rfl) hP hD hS rfl hl.1 rfl (Nat.le_of_ble_eq_true rfl) dX8_renderVault_129 ⟨Nat.le_of_ble_eq_true rfl, Nat.le_of_ble_eq_true rfl⟩) hS (fun r46 G45 H locs hw hP hD hS => ?_)
              refine W.widen (k := 16) (n := 2046) (Nat.le_of_ble_eq_true rfl) (Nat.le_of_ble_eq_true rfl) ?_
              refine vx_ret ?_
              exact end_i hx hb hr hlk rfl hw hP hD hS dX8_renderVault_132
            · replace hw := ite_f hw c44
              refine lv_aload_n hx hb dX8_renderVault_108 rfl (lv_at hl 2 rfl) ?_
              refine gf_X8_5 hx hb hE hP hown rfl (hE.w qw_323 rfl _) dX8_renderVault_109 ?_
              refine lv_bipush (v := 42) hx hb dX8_renderVault_112 (by decide) ?_
              refine call_r (run_V (cc := cX8_renderVault) (As := [.int 42]) (rest := []) hx hb hml hown hE hz (okJ4_append_cf468 X l hfl  hw) qw_797 qw_798 qw_799 qw_83 qw_800 (myJ4_append_cf468) ⟨Nat.le_of_ble_eq_true rfl, Nat.le_of_ble_eq_true rfl⟩ (rv_J4 hE hP rfl) hP hD hS rfl hl.1 rfl (Nat.le_of_ble_eq_true rfl) dX8_renderVault_114 ⟨Nat.le_of_ble_eq_true rfl, Nat.le_of_ble_eq_true rfl⟩) hS (fun r48 G47 H locs hw hP hD hS => ?_)
              obtain ⟨rfl, hw⟩ := hw
              refine lv_aload_n hx hb dX8_renderVault_117 rfl (lv_at hl 1 rfl) ?_
              refine gn_X7_5 hx hb hE hP hown y3 (hE.w qw_145 rfl _) dX8_renderVault_118 ?_
              refine call_r (run_V (cc := cX8_renderVault) (As := [.int (G47.1 r2 5)]) (rest := []) hx hb hml hown hE hz (okJ4_append_bf812 X l hfl  hw) qw_835 qw_586 qw_587 qw_83 qw_588 (myJ4_append_bf812) ⟨Nat.le_of_ble_eq_true rfl, Nat.le_of_ble_eq_true rfl⟩ (rv_J4 hE hP rfl) hP hD hS rfl hl.1 rfl (Nat.le_of_ble_eq_true rfl) dX8_renderVault_121 ⟨Nat.le_of_ble_eq_true rfl, Nat.le_of_ble_eq_true rfl⟩) hS (fun r50 G49 H locs hw hP hD hS => ?_)
              obtain ⟨rfl, hw⟩ := hw
              refine lv_pop hx hb dX8_renderVault_124 rfl ?_
              refine lv_aload_n hx hb dX8_renderVault_125 rfl (lv_at hl 2 rfl) ?_
              refine gf_X8_5 hx hb hE hP hown rfl (hE.w qw_323 rfl _) dX8_renderVault_126 ?_
              refine call_i (run_V (cc := cX8_renderVault) (As := []) (rest := []) hx hb hml hown hE hz (okJ4_length_8abf5 X l hfl  hw) qw_836 qw_632 qw_2080 qw_83 qw_633 (myJ4_length_8abf5) ⟨Nat.le_of_ble_eq_true rfl, Nat.le_of_ble_eq_true rfl⟩ (rv_J4 hE hP rfl) hP hD hS rfl hl.1 rfl (Nat.le_of_ble_eq_true rfl) dX8_renderVault_129 ⟨Nat.le_of_ble_eq_true rfl, Nat.le_of_ble_eq_true rfl⟩) hS (fun r52 G51 H locs hw hP hD hS => ?_)
              refine vx_ret ?_
              exact end_i hx hb hr hlk rfl hw hP hD hS dX8_renderVault_132
          · exact absurd c29 (by decide)
def wpX8_renderRates (post : Int32 → GS → Prop) (G : GS) : Prop :=
  wpJ4_setLength_d00df (fun (G1 : GS) =>
  wpJ0_charAt_5068e (fun (r5 : Int32) (G4 : GS) =>
    wpJ4_append_cf468 (fun (r7 : Nat) (G6 : GS) =>
      r7 = 187 ∧
        vp_in 0 (ln (0 + 2)) ∧
        wpJ4_append_bf812 (fun (r10 : Nat) (G9 : GS) =>
        r10 = 187 ∧
          wpJ4_append_cf468 (fun (r14 : Nat) (G13 : GS) =>
          r14 = 187 ∧
            wpJ0_charAt_5068e (fun (r16 : Int32) (G15 : GS) =>
            wpJ4_append_cf468 (fun (r18 : Nat) (G17 : GS) =>
              r18 = 187 ∧
                vp_in 1 (ln (0 + 2)) ∧
                wpJ4_append_bf812 (fun (r21 : Nat) (G20 : GS) =>
                r21 = 187 ∧
                  wpJ4_append_cf468 (fun (r25 : Nat) (G24 : GS) =>
                  r25 = 187 ∧
                    wpJ0_charAt_5068e (fun (r27 : Int32) (G26 : GS) =>
                    wpJ4_append_cf468 (fun (r29 : Nat) (G28 : GS) =>
                      r29 = 187 ∧
                        vp_in 2 (ln (0 + 2)) ∧
                        wpJ4_append_bf812 (fun (r32 : Nat) (G31 : GS) =>
                        r32 = 187 ∧
                          wpJ4_length_8abf5 (fun (r35 : Int32) (G34 : GS) =>
                          post r35 G34)  G31) (G28.1 (0 + 2) (2 : Int32).toNatClampNeg) G28) r27 G26) 0 2 G24) 44 G20) (G17.1 (0 + 2) (1 : Int32).toNatClampNeg) G17) r16 G15) 0 1 G13) 44 G9) (G6.1 (0 + 2) (0 : Int32).toNatClampNeg) G6) r5 G4) 0 0 G1) 0 G
set_option maxHeartbeats 4000000 in
set_option maxRecDepth 100000 in
theorem okX8_renderRates (X : Cx) (l : Launch) (hfl : l.stackTraces = false) {post : Int32 → GS → Prop}  {G : GS}  (hw : wpX8_renderRates post G) : CT X l yX8_renderRates cX8_renderRates 2 (some FieldType.int) 6 9 1224 [.ref (xa X 165)] G (Qi X post) := by
  refine mbegin (by decide) (Nat.le_of_ble_eq_true rfl) (fun p e s m below meth c hx hb hr hml hlk hown hE hz ls hl hP hD hS => ?_)
  have hl : lv_has ls 2 [(0, .ref (xa X 165))] := hl
  have hown : s.vm.findClass "FlyTreasury" = some m.cls := hown
  unfold wpX8_renderRates at hw
  refine lv_aload_n hx hb dX8_renderRates_0 rfl (lv_at hl 0 rfl) ?_
  refine gf_X8_5 hx hb hE hP hown rfl (hE.w qw_323 rfl _) dX8_renderRates_1 ?_
  refine lv_iconst (v := 0) hx hb dX8_renderRates_4 (by decide) ?_
  refine call_v (run_V (cc := cX8_renderRates) (As := [.int 0]) (rest := []) hx hb hml hown hE hz (okJ4_setLength_d00df X l hfl  hw) qw_452 qw_453 qw_454 qw_83 qw_455 (myJ4_setLength_d00df) ⟨Nat.le_of_ble_eq_true rfl, Nat.le_of_ble_eq_true rfl⟩ (rv_J4 hE hP rfl) hP hD hS rfl hl.1 rfl (Nat.le_of_ble_eq_true rfl) dX8_renderRates_5 ⟨Nat.le_of_ble_eq_true rfl, Nat.le_of_ble_eq_true rfl⟩) hS (fun G1 H locs hw hP hD hS => ?_)
  refine lv_iconst (v := 0) hx hb dX8_renderRates_8 (by decide) ?_
  refine lv_istore_n (lv' := [(1, .int 0), (0, .ref (xa X 165))]) hx hb dX8_renderRates_9 rfl hl (by decide) rfl (fun ls hl => ?_)
  refine lv_iload_n hx hb dX8_renderRates_10 rfl (lv_at hl 0 rfl) ?_
  refine lv_iconst (v := 3) hx hb dX8_renderRates_11 (by decide) ?_
  refine lv_icmp_ge (tgt := 61) hx hb dX8_renderRates_12 (by decide) (fun c2 => ?_) (fun c2 => ?_)
  · exact absurd c2 (by decide)
  · refine lv_iload_n hx hb dX8_renderRates_15 rfl (lv_at hl 0 rfl) ?_
    refine lv_if_le (tgt := 29) hx hb dX8_renderRates_16 (by decide) (fun c3 => ?_) (fun c3 => ?_)
    · refine lv_aload_n hx hb dX8_renderRates_29 rfl (lv_at hl 1 rfl) ?_
      refine gf_X8_5 hx hb hE hP hown rfl (hE.w qw_323 rfl _) dX8_renderRates_30 ?_
      refine va_ldcS hx hb hown (sr_0 hE) dX8_renderRates_33 ?_
      refine lv_iload_n hx hb dX8_renderRates_35 rfl (lv_at hl 0 rfl) ?_
      refine call_i (run_V (cc := cX8_renderRates) (As := [.int 0]) (rest := [.ref (xa X 187)]) hx hb hml hown hE hz (okJ0_charAt_5068e X l hfl (by decide) hw) qw_820 qw_821 qw_822 qw_84 qw_823 (myJ0_charAt_5068e) ⟨Nat.le_of_ble_eq_true rfl, Nat.le_of_ble_eq_true rfl⟩ (vk_recv hE.S (by decide) hS) hP hD hS rfl hl.1 rfl (Nat.le_of_ble_eq_true rfl) dX8_renderRates_36 ⟨Nat.le_of_ble_eq_true rfl, Nat.le_of_ble_eq_true rfl⟩) hS (fun r5 G4 H locs hw hP hD hS => ?_)
      refine call_r (run_V (cc := cX8_renderRates) (As := [.int r5]) (rest := []) hx hb hml hown hE hz (okJ4_append_cf468 X l hfl  hw) qw_797 qw_798 qw_799 qw_83 qw_800 (myJ4_append_cf468) ⟨Nat.le_of_ble_eq_true rfl, Nat.le_of_ble_eq_true rfl⟩ (rv_J4 hE hP rfl) hP hD hS rfl hl.1 rfl (Nat.le_of_ble_eq_true rfl) dX8_renderRates_39 ⟨Nat.le_of_ble_eq_true rfl, Nat.le_of_ble_eq_true rfl⟩) hS (fun r7 G6 H locs hw hP hD hS => ?_)
      obtain ⟨rfl, hw⟩ := hw
      refine lv_aload_n hx hb dX8_renderRates_42 rfl (lv_at hl 1 rfl) ?_
      refine gf_X8_0 hx hb hE hP hown rfl (hE.w qw_318 rfl _) dX8_renderRates_43 ?_
      refine gn_X3_1 hx hb hE hP hown rfl (hE.w qw_163 rfl _) dX8_renderRates_46 ?_
      refine lv_iload_n hx hb dX8_renderRates_49 rfl (lv_at hl 0 rfl) ?_
      obtain ⟨y8, hw⟩ := hw
      refine ald_2 hx hb hE hP (k0_2 rfl) y8 dX8_renderRates_50 ?_
      refine call_r (run_V (cc := cX8_renderRates) (As := [.int (G6.1 (0 + 2) (0 : Int32).toNatClampNeg)]) (rest := []) hx hb hml hown hE hz (okJ4_append_bf812 X l hfl  hw) qw_835 qw_586 qw_587 qw_83 qw_588 (myJ4_append_bf812) ⟨Nat.le_of_ble_eq_true rfl, Nat.le_of_ble_eq_true rfl⟩ (rv_J4 hE hP rfl) hP hD hS rfl hl.1 rfl (Nat.le_of_ble_eq_true rfl) dX8_renderRates_51 ⟨Nat.le_of_ble_eq_true rfl, Nat.le_of_ble_eq_true rfl⟩) hS (fun r10 G9 H locs hw hP hD hS => ?_)
      obtain ⟨rfl, hw⟩ := hw
      refine lv_pop hx hb dX8_renderRates_54 rfl ?_
      refine lv_iinc (v := 1) (lv' := [(1, .int 1), (0, .ref (xa X 165))]) hx hb dX8_renderRates_55 hl (k := 0) rfl rfl (by decide) rfl (fun ls hl => ?_)
      refine lv_goto (tgt := 10) hx hb dX8_renderRates_58 (by decide) ?_
      refine lv_iload_n hx hb dX8_renderRates_10 rfl (lv_at hl 0 rfl) ?_
      refine lv_iconst (v := 3) hx hb dX8_renderRates_11 (by decide) ?_
      refine lv_icmp_ge (tgt := 61) hx hb dX8_renderRates_12 (by decide) (fun c11 => ?_) (fun c11 => ?_)
      · exact absurd c11 (by decide)
      · refine lv_iload_n hx hb dX8_renderRates_15 rfl (lv_at hl 0 rfl) ?_
        refine lv_if_le (tgt := 29) hx hb dX8_renderRates_16 (by decide) (fun c12 => ?_) (fun c12 => ?_)
        · exact absurd c12 (by decide)
        · refine lv_aload_n hx hb dX8_renderRates_19 rfl (lv_at hl 1 rfl) ?_
          refine gf_X8_5 hx hb hE hP hown rfl (hE.w qw_323 rfl _) dX8_renderRates_20 ?_
          refine lv_bipush (v := 44) hx hb dX8_renderRates_23 (by decide) ?_
          refine call_r (run_V (cc := cX8_renderRates) (As := [.int 44]) (rest := []) hx hb hml hown hE hz (okJ4_append_cf468 X l hfl  hw) qw_797 qw_798 qw_799 qw_83 qw_800 (myJ4_append_cf468) ⟨Nat.le_of_ble_eq_true rfl, Nat.le_of_ble_eq_true rfl⟩ (rv_J4 hE hP rfl) hP hD hS rfl hl.1 rfl (Nat.le_of_ble_eq_true rfl) dX8_renderRates_25 ⟨Nat.le_of_ble_eq_true rfl, Nat.le_of_ble_eq_true rfl⟩) hS (fun r14 G13 H locs hw hP hD hS => ?_)
          obtain ⟨rfl, hw⟩ := hw
          refine lv_pop hx hb dX8_renderRates_28 rfl ?_
          refine lv_aload_n hx hb dX8_renderRates_29 rfl (lv_at hl 1 rfl) ?_
          refine gf_X8_5 hx hb hE hP hown rfl (hE.w qw_323 rfl _) dX8_renderRates_30 ?_
          refine va_ldcS hx hb hown (sr_0 hE) dX8_renderRates_33 ?_
          refine lv_iload_n hx hb dX8_renderRates_35 rfl (lv_at hl 0 rfl) ?_
          refine call_i (run_V (cc := cX8_renderRates) (As := [.int 1]) (rest := [.ref (xa X 187)]) hx hb hml hown hE hz (okJ0_charAt_5068e X l hfl (by decide) hw) qw_820 qw_821 qw_822 qw_84 qw_823 (myJ0_charAt_5068e) ⟨Nat.le_of_ble_eq_true rfl, Nat.le_of_ble_eq_true rfl⟩ (vk_recv hE.S (by decide) hS) hP hD hS rfl hl.1 rfl (Nat.le_of_ble_eq_true rfl) dX8_renderRates_36 ⟨Nat.le_of_ble_eq_true rfl, Nat.le_of_ble_eq_true rfl⟩) hS (fun r16 G15 H locs hw hP hD hS => ?_)
          refine call_r (run_V (cc := cX8_renderRates) (As := [.int r16]) (rest := []) hx hb hml hown hE hz (okJ4_append_cf468 X l hfl  hw) qw_797 qw_798 qw_799 qw_83 qw_800 (myJ4_append_cf468) ⟨Nat.le_of_ble_eq_true rfl, Nat.le_of_ble_eq_true rfl⟩ (rv_J4 hE hP rfl) hP hD hS rfl hl.1 rfl (Nat.le_of_ble_eq_true rfl) dX8_renderRates_39 ⟨Nat.le_of_ble_eq_true rfl, Nat.le_of_ble_eq_true rfl⟩) hS (fun r18 G17 H locs hw hP hD hS => ?_)
          obtain ⟨rfl, hw⟩ := hw
          refine lv_aload_n hx hb dX8_renderRates_42 rfl (lv_at hl 1 rfl) ?_
          refine gf_X8_0 hx hb hE hP hown rfl (hE.w qw_318 rfl _) dX8_renderRates_43 ?_
          refine gn_X3_1 hx hb hE hP hown rfl (hE.w qw_163 rfl _) dX8_renderRates_46 ?_
          refine lv_iload_n hx hb dX8_renderRates_49 rfl (lv_at hl 0 rfl) ?_
          obtain ⟨y19, hw⟩ := hw
          refine ald_2 hx hb hE hP (k0_2 rfl) y19 dX8_renderRates_50 ?_
          refine call_r (run_V (cc := cX8_renderRates) (As := [.int (G17.1 (0 + 2) (1 : Int32).toNatClampNeg)]) (rest := []) hx hb hml hown hE hz (okJ4_append_bf812 X l hfl  hw) qw_835 qw_586 qw_587 qw_83 qw_588 (myJ4_append_bf812) ⟨Nat.le_of_ble_eq_true rfl, Nat.le_of_ble_eq_true rfl⟩ (rv_J4 hE hP rfl) hP hD hS rfl hl.1 rfl (Nat.le_of_ble_eq_true rfl) dX8_renderRates_51 ⟨Nat.le_of_ble_eq_true rfl, Nat.le_of_ble_eq_true rfl⟩) hS (fun r21 G20 H locs hw hP hD hS => ?_)
          obtain ⟨rfl, hw⟩ := hw
          refine lv_pop hx hb dX8_renderRates_54 rfl ?_
          refine lv_iinc (v := 2) (lv' := [(1, .int 2), (0, .ref (xa X 165))]) hx hb dX8_renderRates_55 hl (k := 0) rfl rfl (by decide) rfl (fun ls hl => ?_)
          refine lv_goto (tgt := 10) hx hb dX8_renderRates_58 (by decide) ?_
          refine lv_iload_n hx hb dX8_renderRates_10 rfl (lv_at hl 0 rfl) ?_
          refine lv_iconst (v := 3) hx hb dX8_renderRates_11 (by decide) ?_
          refine lv_icmp_ge (tgt := 61) hx hb dX8_renderRates_12 (by decide) (fun c22 => ?_) (fun c22 => ?_)
          · exact absurd c22 (by decide)
          · refine lv_iload_n hx hb dX8_renderRates_15 rfl (lv_at hl 0 rfl) ?_
            refine lv_if_le (tgt := 29) hx hb dX8_renderRates_16 (by decide) (fun c23 => ?_) (fun c23 => ?_)
            · exact absurd c23 (by decide)
            · refine lv_aload_n hx hb dX8_renderRates_19 rfl (lv_at hl 1 rfl) ?_
              refine gf_X8_5 hx hb hE hP hown rfl (hE.w qw_323 rfl _) dX8_renderRates_20 ?_
              refine lv_bipush (v := 44) hx hb dX8_renderRates_23 (by decide) ?_
              refine call_r (run_V (cc := cX8_renderRates) (As := [.int 44]) (rest := []) hx hb hml hown hE hz (okJ4_append_cf468 X l hfl  hw) qw_797 qw_798 qw_799 qw_83 qw_800 (myJ4_append_cf468) ⟨Nat.le_of_ble_eq_true rfl, Nat.le_of_ble_eq_true rfl⟩ (rv_J4 hE hP rfl) hP hD hS rfl hl.1 rfl (Nat.le_of_ble_eq_true rfl) dX8_renderRates_25 ⟨Nat.le_of_ble_eq_true rfl, Nat.le_of_ble_eq_true rfl⟩) hS (fun r25 G24 H locs hw hP hD hS => ?_)
              obtain ⟨rfl, hw⟩ := hw
              refine lv_pop hx hb dX8_renderRates_28 rfl ?_
              refine lv_aload_n hx hb dX8_renderRates_29 rfl (lv_at hl 1 rfl) ?_
              refine gf_X8_5 hx hb hE hP hown rfl (hE.w qw_323 rfl _) dX8_renderRates_30 ?_
              refine va_ldcS hx hb hown (sr_0 hE) dX8_renderRates_33 ?_
              refine lv_iload_n hx hb dX8_renderRates_35 rfl (lv_at hl 0 rfl) ?_
              refine call_i (run_V (cc := cX8_renderRates) (As := [.int 2]) (rest := [.ref (xa X 187)]) hx hb hml hown hE hz (okJ0_charAt_5068e X l hfl (by decide) hw) qw_820 qw_821 qw_822 qw_84 qw_823 (myJ0_charAt_5068e) ⟨Nat.le_of_ble_eq_true rfl, Nat.le_of_ble_eq_true rfl⟩ (vk_recv hE.S (by decide) hS) hP hD hS rfl hl.1 rfl (Nat.le_of_ble_eq_true rfl) dX8_renderRates_36 ⟨Nat.le_of_ble_eq_true rfl, Nat.le_of_ble_eq_true rfl⟩) hS (fun r27 G26 H locs hw hP hD hS => ?_)
              refine call_r (run_V (cc := cX8_renderRates) (As := [.int r27]) (rest := []) hx hb hml hown hE hz (okJ4_append_cf468 X l hfl  hw) qw_797 qw_798 qw_799 qw_83 qw_800 (myJ4_append_cf468) ⟨Nat.le_of_ble_eq_true rfl, Nat.le_of_ble_eq_true rfl⟩ (rv_J4 hE hP rfl) hP hD hS rfl hl.1 rfl (Nat.le_of_ble_eq_true rfl) dX8_renderRates_39 ⟨Nat.le_of_ble_eq_true rfl, Nat.le_of_ble_eq_true rfl⟩) hS (fun r29 G28 H locs hw hP hD hS => ?_)
              obtain ⟨rfl, hw⟩ := hw
              refine lv_aload_n hx hb dX8_renderRates_42 rfl (lv_at hl 1 rfl) ?_
              refine gf_X8_0 hx hb hE hP hown rfl (hE.w qw_318 rfl _) dX8_renderRates_43 ?_
              refine gn_X3_1 hx hb hE hP hown rfl (hE.w qw_163 rfl _) dX8_renderRates_46 ?_
              refine lv_iload_n hx hb dX8_renderRates_49 rfl (lv_at hl 0 rfl) ?_
              obtain ⟨y30, hw⟩ := hw
              refine ald_2 hx hb hE hP (k0_2 rfl) y30 dX8_renderRates_50 ?_
              refine call_r (run_V (cc := cX8_renderRates) (As := [.int (G28.1 (0 + 2) (2 : Int32).toNatClampNeg)]) (rest := []) hx hb hml hown hE hz (okJ4_append_bf812 X l hfl  hw) qw_835 qw_586 qw_587 qw_83 qw_588 (myJ4_append_bf812) ⟨Nat.le_of_ble_eq_true rfl, Nat.le_of_ble_eq_true rfl⟩ (rv_J4 hE hP rfl) hP hD hS rfl hl.1 rfl (Nat.le_of_ble_eq_true rfl) dX8_renderRates_51 ⟨Nat.le_of_ble_eq_true rfl, Nat.le_of_ble_eq_true rfl⟩) hS (fun r32 G31 H locs hw hP hD hS => ?_)
              obtain ⟨rfl, hw⟩ := hw
              refine lv_pop hx hb dX8_renderRates_54 rfl ?_
              refine lv_iinc (v := 3) (lv' := [(1, .int 3), (0, .ref (xa X 165))]) hx hb dX8_renderRates_55 hl (k := 0) rfl rfl (by decide) rfl (fun ls hl => ?_)
              refine lv_goto (tgt := 10) hx hb dX8_renderRates_58 (by decide) ?_
              refine lv_iload_n hx hb dX8_renderRates_10 rfl (lv_at hl 0 rfl) ?_
              refine lv_iconst (v := 3) hx hb dX8_renderRates_11 (by decide) ?_
              refine lv_icmp_ge (tgt := 61) hx hb dX8_renderRates_12 (by decide) (fun c33 => ?_) (fun c33 => ?_)
              · refine lv_aload_n hx hb dX8_renderRates_61 rfl (lv_at hl 1 rfl) ?_
                refine gf_X8_5 hx hb hE hP hown rfl (hE.w qw_323 rfl _) dX8_renderRates_62 ?_
                refine call_i (run_V (cc := cX8_renderRates) (As := []) (rest := []) hx hb hml hown hE hz (okJ4_length_8abf5 X l hfl  hw) qw_836 qw_632 qw_2080 qw_83 qw_633 (myJ4_length_8abf5) ⟨Nat.le_of_ble_eq_true rfl, Nat.le_of_ble_eq_true rfl⟩ (rv_J4 hE hP rfl) hP hD hS rfl hl.1 rfl (Nat.le_of_ble_eq_true rfl) dX8_renderRates_65 ⟨Nat.le_of_ble_eq_true rfl, Nat.le_of_ble_eq_true rfl⟩) hS (fun r35 G34 H locs hw hP hD hS => ?_)
                exact end_i hx hb hr hlk rfl hw hP hD hS dX8_renderRates_68
              · exact absurd c33 (by decide)
    · exact absurd c3 (by decide)
def wbX8_outputAt_15 (post : Int32 → GS → Prop) (xpost : String → GS → Prop) (a1 : Int32) (G : GS) : Prop :=
  xpost "java/lang/IndexOutOfBoundsException" G
def wpX8_outputAt (post : Int32 → GS → Prop) (xpost : String → GS → Prop) (a1 : Int32) (G : GS) : Prop :=
  if a1 < 0 then
  wbX8_outputAt_15 post xpost a1 G
else
  wpJ4_length_8abf5 (fun (r3 : Int32) (G2 : GS) =>
    if a1 < r3 then
      wpJ4_charAt_5068e (fun (r6 : Int32) (G5 : GS) =>
        narrow .char (.int r6) = .int r6 ∧ post r6 G5) a1 G2
    else
      wbX8_outputAt_15 post xpost a1 G2)  G
set_option maxHeartbeats 4000000 in
set_option maxRecDepth 100000 in
theorem okX8_outputAt (X : Cx) (l : Launch) (hfl : l.stackTraces = false) {post : Int32 → GS → Prop} {xpost : String → GS → Prop} {a1 : Int32} {G : GS}  (hw : wpX8_outputAt post xpost a1 G) : CX X l yX8_outputAt cX8_outputAt 2 (some FieldType.char) 6 1 6 [.ref (xa X 165), .int a1] G (Qi X post) xpost := by
  refine xbegin (by decide) (Nat.le_of_ble_eq_true rfl) (fun p e s m below meth c hx hb hr hml hlk hown hno hE hz ls hl hP hD hS => ?_)
  have hl : lv_has ls 2 [(0, .ref (xa X 165)), (1, .int a1)] := hl
  have hown : s.vm.findClass "FlyTreasury" = some m.cls := hown
  have B15 : ∀ (G : GS) (H : Heap) (locs : List Loc) (ls : Array Slot), wbX8_outputAt_15 post xpost a1 G  → va_P (xD X) vwCl (pool X G) H → va_D (xA X) (pool X G) → va_S (xA X) s.heap H locs → lv_has ls 2 [] → W p l e (rmL 6 1 6) s m [.ref (xa X 165), .int a1].toArray below meth c H locs 0 0 (vx_MQ below (Qi X post) (XX X xpost) [.ref (xa X 165), .int a1].toArray s 1 6 (xA X)) (F0 m 15 ls []) := by
    intro G   H locs ls hw hP hD hS hl
    unfold wbX8_outputAt_15 at hw
    exact thrW_IO hx hb hfl hown hE hP hD hS hl.1 hml (sr_11 hE) (hE.w qw_884 rfl _) (hE.w qw_92 rfl _) dX8_outputAt_15 dX8_outputAt_18 dX8_outputAt_19 dX8_outputAt_22 dX8_outputAt_25 hno (by decide) (by decide) (Nat.le_of_ble_eq_true rfl) (Nat.le_of_ble_eq_true rfl) hlk hw (Nat.le_of_ble_eq_true rfl) (Nat.le_of_ble_eq_true rfl)
  unfold wpX8_outputAt at hw
  refine lv_iload_n hx hb dX8_outputAt_0 rfl (lv_at hl 1 rfl) ?_
  refine lv_if_lt (tgt := 15) hx hb dX8_outputAt_1 (by decide) (fun c1 => ?_) (fun c1 => ?_)
  · replace hw := ite_t hw c1
    exact B15 G   _ _ _ hw hP hD hS (lv_sub hl [] rfl)
  · replace hw := ite_f hw c1
    refine lv_iload_n hx hb dX8_outputAt_4 rfl (lv_at hl 1 rfl) ?_
    refine lv_aload_n hx hb dX8_outputAt_5 rfl (lv_at hl 0 rfl) ?_
    refine gf_X8_5 hx hb hE hP hown rfl (hE.w qw_323 rfl _) dX8_outputAt_6 ?_
    refine call_i (run_V (cc := cX8_outputAt) (As := []) (rest := [.int a1]) hx hb hml hown hE hz (okJ4_length_8abf5 X l hfl  hw) qw_836 qw_632 qw_2080 qw_83 qw_633 (myJ4_length_8abf5) ⟨Nat.le_of_ble_eq_true rfl, Nat.le_of_ble_eq_true rfl⟩ (rv_J4 hE hP rfl) hP hD hS rfl hl.1 rfl (Nat.le_of_ble_eq_true rfl) dX8_outputAt_9 ⟨Nat.le_of_ble_eq_true rfl, Nat.le_of_ble_eq_true rfl⟩) hS (fun r3 G2 H locs hw hP hD hS => ?_)
    refine lv_icmp_lt (tgt := 26) hx hb dX8_outputAt_12 (by decide) (fun c4 => ?_) (fun c4 => ?_)
    · replace hw := ite_t hw c4
      refine lv_aload_n hx hb dX8_outputAt_26 rfl (lv_at hl 0 rfl) ?_
      refine gf_X8_5 hx hb hE hP hown rfl (hE.w qw_323 rfl _) dX8_outputAt_27 ?_
      refine lv_iload_n hx hb dX8_outputAt_30 rfl (lv_at hl 1 rfl) ?_
      refine call_i (run_V (cc := cX8_outputAt) (As := [.int a1]) (rest := []) hx hb hml hown hE hz (okJ4_charAt_5068e X l hfl  hw) qw_1422 qw_1423 qw_1424 qw_83 qw_1425 (myJ4_charAt_5068e) ⟨Nat.le_of_ble_eq_true rfl, Nat.le_of_ble_eq_true rfl⟩ (rv_J4 hE hP rfl) hP hD hS rfl hl.1 rfl (Nat.le_of_ble_eq_true rfl) dX8_outputAt_31 ⟨Nat.le_of_ble_eq_true rfl, Nat.le_of_ble_eq_true rfl⟩) hS (fun r6 G5 H locs hw hP hD hS => ?_)
      refine W.widen (k := 1) (n := 6) (Nat.le_of_ble_eq_true rfl) (Nat.le_of_ble_eq_true rfl) ?_
      refine vx_ret ?_
      obtain ⟨y7, hw⟩ := hw
      exact end_i hx hb hr hlk y7 hw hP hD hS dX8_outputAt_34
    · replace hw := ite_f hw c4
      exact B15 G2   _ _ _ hw hP hD hS (lv_sub hl [] rfl)
