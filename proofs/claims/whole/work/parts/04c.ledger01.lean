def wbX3_refusalToSwap_56 (post : Nat → GS → Prop) (q0 : Nat) (a1 : Int32) (a2 : Int32) (a3 : Int32) (a4 : Int32) (G : GS) : Prop :=
  post 2 G
def wbX3_refusalToSwap_142 (post : Nat → GS → Prop) (q0 : Nat) (a1 : Int32) (a2 : Int32) (a3 : Int32) (a4 : Int32) (G : GS) (t0 : Int32) : Prop :=
  if t0 = 0 then
  post 4 G
else
  post 0 G
def wbX3_refusalToSwap_141 (post : Nat → GS → Prop) (q0 : Nat) (a1 : Int32) (a2 : Int32) (a3 : Int32) (a4 : Int32) (G : GS) : Prop :=
  wbX3_refusalToSwap_142 post q0 a1 a2 a3 a4 G 0
def wpX3_refusalToSwap (post : Nat → GS → Prop) (q0 : Nat) (a1 : Int32) (a2 : Int32) (a3 : Int32) (a4 : Int32) (G : GS) : Prop :=
  wpX3_hasVault (fun (r2 : Int32) (G1 : GS) =>
  if r2 = 0 then
    post 1 G1
  else
    wpJ0_indexOf_0f7a4 (fun (r5 : Int32) (G4 : GS) =>
      wpJ0_indexOf_0f7a4 (fun (r7 : Int32) (G6 : GS) =>
        if r5 < 0 then
          wbX3_refusalToSwap_56 post q0 a1 a2 a3 a4 G6
        else
          if r7 < 0 then
            wbX3_refusalToSwap_56 post q0 a1 a2 a3 a4 G6
          else
            if r5 = r7 then
              wbX3_refusalToSwap_56 post q0 a1 a2 a3 a4 G6
            else
              wpX3_within (fun (r12 : Int32) (G11 : GS) =>
                if r12 = 0 then
                  wbX3_refusalToSwap_56 post q0 a1 a2 a3 a4 G11
                else
                  vp_in a1 5 ∧
                    wpX7_frozen (fun (r16 : Int32) (G15 : GS) =>
                    if r16 = 0 then
                      vp_in r5 (ln (q0 + 2)) ∧
                        vp_in r7 (ln (q0 + 2)) ∧
                        wpX8_quotient (fun (r21 : Int32) (G20 : GS) =>
                        vp_in r5 (ln (q0 + 1 + 4 + a1.toNatClampNeg + 5)) ∧
                          if (G20.1 (q0 + 1 + 4 + a1.toNatClampNeg + 5) r5.toNatClampNeg) < a4 then
                          wbX3_refusalToSwap_141 post q0 a1 a2 a3 a4 G20
                        else
                          vp_in r7 (ln (q0 + 1 + 4 + a1.toNatClampNeg + 5)) ∧
                            if 99 < ((G20.1 (q0 + 1 + 4 + a1.toNatClampNeg + 5) r7.toNatClampNeg) + r21) then
                            wbX3_refusalToSwap_141 post q0 a1 a2 a3 a4 G20
                          else
                            wbX3_refusalToSwap_142 post q0 a1 a2 a3 a4 G20 1) ((a4 * (G15.1 (q0 + 2) r5.toNatClampNeg)) + (G15.1 (q0 + 1 + 4 + a1.toNatClampNeg) 1)) (G15.1 (q0 + 2) r7.toNatClampNeg) G15
                    else
                      post 3 G15) (q0 + 1 + 4 + a1.toNatClampNeg) G11) a4 1 30 G6) 0 a3 G4) 0 a2 G1) q0 a1 G
set_option maxHeartbeats 4000000 in
set_option maxRecDepth 100000 in
theorem okX3_refusalToSwap (X : Cx) (l : Launch) (hfl : l.stackTraces = false) {post : Nat → GS → Prop} {q0 : Nat} {a1 : Int32} {a2 : Int32} {a3 : Int32} {a4 : Int32} {G : GS} (h0 : kd q0 = 0) (hw : wpX3_refusalToSwap post q0 a1 a2 a3 a4 G) : CT X l yX3_refusalToSwap cX3_refusalToSwap 10 (some (FieldType.object "FlyTreasury$Refusal")) 5 0 0 [.ref (xa X q0), .int a1, .int a2, .int a3, .int a4] G (Qr X (xk X 0) post) := by
  refine mbegin (by decide) (Nat.le_of_ble_eq_true rfl) (fun p e s m below meth c hx hb hr hml hlk hown hE hz ls hl hP hD hS => ?_)
  have hl : lv_has ls 10 [(0, .ref (xa X q0)), (1, .int a1), (2, .int a2), (3, .int a3), (4, .int a4)] := hl
  have hown : s.vm.findClass "FlyTreasury$Ledger" = some m.cls := hown
  have B56 : ∀ (G : GS) (H : Heap) (locs : List Loc) (ls : Array Slot), wbX3_refusalToSwap_56 post q0 a1 a2 a3 a4 G  → va_P (xD X) vwCl (pool X G) H → va_D (xA X) (pool X G) → va_S (xA X) s.heap H locs → lv_has ls 10 [] → W p l e (rmL 5 0 0) s m [.ref (xa X q0), .int a1, .int a2, .int a3, .int a4].toArray below meth c H locs 0 0 (MQ below (Qr X (xk X 0) post) [.ref (xa X q0), .int a1, .int a2, .int a3, .int a4].toArray s 0 0 (xA X)) (F0 m 56 ls []) := by
    intro G   H locs ls hw hP hD hS hl
    unfold wbX3_refusalToSwap_56 at hw
    refine va_gets hx hb (en_Z0 hE (i := 2) (by decide)) hS hown (hE.w qw_867 rfl _) (fun _ h9 => h9) dX3_refusalToSwap_56 ?_
    exact end_r hx hb hr hlk (Or.inl ⟨_, rfl⟩) hw hP hD hS dX3_refusalToSwap_59
  have B142 : ∀ (G : GS) (t0 : Int32) (H : Heap) (locs : List Loc) (ls : Array Slot), wbX3_refusalToSwap_142 post q0 a1 a2 a3 a4 G t0 → va_P (xD X) vwCl (pool X G) H → va_D (xA X) (pool X G) → va_S (xA X) s.heap H locs → lv_has ls 10 [] → W p l e (rmL 5 0 0) s m [.ref (xa X q0), .int a1, .int a2, .int a3, .int a4].toArray below meth c H locs 0 0 (MQ below (Qr X (xk X 0) post) [.ref (xa X q0), .int a1, .int a2, .int a3, .int a4].toArray s 0 0 (xA X)) (F0 m 142 ls [.int t0]) := by
    intro G t0  H locs ls hw hP hD hS hl
    unfold wbX3_refusalToSwap_142 at hw
    refine lv_istore (lv' := [(9, .int t0)]) hx hb dX3_refusalToSwap_142 hl (by decide) rfl (fun ls hl => ?_)
    refine lv_iload hx hb dX3_refusalToSwap_144 (lv_at hl 0 rfl) ?_
    refine lv_if_eq (tgt := 155) hx hb dX3_refusalToSwap_146 (by decide) (fun c25 => ?_) (fun c25 => ?_)
    · replace hw := ite_t hw c25
      refine va_gets hx hb (en_Z0 hE (i := 4) (by decide)) hS hown (hE.w qw_1030 rfl _) (fun _ h9 => h9) dX3_refusalToSwap_155 ?_
      exact end_r hx hb hr hlk (Or.inl ⟨_, rfl⟩) hw hP hD hS dX3_refusalToSwap_158
    · replace hw := ite_f hw c25
      refine va_gets hx hb (en_Z0 hE (i := 0) (by decide)) hS hown (hE.w qw_871 rfl _) (fun _ h9 => h9) dX3_refusalToSwap_149 ?_
      refine lv_goto (tgt := 158) hx hb dX3_refusalToSwap_152 (by decide) ?_
      exact end_r hx hb hr hlk (Or.inl ⟨_, rfl⟩) hw hP hD hS dX3_refusalToSwap_158
  have B141 : ∀ (G : GS) (H : Heap) (locs : List Loc) (ls : Array Slot), wbX3_refusalToSwap_141 post q0 a1 a2 a3 a4 G  → va_P (xD X) vwCl (pool X G) H → va_D (xA X) (pool X G) → va_S (xA X) s.heap H locs → lv_has ls 10 [] → W p l e (rmL 5 0 0) s m [.ref (xa X q0), .int a1, .int a2, .int a3, .int a4].toArray below meth c H locs 0 0 (MQ below (Qr X (xk X 0) post) [.ref (xa X q0), .int a1, .int a2, .int a3, .int a4].toArray s 0 0 (xA X)) (F0 m 141 ls []) := by
    intro G   H locs ls hw hP hD hS hl
    unfold wbX3_refusalToSwap_141 at hw
    refine lv_iconst (v := 0) hx hb dX3_refusalToSwap_141 (by decide) ?_
    exact B142 G 0  _ _ _ hw hP hD hS (lv_sub hl [] rfl)
  unfold wpX3_refusalToSwap at hw
  refine lv_aload_n hx hb dX3_refusalToSwap_0 rfl (lv_at hl 0 rfl) ?_
  refine lv_iload_n hx hb dX3_refusalToSwap_1 rfl (lv_at hl 1 rfl) ?_
  refine call_i (run_V (cc := cX3_refusalToSwap) (As := [.int a1]) (rest := []) hx hb hml hown hE hz (okX3_hasVault X l hfl h0 hw) qw_956 qw_957 qw_958 qw_75 qw_959 (myX3_hasVault) ⟨Nat.le_of_ble_eq_true rfl, Nat.le_of_ble_eq_true rfl⟩ (rv_X3 hE hP h0) hP hD hS rfl hl.1 rfl (Nat.le_of_ble_eq_true rfl) dX3_refusalToSwap_2 ⟨Nat.le_of_ble_eq_true rfl, Nat.le_of_ble_eq_true rfl⟩) hS (fun r2 G1 H locs hw hP hD hS => ?_)
  refine lv_if_ne (tgt := 12) hx hb dX3_refusalToSwap_5 (by decide) (fun c3 => ?_) (fun c3 => ?_)
  · replace hw := ite_f hw c3
    refine va_ldcS hx hb hown (sr_5 hE) dX3_refusalToSwap_12 ?_
    refine lv_iload_n hx hb dX3_refusalToSwap_14 rfl (lv_at hl 2 rfl) ?_
    refine call_i (run_V (cc := cX3_refusalToSwap) (As := [.int a2]) (rest := []) hx hb hml hown hE hz (okJ0_indexOf_0f7a4 X l hfl (by decide) hw) qw_963 qw_964 qw_965 qw_84 qw_966 (myJ0_indexOf_0f7a4) ⟨Nat.le_of_ble_eq_true rfl, Nat.le_of_ble_eq_true rfl⟩ (vk_recv hE.S (by decide) hS) hP hD hS rfl hl.1 rfl (Nat.le_of_ble_eq_true rfl) dX3_refusalToSwap_15 ⟨Nat.le_of_ble_eq_true rfl, Nat.le_of_ble_eq_true rfl⟩) hS (fun r5 G4 H locs hw hP hD hS => ?_)
    refine lv_istore (lv' := [(5, .int r5), (0, .ref (xa X q0)), (1, .int a1), (2, .int a2), (3, .int a3), (4, .int a4)]) hx hb dX3_refusalToSwap_18 hl (by decide) rfl (fun ls hl => ?_)
    refine va_ldcS hx hb hown (sr_5 hE) dX3_refusalToSwap_20 ?_
    refine lv_iload_n hx hb dX3_refusalToSwap_22 rfl (lv_at hl 4 rfl) ?_
    refine call_i (run_V (cc := cX3_refusalToSwap) (As := [.int a3]) (rest := []) hx hb hml hown hE hz (okJ0_indexOf_0f7a4 X l hfl (by decide) hw) qw_963 qw_964 qw_965 qw_84 qw_966 (myJ0_indexOf_0f7a4) ⟨Nat.le_of_ble_eq_true rfl, Nat.le_of_ble_eq_true rfl⟩ (vk_recv hE.S (by decide) hS) hP hD hS rfl hl.1 rfl (Nat.le_of_ble_eq_true rfl) dX3_refusalToSwap_23 ⟨Nat.le_of_ble_eq_true rfl, Nat.le_of_ble_eq_true rfl⟩) hS (fun r7 G6 H locs hw hP hD hS => ?_)
    refine lv_istore (lv' := [(6, .int r7), (5, .int r5), (0, .ref (xa X q0)), (1, .int a1), (2, .int a2), (3, .int a3), (4, .int a4)]) hx hb dX3_refusalToSwap_26 hl (by decide) rfl (fun ls hl => ?_)
    refine lv_iload hx hb dX3_refusalToSwap_28 (lv_at hl 1 rfl) ?_
    refine lv_if_lt (tgt := 56) hx hb dX3_refusalToSwap_30 (by decide) (fun c8 => ?_) (fun c8 => ?_)
    · replace hw := ite_t hw c8
      exact B56 G6   _ _ _ hw hP hD hS (lv_sub hl [] rfl)
    · replace hw := ite_f hw c8
      refine lv_iload hx hb dX3_refusalToSwap_33 (lv_at hl 0 rfl) ?_
      refine lv_if_lt (tgt := 56) hx hb dX3_refusalToSwap_35 (by decide) (fun c9 => ?_) (fun c9 => ?_)
      · replace hw := ite_t hw c9
        exact B56 G6   _ _ _ hw hP hD hS (lv_sub hl [] rfl)
      · replace hw := ite_f hw c9
        refine lv_iload hx hb dX3_refusalToSwap_38 (lv_at hl 1 rfl) ?_
        refine lv_iload hx hb dX3_refusalToSwap_40 (lv_at hl 0 rfl) ?_
        refine lv_icmp_eq (tgt := 56) hx hb dX3_refusalToSwap_42 (by decide) (fun c10 => ?_) (fun c10 => ?_)
        · replace hw := ite_t hw c10
          exact B56 G6   _ _ _ hw hP hD hS (lv_sub hl [] rfl)
        · replace hw := ite_f hw c10
          refine lv_iload hx hb dX3_refusalToSwap_45 (lv_at hl 6 rfl) ?_
          refine lv_iconst (v := 1) hx hb dX3_refusalToSwap_47 (by decide) ?_
          refine lv_bipush (v := 30) hx hb dX3_refusalToSwap_48 (by decide) ?_
          refine call_i (run_S (cc := cX3_refusalToSwap) (As := [.int a4, .int 1, .int 30]) (rest := []) hx hb hml hown hE hz (okX3_within X l hfl  hw) qw_864 qw_865 qw_75 qw_866 (myX3_within).2 ⟨Nat.le_of_ble_eq_true rfl, Nat.le_of_ble_eq_true rfl⟩ hP hD hS rfl hl.1 rfl (Nat.le_of_ble_eq_true rfl) dX3_refusalToSwap_50 ⟨Nat.le_of_ble_eq_true rfl, Nat.le_of_ble_eq_true rfl⟩) hS (fun r12 G11 H locs hw hP hD hS => ?_)
          refine lv_if_ne (tgt := 60) hx hb dX3_refusalToSwap_53 (by decide) (fun c13 => ?_) (fun c13 => ?_)
          · replace hw := ite_f hw c13
            refine lv_aload_n hx hb dX3_refusalToSwap_60 rfl (lv_at hl 2 rfl) ?_
            refine gf_X3_0 hx hb hE hP hown h0 (hE.w qw_160 rfl _) dX3_refusalToSwap_61 ?_
            refine lv_iload_n hx hb dX3_refusalToSwap_64 rfl (lv_at hl 3 rfl) ?_
            obtain ⟨y14, hw⟩ := hw
            refine ald_1 hx hb hE hP (k0_1 h0) y14 dX3_refusalToSwap_65 ?_
            refine lv_astore (lv' := [(7, .ref (xa X (q0 + 1 + 4 + a1.toNatClampNeg))), (6, .int r7), (5, .int r5), (0, .ref (xa X q0)), (1, .int a1), (2, .int a2), (3, .int a3), (4, .int a4)]) hx hb dX3_refusalToSwap_66 hl (by decide) rfl (fun ls hl => ?_)
            refine lv_aload hx hb dX3_refusalToSwap_68 (lv_at hl 0 rfl) ?_
            refine call_i (run_V (cc := cX3_refusalToSwap) (As := []) (rest := []) hx hb hml hown hE hz (okX7_frozen X l hfl (k1_e (k0_1 h0) y14) hw) qw_1025 qw_1026 qw_1027 qw_76 qw_1028 (myX7_frozen) ⟨Nat.le_of_ble_eq_true rfl, Nat.le_of_ble_eq_true rfl⟩ (rv_X7 hE hP (k1_e (k0_1 h0) y14)) hP hD hS rfl hl.1 rfl (Nat.le_of_ble_eq_true rfl) dX3_refusalToSwap_70 ⟨Nat.le_of_ble_eq_true rfl, Nat.le_of_ble_eq_true rfl⟩) hS (fun r16 G15 H locs hw hP hD hS => ?_)
            refine lv_if_eq (tgt := 80) hx hb dX3_refusalToSwap_73 (by decide) (fun c17 => ?_) (fun c17 => ?_)
            · replace hw := ite_t hw c17
              refine lv_iload hx hb dX3_refusalToSwap_80 (lv_at hl 7 rfl) ?_
              refine lv_aload_n hx hb dX3_refusalToSwap_82 rfl (lv_at hl 3 rfl) ?_
              refine gf_X3_1 hx hb hE hP hown h0 (hE.w qw_162 rfl _) dX3_refusalToSwap_83 ?_
              refine lv_iload hx hb dX3_refusalToSwap_86 (lv_at hl 2 rfl) ?_
              obtain ⟨y18, hw⟩ := hw
              refine ald_2 hx hb hE hP (k0_2 h0) y18 dX3_refusalToSwap_88 ?_
              refine lv_imul hx hb dX3_refusalToSwap_89 ?_
              refine lv_aload hx hb dX3_refusalToSwap_90 (lv_at hl 0 rfl) ?_
              refine gn_X7_1 hx hb hE hP hown (k1_e (k0_1 h0) y14) (hE.w qw_134 rfl _) dX3_refusalToSwap_92 ?_
              refine lv_iadd hx hb dX3_refusalToSwap_95 ?_
              refine lv_aload_n hx hb dX3_refusalToSwap_96 rfl (lv_at hl 3 rfl) ?_
              refine gf_X3_1 hx hb hE hP hown h0 (hE.w qw_162 rfl _) dX3_refusalToSwap_97 ?_
              refine lv_iload hx hb dX3_refusalToSwap_100 (lv_at hl 1 rfl) ?_
              obtain ⟨y19, hw⟩ := hw
              refine ald_2 hx hb hE hP (k0_2 h0) y19 dX3_refusalToSwap_102 ?_
              refine call_i (run_SN (cc := cX3_refusalToSwap) (As := [.int ((a4 * (G15.1 (q0 + 2) r5.toNatClampNeg)) + (G15.1 (q0 + 1 + 4 + a1.toNatClampNeg) 1)), .int (G15.1 (q0 + 2) r7.toNatClampNeg)]) (rest := []) hx hb hml hown hE hz (okX8_quotient X l hfl  hw) qw_1047 qw_1048 qw_74 qw_1049 (myX8_quotient).2 ⟨Nat.le_of_ble_eq_true rfl, Nat.le_of_ble_eq_true rfl⟩ hP hD hS rfl hl.1 rfl (Nat.le_of_ble_eq_true rfl) dX3_refusalToSwap_103 ⟨Nat.le_of_ble_eq_true rfl, Nat.le_of_ble_eq_true rfl⟩) hS (fun r21 G20 H locs hw hP hD hS => ?_)
              refine lv_istore (lv' := [(8, .int r21), (7, .ref (xa X (q0 + 1 + 4 + a1.toNatClampNeg))), (6, .int r7), (5, .int r5), (0, .ref (xa X q0)), (1, .int a1), (2, .int a2), (3, .int a3), (4, .int a4)]) hx hb dX3_refusalToSwap_106 hl (by decide) rfl (fun ls hl => ?_)
              refine lv_aload hx hb dX3_refusalToSwap_108 (lv_at hl 1 rfl) ?_
              refine gn_X7_0 hx hb hE hP hown (k1_e (k0_1 h0) y14) (hE.w qw_131 rfl _) dX3_refusalToSwap_110 ?_
              refine lv_iload hx hb dX3_refusalToSwap_113 (lv_at hl 3 rfl) ?_
              obtain ⟨y22, hw⟩ := hw
              refine ald_2 hx hb hE hP (k3_5 (k1_e (k0_1 h0) y14)) y22 dX3_refusalToSwap_115 ?_
              refine lv_iload hx hb dX3_refusalToSwap_116 (lv_at hl 8 rfl) ?_
              refine lv_icmp_lt (tgt := 141) hx hb dX3_refusalToSwap_118 (by decide) (fun c23 => ?_) (fun c23 => ?_)
              · replace hw := ite_t hw c23
                exact B141 G20   _ _ _ hw hP hD hS (lv_sub hl [] rfl)
              · replace hw := ite_f hw c23
                refine lv_aload hx hb dX3_refusalToSwap_121 (lv_at hl 1 rfl) ?_
                refine gn_X7_0 hx hb hE hP hown (k1_e (k0_1 h0) y14) (hE.w qw_131 rfl _) dX3_refusalToSwap_123 ?_
                refine lv_iload hx hb dX3_refusalToSwap_126 (lv_at hl 2 rfl) ?_
                obtain ⟨y26, hw⟩ := hw
                refine ald_2 hx hb hE hP (k3_5 (k1_e (k0_1 h0) y14)) y26 dX3_refusalToSwap_128 ?_
                refine lv_iload hx hb dX3_refusalToSwap_129 (lv_at hl 0 rfl) ?_
                refine lv_iadd hx hb dX3_refusalToSwap_131 ?_
                refine lv_bipush (v := 99) hx hb dX3_refusalToSwap_132 (by decide) ?_
                refine lv_icmp_gt (tgt := 141) hx hb dX3_refusalToSwap_134 (by decide) (fun c27 => ?_) (fun c27 => ?_)
                · replace hw := ite_t hw c27
                  exact B141 G20   _ _ _ hw hP hD hS (lv_sub hl [] rfl)
                · replace hw := ite_f hw c27
                  refine lv_iconst (v := 1) hx hb dX3_refusalToSwap_137 (by decide) ?_
                  refine lv_goto (tgt := 142) hx hb dX3_refusalToSwap_138 (by decide) ?_
                  exact B142 G20 1  _ _ _ hw hP hD hS (lv_sub hl [] rfl)
            · replace hw := ite_f hw c17
              refine va_gets hx hb (en_Z0 hE (i := 3) (by decide)) hS hown (hE.w qw_869 rfl _) (fun _ h9 => h9) dX3_refusalToSwap_76 ?_
              exact end_r hx hb hr hlk (Or.inl ⟨_, rfl⟩) hw hP hD hS dX3_refusalToSwap_79
          · replace hw := ite_t hw c13
            exact B56 G11   _ _ _ hw hP hD hS (lv_sub hl [] rfl)
  · replace hw := ite_t hw c3
    refine va_gets hx hb (en_Z0 hE (i := 1) (by decide)) hS hown (hE.w qw_960 rfl _) (fun _ h9 => h9) dX3_refusalToSwap_8 ?_
    exact end_r hx hb hr hlk (Or.inl ⟨_, rfl⟩) hw hP hD hS dX3_refusalToSwap_11
def wpX3_swap (post : Int32 → GS → Prop) (q0 : Nat) (a1 : Int32) (a2 : Int32) (a3 : Int32) (a4 : Int32) (G : GS) : Prop :=
  wpJ0_indexOf_0f7a4 (fun (r2 : Int32) (G1 : GS) =>
  wpJ0_indexOf_0f7a4 (fun (r4 : Int32) (G3 : GS) =>
    vp_in a1 5 ∧
      vp_in r2 (ln (q0 + 2)) ∧
      ∀ z7 : Int32, z7 = ((a4 * (G3.1 (q0 + 2) r2.toNatClampNeg)) + (G3.1 (q0 + 1 + 4 + a1.toNatClampNeg) 1)) →
      vp_in r4 (ln (q0 + 2)) ∧
      wpX8_quotient (fun (r10 : Int32) (G9 : GS) =>
      vp_in r2 (ln (q0 + 1 + 4 + a1.toNatClampNeg + 5)) ∧
        vp_in r2 (ln (q0 + 1 + 4 + a1.toNatClampNeg + 5)) ∧ ∀ G13 : GS, G13 = gI G9 (q0 + 1 + 4 + a1.toNatClampNeg + 5) r2.toNatClampNeg ((G9.1 (q0 + 1 + 4 + a1.toNatClampNeg + 5) r2.toNatClampNeg) - a4) →
        vp_in r4 (ln (q0 + 1 + 4 + a1.toNatClampNeg + 5)) ∧
        vp_in r4 (ln (q0 + 1 + 4 + a1.toNatClampNeg + 5)) ∧ ∀ G16 : GS, G16 = gI G13 (q0 + 1 + 4 + a1.toNatClampNeg + 5) r4.toNatClampNeg ((G13.1 (q0 + 1 + 4 + a1.toNatClampNeg + 5) r4.toNatClampNeg) + r10) →
        vp_in r4 (ln (q0 + 2)) ∧
        ∀ G18 : GS, G18 = gI G16 (q0 + 1 + 4 + a1.toNatClampNeg) 1 (z7 - (r10 * (G16.1 (q0 + 2) r4.toNatClampNeg))) →
        vp_in r2 (ln (q0 + 4)) ∧
        vp_in r2 (ln (q0 + 4)) ∧ ∀ G21 : GS, G21 = gI G18 (q0 + 4) r2.toNatClampNeg ((G18.1 (q0 + 4) r2.toNatClampNeg) + a4) →
        vp_in r4 (ln (q0 + 3)) ∧
        vp_in r4 (ln (q0 + 3)) ∧ ∀ G24 : GS, G24 = gI G21 (q0 + 3) r4.toNatClampNeg ((G21.1 (q0 + 3) r4.toNatClampNeg) + r10) →
        post r10 G24) z7 (G3.1 (q0 + 2) r4.toNatClampNeg) G3) 0 a3 G1) 0 a2 G
set_option maxHeartbeats 4000000 in
set_option maxRecDepth 100000 in
theorem okX3_swap (X : Cx) (l : Launch) (hfl : l.stackTraces = false) {post : Int32 → GS → Prop} {q0 : Nat} {a1 : Int32} {a2 : Int32} {a3 : Int32} {a4 : Int32} {G : GS} (h0 : kd q0 = 0) (hw : wpX3_swap post q0 a1 a2 a3 a4 G) : CT X l yX3_swap cX3_swap 10 (some FieldType.int) 5 0 0 [.ref (xa X q0), .int a1, .int a2, .int a3, .int a4] G (Qi X post) := by
  refine mbegin (by decide) (Nat.le_of_ble_eq_true rfl) (fun p e s m below meth c hx hb hr hml hlk hown hE hz ls hl hP hD hS => ?_)
  have hl : lv_has ls 10 [(0, .ref (xa X q0)), (1, .int a1), (2, .int a2), (3, .int a3), (4, .int a4)] := hl
  have hown : s.vm.findClass "FlyTreasury$Ledger" = some m.cls := hown
  unfold wpX3_swap at hw
  refine va_ldcS hx hb hown (sr_5 hE) dX3_swap_0 ?_
  refine lv_iload_n hx hb dX3_swap_2 rfl (lv_at hl 2 rfl) ?_
  refine call_i (run_V (cc := cX3_swap) (As := [.int a2]) (rest := []) hx hb hml hown hE hz (okJ0_indexOf_0f7a4 X l hfl (by decide) hw) qw_963 qw_964 qw_965 qw_84 qw_966 (myJ0_indexOf_0f7a4) ⟨Nat.le_of_ble_eq_true rfl, Nat.le_of_ble_eq_true rfl⟩ (vk_recv hE.S (by decide) hS) hP hD hS rfl hl.1 rfl (Nat.le_of_ble_eq_true rfl) dX3_swap_3 ⟨Nat.le_of_ble_eq_true rfl, Nat.le_of_ble_eq_true rfl⟩) hS (fun r2 G1 H locs hw hP hD hS => ?_)
  refine lv_istore (lv' := [(5, .int r2), (0, .ref (xa X q0)), (1, .int a1), (2, .int a2), (3, .int a3), (4, .int a4)]) hx hb dX3_swap_6 hl (by decide) rfl (fun ls hl => ?_)
  refine va_ldcS hx hb hown (sr_5 hE) dX3_swap_8 ?_
  refine lv_iload_n hx hb dX3_swap_10 rfl (lv_at hl 4 rfl) ?_
  refine call_i (run_V (cc := cX3_swap) (As := [.int a3]) (rest := []) hx hb hml hown hE hz (okJ0_indexOf_0f7a4 X l hfl (by decide) hw) qw_963 qw_964 qw_965 qw_84 qw_966 (myJ0_indexOf_0f7a4) ⟨Nat.le_of_ble_eq_true rfl, Nat.le_of_ble_eq_true rfl⟩ (vk_recv hE.S (by decide) hS) hP hD hS rfl hl.1 rfl (Nat.le_of_ble_eq_true rfl) dX3_swap_11 ⟨Nat.le_of_ble_eq_true rfl, Nat.le_of_ble_eq_true rfl⟩) hS (fun r4 G3 H locs hw hP hD hS => ?_)
  refine lv_istore (lv' := [(6, .int r4), (5, .int r2), (0, .ref (xa X q0)), (1, .int a1), (2, .int a2), (3, .int a3), (4, .int a4)]) hx hb dX3_swap_14 hl (by decide) rfl (fun ls hl => ?_)
  refine lv_aload_n hx hb dX3_swap_16 rfl (lv_at hl 2 rfl) ?_
  refine gf_X3_0 hx hb hE hP hown h0 (hE.w qw_160 rfl _) dX3_swap_17 ?_
  refine lv_iload_n hx hb dX3_swap_20 rfl (lv_at hl 3 rfl) ?_
  obtain ⟨y5, hw⟩ := hw
  refine ald_1 hx hb hE hP (k0_1 h0) y5 dX3_swap_21 ?_
  refine lv_astore (lv' := [(7, .ref (xa X (q0 + 1 + 4 + a1.toNatClampNeg))), (6, .int r4), (5, .int r2), (0, .ref (xa X q0)), (1, .int a1), (2, .int a2), (3, .int a3), (4, .int a4)]) hx hb dX3_swap_22 hl (by decide) rfl (fun ls hl => ?_)
  refine lv_iload hx hb dX3_swap_24 (lv_at hl 7 rfl) ?_
  refine lv_aload_n hx hb dX3_swap_26 rfl (lv_at hl 3 rfl) ?_
  refine gf_X3_1 hx hb hE hP hown h0 (hE.w qw_162 rfl _) dX3_swap_27 ?_
  refine lv_iload hx hb dX3_swap_30 (lv_at hl 2 rfl) ?_
  obtain ⟨y6, hw⟩ := hw
  refine ald_2 hx hb hE hP (k0_2 h0) y6 dX3_swap_32 ?_
  refine lv_imul hx hb dX3_swap_33 ?_
  refine lv_aload hx hb dX3_swap_34 (lv_at hl 0 rfl) ?_
  refine gn_X7_1 hx hb hE hP hown (k1_e (k0_1 h0) y5) (hE.w qw_134 rfl _) dX3_swap_36 ?_
  refine lv_iadd hx hb dX3_swap_39 ?_
  refine lv_topi (fun z7 ez7 => ?_)
  replace hw := hw z7 ez7
  refine lv_istore (lv' := [(8, .int z7), (7, .ref (xa X (q0 + 1 + 4 + a1.toNatClampNeg))), (6, .int r4), (5, .int r2), (0, .ref (xa X q0)), (1, .int a1), (2, .int a2), (3, .int a3), (4, .int a4)]) hx hb dX3_swap_40 hl (by decide) rfl (fun ls hl => ?_)
  refine lv_iload hx hb dX3_swap_42 (lv_at hl 0 rfl) ?_
  refine lv_aload_n hx hb dX3_swap_44 rfl (lv_at hl 4 rfl) ?_
  refine gf_X3_1 hx hb hE hP hown h0 (hE.w qw_162 rfl _) dX3_swap_45 ?_
  refine lv_iload hx hb dX3_swap_48 (lv_at hl 2 rfl) ?_
  obtain ⟨y8, hw⟩ := hw
  refine ald_2 hx hb hE hP (k0_2 h0) y8 dX3_swap_50 ?_
  refine call_i (run_SN (cc := cX3_swap) (As := [.int z7, .int (G3.1 (q0 + 2) r4.toNatClampNeg)]) (rest := []) hx hb hml hown hE hz (okX8_quotient X l hfl  hw) qw_1047 qw_1048 qw_74 qw_1049 (myX8_quotient).2 ⟨Nat.le_of_ble_eq_true rfl, Nat.le_of_ble_eq_true rfl⟩ hP hD hS rfl hl.1 rfl (Nat.le_of_ble_eq_true rfl) dX3_swap_51 ⟨Nat.le_of_ble_eq_true rfl, Nat.le_of_ble_eq_true rfl⟩) hS (fun r10 G9 H locs hw hP hD hS => ?_)
  refine lv_istore (lv' := [(9, .int r10), (8, .int z7), (7, .ref (xa X (q0 + 1 + 4 + a1.toNatClampNeg))), (6, .int r4), (5, .int r2), (0, .ref (xa X q0)), (1, .int a1), (2, .int a2), (3, .int a3), (4, .int a4)]) hx hb dX3_swap_54 hl (by decide) rfl (fun ls hl => ?_)
  refine lv_aload hx hb dX3_swap_56 (lv_at hl 2 rfl) ?_
  refine gn_X7_0 hx hb hE hP hown (k1_e (k0_1 h0) y5) (hE.w qw_131 rfl _) dX3_swap_58 ?_
  refine lv_iload hx hb dX3_swap_61 (lv_at hl 4 rfl) ?_
  refine lv_dup2_11 hx hb dX3_swap_63 rfl rfl ?_
  obtain ⟨y11, hw⟩ := hw
  refine ald_2 hx hb hE hP (k3_5 (k1_e (k0_1 h0) y5)) y11 dX3_swap_64 ?_
  refine lv_iload hx hb dX3_swap_65 (lv_at hl 9 rfl) ?_
  refine lv_isub hx hb dX3_swap_67 ?_
  obtain ⟨y12, hw⟩ := hw
  refine ast_2 hx hb hE hP hD hS (k3_5 (k1_e (k0_1 h0) y5)) y12 dX3_swap_68 (fun G13 H locs eG13 hP hD hS => ?_)
  replace hw := hw G13 eG13
  refine lv_aload hx hb dX3_swap_69 (lv_at hl 2 rfl) ?_
  refine gn_X7_0 hx hb hE hP hown (k1_e (k0_1 h0) y5) (hE.w qw_131 rfl _) dX3_swap_71 ?_
  refine lv_iload hx hb dX3_swap_74 (lv_at hl 3 rfl) ?_
  refine lv_dup2_11 hx hb dX3_swap_76 rfl rfl ?_
  obtain ⟨y14, hw⟩ := hw
  refine ald_2 hx hb hE hP (k3_5 (k1_e (k0_1 h0) y5)) y14 dX3_swap_77 ?_
  refine lv_iload hx hb dX3_swap_78 (lv_at hl 0 rfl) ?_
  refine lv_iadd hx hb dX3_swap_80 ?_
  obtain ⟨y15, hw⟩ := hw
  refine ast_2 hx hb hE hP hD hS (k3_5 (k1_e (k0_1 h0) y5)) y15 dX3_swap_81 (fun G16 H locs eG16 hP hD hS => ?_)
  replace hw := hw G16 eG16
  refine lv_aload hx hb dX3_swap_82 (lv_at hl 2 rfl) ?_
  refine lv_iload hx hb dX3_swap_84 (lv_at hl 1 rfl) ?_
  refine lv_iload hx hb dX3_swap_86 (lv_at hl 0 rfl) ?_
  refine lv_aload_n hx hb dX3_swap_88 rfl (lv_at hl 5 rfl) ?_
  refine gf_X3_1 hx hb hE hP hown h0 (hE.w qw_162 rfl _) dX3_swap_89 ?_
  refine lv_iload hx hb dX3_swap_92 (lv_at hl 3 rfl) ?_
  obtain ⟨y17, hw⟩ := hw
  refine ald_2 hx hb hE hP (k0_2 h0) y17 dX3_swap_94 ?_
  refine lv_imul hx hb dX3_swap_95 ?_
  refine lv_isub hx hb dX3_swap_96 ?_
  refine pn_X7_1 hx hb hE hP hD hS hown (k1_e (k0_1 h0) y5) (hE.w qw_134 rfl _) dX3_swap_97 (fun G18 H locs eG18 hP hD hS => ?_)
  replace hw := hw G18 eG18
  refine lv_aload_n hx hb dX3_swap_100 rfl (lv_at hl 5 rfl) ?_
  refine gf_X3_3 hx hb hE hP hown h0 (hE.w qw_165 rfl _) dX3_swap_101 ?_
  refine lv_iload hx hb dX3_swap_104 (lv_at hl 4 rfl) ?_
  refine lv_dup2_11 hx hb dX3_swap_106 rfl rfl ?_
  obtain ⟨y19, hw⟩ := hw
  refine ald_2 hx hb hE hP (k0_4 h0) y19 dX3_swap_107 ?_
  refine lv_iload hx hb dX3_swap_108 (lv_at hl 9 rfl) ?_
  refine lv_iadd hx hb dX3_swap_110 ?_
  obtain ⟨y20, hw⟩ := hw
  refine ast_2 hx hb hE hP hD hS (k0_4 h0) y20 dX3_swap_111 (fun G21 H locs eG21 hP hD hS => ?_)
  replace hw := hw G21 eG21
  refine lv_aload_n hx hb dX3_swap_112 rfl (lv_at hl 5 rfl) ?_
  refine gf_X3_2 hx hb hE hP hown h0 (hE.w qw_164 rfl _) dX3_swap_113 ?_
  refine lv_iload hx hb dX3_swap_116 (lv_at hl 3 rfl) ?_
  refine lv_dup2_11 hx hb dX3_swap_118 rfl rfl ?_
  obtain ⟨y22, hw⟩ := hw
  refine ald_2 hx hb hE hP (k0_3 h0) y22 dX3_swap_119 ?_
  refine lv_iload hx hb dX3_swap_120 (lv_at hl 0 rfl) ?_
  refine lv_iadd hx hb dX3_swap_122 ?_
  obtain ⟨y23, hw⟩ := hw
  refine ast_2 hx hb hE hP hD hS (k0_3 h0) y23 dX3_swap_123 (fun G24 H locs eG24 hP hD hS => ?_)
  replace hw := hw G24 eG24
  refine lv_iload hx hb dX3_swap_124 (lv_at hl 0 rfl) ?_
  exact end_i hx hb hr hlk rfl hw hP hD hS dX3_swap_126
def wpX3_refusalToIssue (post : Nat → GS → Prop) (q0 : Nat) (a1 : Int32) (a2 : Int32) (G : GS) : Prop :=
  wpX3_hasVault (fun (r2 : Int32) (G1 : GS) =>
  if r2 = 0 then
    post 1 G1
  else
    wpX3_within (fun (r5 : Int32) (G4 : GS) =>
      if r5 = 0 then
        post 2 G4
      else
        vp_in a1 5 ∧
          wpX7_frozen (fun (r9 : Int32) (G8 : GS) =>
          if r9 = 0 then
            vp_in a1 5 ∧
              wpX7_dropsFreeAt (fun (r13 : Int32) (G12 : GS) =>
              if a2 ≤ r13 then
                post 0 G12
              else
                post 4 G12) (q0 + 1 + 4 + a1.toNatClampNeg) (q0 + 2) G8
          else
            post 3 G8) (q0 + 1 + 4 + a1.toNatClampNeg) G4) a2 1 99 G1) q0 a1 G
set_option maxHeartbeats 4000000 in
set_option maxRecDepth 100000 in
theorem okX3_refusalToIssue (X : Cx) (l : Launch) (hfl : l.stackTraces = false) {post : Nat → GS → Prop} {q0 : Nat} {a1 : Int32} {a2 : Int32} {G : GS} (h0 : kd q0 = 0) (hw : wpX3_refusalToIssue post q0 a1 a2 G) : CT X l yX3_refusalToIssue cX3_refusalToIssue 3 (some (FieldType.object "FlyTreasury$Refusal")) 4 0 0 [.ref (xa X q0), .int a1, .int a2] G (Qr X (xk X 0) post) := by
  refine mbegin (by decide) (Nat.le_of_ble_eq_true rfl) (fun p e s m below meth c hx hb hr hml hlk hown hE hz ls hl hP hD hS => ?_)
  have hl : lv_has ls 3 [(0, .ref (xa X q0)), (1, .int a1), (2, .int a2)] := hl
  have hown : s.vm.findClass "FlyTreasury$Ledger" = some m.cls := hown
  unfold wpX3_refusalToIssue at hw
  refine lv_aload_n hx hb dX3_refusalToIssue_0 rfl (lv_at hl 0 rfl) ?_
  refine lv_iload_n hx hb dX3_refusalToIssue_1 rfl (lv_at hl 1 rfl) ?_
  refine call_i (run_V (cc := cX3_refusalToIssue) (As := [.int a1]) (rest := []) hx hb hml hown hE hz (okX3_hasVault X l hfl h0 hw) qw_956 qw_957 qw_958 qw_75 qw_959 (myX3_hasVault) ⟨Nat.le_of_ble_eq_true rfl, Nat.le_of_ble_eq_true rfl⟩ (rv_X3 hE hP h0) hP hD hS rfl hl.1 rfl (Nat.le_of_ble_eq_true rfl) dX3_refusalToIssue_2 ⟨Nat.le_of_ble_eq_true rfl, Nat.le_of_ble_eq_true rfl⟩) hS (fun r2 G1 H locs hw hP hD hS => ?_)
  refine lv_if_ne (tgt := 12) hx hb dX3_refusalToIssue_5 (by decide) (fun c3 => ?_) (fun c3 => ?_)
  · replace hw := ite_f hw c3
    refine lv_iload_n hx hb dX3_refusalToIssue_12 rfl (lv_at hl 2 rfl) ?_
    refine lv_iconst (v := 1) hx hb dX3_refusalToIssue_13 (by decide) ?_
    refine lv_bipush (v := 99) hx hb dX3_refusalToIssue_14 (by decide) ?_
    refine call_i (run_S (cc := cX3_refusalToIssue) (As := [.int a2, .int 1, .int 99]) (rest := []) hx hb hml hown hE hz (okX3_within X l hfl  hw) qw_864 qw_865 qw_75 qw_866 (myX3_within).2 ⟨Nat.le_of_ble_eq_true rfl, Nat.le_of_ble_eq_true rfl⟩ hP hD hS rfl hl.1 rfl (Nat.le_of_ble_eq_true rfl) dX3_refusalToIssue_16 ⟨Nat.le_of_ble_eq_true rfl, Nat.le_of_ble_eq_true rfl⟩) hS (fun r5 G4 H locs hw hP hD hS => ?_)
    refine lv_if_ne (tgt := 26) hx hb dX3_refusalToIssue_19 (by decide) (fun c6 => ?_) (fun c6 => ?_)
    · replace hw := ite_f hw c6
      refine lv_aload_n hx hb dX3_refusalToIssue_26 rfl (lv_at hl 0 rfl) ?_
      refine gf_X3_0 hx hb hE hP hown h0 (hE.w qw_160 rfl _) dX3_refusalToIssue_27 ?_
      refine lv_iload_n hx hb dX3_refusalToIssue_30 rfl (lv_at hl 1 rfl) ?_
      obtain ⟨y7, hw⟩ := hw
      refine ald_1 hx hb hE hP (k0_1 h0) y7 dX3_refusalToIssue_31 ?_
      refine call_i (run_V (cc := cX3_refusalToIssue) (As := []) (rest := []) hx hb hml hown hE hz (okX7_frozen X l hfl (k1_e (k0_1 h0) y7) hw) qw_1025 qw_1026 qw_1027 qw_76 qw_1028 (myX7_frozen) ⟨Nat.le_of_ble_eq_true rfl, Nat.le_of_ble_eq_true rfl⟩ (rv_X7 hE hP (k1_e (k0_1 h0) y7)) hP hD hS rfl hl.1 rfl (Nat.le_of_ble_eq_true rfl) dX3_refusalToIssue_32 ⟨Nat.le_of_ble_eq_true rfl, Nat.le_of_ble_eq_true rfl⟩) hS (fun r9 G8 H locs hw hP hD hS => ?_)
      refine lv_if_eq (tgt := 42) hx hb dX3_refusalToIssue_35 (by decide) (fun c10 => ?_) (fun c10 => ?_)
      · replace hw := ite_t hw c10
        refine lv_iload_n hx hb dX3_refusalToIssue_42 rfl (lv_at hl 2 rfl) ?_
        refine lv_aload_n hx hb dX3_refusalToIssue_43 rfl (lv_at hl 0 rfl) ?_
        refine gf_X3_0 hx hb hE hP hown h0 (hE.w qw_160 rfl _) dX3_refusalToIssue_44 ?_
        refine lv_iload_n hx hb dX3_refusalToIssue_47 rfl (lv_at hl 1 rfl) ?_
        obtain ⟨y11, hw⟩ := hw
        refine ald_1 hx hb hE hP (k0_1 h0) y11 dX3_refusalToIssue_48 ?_
        refine lv_aload_n hx hb dX3_refusalToIssue_49 rfl (lv_at hl 0 rfl) ?_
        refine gf_X3_1 hx hb hE hP hown h0 (hE.w qw_162 rfl _) dX3_refusalToIssue_50 ?_
        refine call_i (run_V (cc := cX3_refusalToIssue) (As := [.ref (xa X (q0 + 2))]) (rest := [.int a2]) hx hb hml hown hE hz (okX7_dropsFreeAt X l hfl (k1_e (k0_1 h0) y11) (k0_2 h0) hw) qw_1065 qw_1066 qw_1067 qw_76 qw_1068 (myX7_dropsFreeAt) ⟨Nat.le_of_ble_eq_true rfl, Nat.le_of_ble_eq_true rfl⟩ (rv_X7 hE hP (k1_e (k0_1 h0) y11)) hP hD hS rfl hl.1 rfl (Nat.le_of_ble_eq_true rfl) dX3_refusalToIssue_53 ⟨Nat.le_of_ble_eq_true rfl, Nat.le_of_ble_eq_true rfl⟩) hS (fun r13 G12 H locs hw hP hD hS => ?_)
        refine lv_icmp_le (tgt := 65) hx hb dX3_refusalToIssue_56 (by decide) (fun c14 => ?_) (fun c14 => ?_)
        · replace hw := ite_t hw c14
          refine va_gets hx hb (en_Z0 hE (i := 0) (by decide)) hS hown (hE.w qw_871 rfl _) (fun _ h9 => h9) dX3_refusalToIssue_65 ?_
          exact end_r hx hb hr hlk (Or.inl ⟨_, rfl⟩) hw hP hD hS dX3_refusalToIssue_68
        · replace hw := ite_f hw c14
          refine va_gets hx hb (en_Z0 hE (i := 4) (by decide)) hS hown (hE.w qw_1030 rfl _) (fun _ h9 => h9) dX3_refusalToIssue_59 ?_
          refine lv_goto (tgt := 68) hx hb dX3_refusalToIssue_62 (by decide) ?_
          exact end_r hx hb hr hlk (Or.inl ⟨_, rfl⟩) hw hP hD hS dX3_refusalToIssue_68
      · replace hw := ite_f hw c10
        refine va_gets hx hb (en_Z0 hE (i := 3) (by decide)) hS hown (hE.w qw_869 rfl _) (fun _ h9 => h9) dX3_refusalToIssue_38 ?_
        exact end_r hx hb hr hlk (Or.inl ⟨_, rfl⟩) hw hP hD hS dX3_refusalToIssue_41
    · replace hw := ite_t hw c6
      refine va_gets hx hb (en_Z0 hE (i := 2) (by decide)) hS hown (hE.w qw_867 rfl _) (fun _ h9 => h9) dX3_refusalToIssue_22 ?_
      exact end_r hx hb hr hlk (Or.inl ⟨_, rfl⟩) hw hP hD hS dX3_refusalToIssue_25
  · replace hw := ite_t hw c3
    refine va_gets hx hb (en_Z0 hE (i := 1) (by decide)) hS hown (hE.w qw_960 rfl _) (fun _ h9 => h9) dX3_refusalToIssue_8 ?_
    exact end_r hx hb hr hlk (Or.inl ⟨_, rfl⟩) hw hP hD hS dX3_refusalToIssue_11
def wpX3_issue (post : Int32 → GS → Prop) (q0 : Nat) (a1 : Int32) (a2 : Int32) (G : GS) : Prop :=
  vp_in a1 5 ∧
  ∀ G2 : GS, G2 = gI G (q0 + 1 + 4 + a1.toNatClampNeg) 2 ((G.1 (q0 + 1 + 4 + a1.toNatClampNeg) 2) + a2) →
  ∀ G3 : GS, G3 = gI G2 q0 6 ((G2.1 q0 6) + a2) →
  vp_in a1 5 ∧
  post (G3.1 (q0 + 1 + 4 + a1.toNatClampNeg) 2) G3
set_option maxHeartbeats 4000000 in
set_option maxRecDepth 100000 in
theorem okX3_issue (X : Cx) (l : Launch) (hfl : l.stackTraces = false) {post : Int32 → GS → Prop} {q0 : Nat} {a1 : Int32} {a2 : Int32} {G : GS} (h0 : kd q0 = 0) (hw : wpX3_issue post q0 a1 a2 G) : CT X l yX3_issue cX3_issue 3 (some FieldType.int) 1 0 0 [.ref (xa X q0), .int a1, .int a2] G (Qi X post) := by
  refine mbegin (by decide) (Nat.le_of_ble_eq_true rfl) (fun p e s m below meth c hx hb hr hml hlk hown hE hz ls hl hP hD hS => ?_)
  have hl : lv_has ls 3 [(0, .ref (xa X q0)), (1, .int a1), (2, .int a2)] := hl
  have hown : s.vm.findClass "FlyTreasury$Ledger" = some m.cls := hown
  unfold wpX3_issue at hw
  refine lv_aload_n hx hb dX3_issue_0 rfl (lv_at hl 0 rfl) ?_
  refine gf_X3_0 hx hb hE hP hown h0 (hE.w qw_160 rfl _) dX3_issue_1 ?_
  refine lv_iload_n hx hb dX3_issue_4 rfl (lv_at hl 1 rfl) ?_
  obtain ⟨y1, hw⟩ := hw
  refine ald_1 hx hb hE hP (k0_1 h0) y1 dX3_issue_5 ?_
  refine lv_dup hx hb dX3_issue_6 rfl ?_
  refine gn_X7_2 hx hb hE hP hown (k1_e (k0_1 h0) y1) (hE.w qw_137 rfl _) dX3_issue_7 ?_
  refine lv_iload_n hx hb dX3_issue_10 rfl (lv_at hl 2 rfl) ?_
  refine lv_iadd hx hb dX3_issue_11 ?_
  refine pn_X7_2 hx hb hE hP hD hS hown (k1_e (k0_1 h0) y1) (hE.w qw_137 rfl _) dX3_issue_12 (fun G2 H locs eG2 hP hD hS => ?_)
  replace hw := hw G2 eG2
  refine lv_aload_n hx hb dX3_issue_15 rfl (lv_at hl 0 rfl) ?_
  refine lv_dup hx hb dX3_issue_16 rfl ?_
  refine gf_X3_6 hx hb hE hP hown h0 (hE.w qw_170 rfl _) dX3_issue_17 ?_
  refine lv_iload_n hx hb dX3_issue_20 rfl (lv_at hl 2 rfl) ?_
  refine lv_iadd hx hb dX3_issue_21 ?_
  refine pf_X3_6 hx hb hE hP hD hS hown h0 (hE.w qw_170 rfl _) dX3_issue_22 (fun G3 H locs eG3 hP hD hS => ?_)
  replace hw := hw G3 eG3
  refine lv_aload_n hx hb dX3_issue_25 rfl (lv_at hl 0 rfl) ?_
  refine gf_X3_0 hx hb hE hP hown h0 (hE.w qw_160 rfl _) dX3_issue_26 ?_
  refine lv_iload_n hx hb dX3_issue_29 rfl (lv_at hl 1 rfl) ?_
  obtain ⟨y4, hw⟩ := hw
  refine ald_1 hx hb hE hP (k0_1 h0) y4 dX3_issue_30 ?_
  refine gn_X7_2 hx hb hE hP hown (k1_e (k0_1 h0) y4) (hE.w qw_137 rfl _) dX3_issue_31 ?_
  exact end_i hx hb hr hlk rfl hw hP hD hS dX3_issue_34
def wpX3_refusalToMelt (post : Nat → GS → Prop) (q0 : Nat) (a1 : Int32) (a2 : Int32) (G : GS) : Prop :=
  wpX3_hasVault (fun (r2 : Int32) (G1 : GS) =>
  if r2 = 0 then
    post 1 G1
  else
    wpX3_within (fun (r5 : Int32) (G4 : GS) =>
      if r5 = 0 then
        post 2 G4
      else
        vp_in a1 5 ∧
          if a2 ≤ (G4.1 (q0 + 1 + 4 + a1.toNatClampNeg) 2) then
          post 0 G4
        else
          post 4 G4) a2 1 99 G1) q0 a1 G
set_option maxHeartbeats 4000000 in
set_option maxRecDepth 100000 in
theorem okX3_refusalToMelt (X : Cx) (l : Launch) (hfl : l.stackTraces = false) {post : Nat → GS → Prop} {q0 : Nat} {a1 : Int32} {a2 : Int32} {G : GS} (h0 : kd q0 = 0) (hw : wpX3_refusalToMelt post q0 a1 a2 G) : CT X l yX3_refusalToMelt cX3_refusalToMelt 3 (some (FieldType.object "FlyTreasury$Refusal")) 2 0 0 [.ref (xa X q0), .int a1, .int a2] G (Qr X (xk X 0) post) := by
  refine mbegin (by decide) (Nat.le_of_ble_eq_true rfl) (fun p e s m below meth c hx hb hr hml hlk hown hE hz ls hl hP hD hS => ?_)
  have hl : lv_has ls 3 [(0, .ref (xa X q0)), (1, .int a1), (2, .int a2)] := hl
  have hown : s.vm.findClass "FlyTreasury$Ledger" = some m.cls := hown
  unfold wpX3_refusalToMelt at hw
  refine lv_aload_n hx hb dX3_refusalToMelt_0 rfl (lv_at hl 0 rfl) ?_
  refine lv_iload_n hx hb dX3_refusalToMelt_1 rfl (lv_at hl 1 rfl) ?_
  refine call_i (run_V (cc := cX3_refusalToMelt) (As := [.int a1]) (rest := []) hx hb hml hown hE hz (okX3_hasVault X l hfl h0 hw) qw_956 qw_957 qw_958 qw_75 qw_959 (myX3_hasVault) ⟨Nat.le_of_ble_eq_true rfl, Nat.le_of_ble_eq_true rfl⟩ (rv_X3 hE hP h0) hP hD hS rfl hl.1 rfl (Nat.le_of_ble_eq_true rfl) dX3_refusalToMelt_2 ⟨Nat.le_of_ble_eq_true rfl, Nat.le_of_ble_eq_true rfl⟩) hS (fun r2 G1 H locs hw hP hD hS => ?_)
  refine lv_if_ne (tgt := 12) hx hb dX3_refusalToMelt_5 (by decide) (fun c3 => ?_) (fun c3 => ?_)
  · replace hw := ite_f hw c3
    refine lv_iload_n hx hb dX3_refusalToMelt_12 rfl (lv_at hl 2 rfl) ?_
    refine lv_iconst (v := 1) hx hb dX3_refusalToMelt_13 (by decide) ?_
    refine lv_bipush (v := 99) hx hb dX3_refusalToMelt_14 (by decide) ?_
    refine call_i (run_S (cc := cX3_refusalToMelt) (As := [.int a2, .int 1, .int 99]) (rest := []) hx hb hml hown hE hz (okX3_within X l hfl  hw) qw_864 qw_865 qw_75 qw_866 (myX3_within).2 ⟨Nat.le_of_ble_eq_true rfl, Nat.le_of_ble_eq_true rfl⟩ hP hD hS rfl hl.1 rfl (Nat.le_of_ble_eq_true rfl) dX3_refusalToMelt_16 ⟨Nat.le_of_ble_eq_true rfl, Nat.le_of_ble_eq_true rfl⟩) hS (fun r5 G4 H locs hw hP hD hS => ?_)
    refine lv_if_ne (tgt := 26) hx hb dX3_refusalToMelt_19 (by decide) (fun c6 => ?_) (fun c6 => ?_)
    · replace hw := ite_f hw c6
      refine lv_aload_n hx hb dX3_refusalToMelt_26 rfl (lv_at hl 0 rfl) ?_
      refine gf_X3_0 hx hb hE hP hown h0 (hE.w qw_160 rfl _) dX3_refusalToMelt_27 ?_
      refine lv_iload_n hx hb dX3_refusalToMelt_30 rfl (lv_at hl 1 rfl) ?_
      obtain ⟨y7, hw⟩ := hw
      refine ald_1 hx hb hE hP (k0_1 h0) y7 dX3_refusalToMelt_31 ?_
      refine gn_X7_2 hx hb hE hP hown (k1_e (k0_1 h0) y7) (hE.w qw_137 rfl _) dX3_refusalToMelt_32 ?_
      refine lv_iload_n hx hb dX3_refusalToMelt_35 rfl (lv_at hl 2 rfl) ?_
      refine lv_icmp_ge (tgt := 45) hx hb dX3_refusalToMelt_36 (by decide) (fun c8 => ?_) (fun c8 => ?_)
      · replace hw := ite_t hw c8
        refine va_gets hx hb (en_Z0 hE (i := 0) (by decide)) hS hown (hE.w qw_871 rfl _) (fun _ h9 => h9) dX3_refusalToMelt_45 ?_
        exact end_r hx hb hr hlk (Or.inl ⟨_, rfl⟩) hw hP hD hS dX3_refusalToMelt_48
      · replace hw := ite_f hw c8
        refine va_gets hx hb (en_Z0 hE (i := 4) (by decide)) hS hown (hE.w qw_1030 rfl _) (fun _ h9 => h9) dX3_refusalToMelt_39 ?_
        refine lv_goto (tgt := 48) hx hb dX3_refusalToMelt_42 (by decide) ?_
        exact end_r hx hb hr hlk (Or.inl ⟨_, rfl⟩) hw hP hD hS dX3_refusalToMelt_48
    · replace hw := ite_t hw c6
      refine va_gets hx hb (en_Z0 hE (i := 2) (by decide)) hS hown (hE.w qw_867 rfl _) (fun _ h9 => h9) dX3_refusalToMelt_22 ?_
      exact end_r hx hb hr hlk (Or.inl ⟨_, rfl⟩) hw hP hD hS dX3_refusalToMelt_25
  · replace hw := ite_t hw c3
    refine va_gets hx hb (en_Z0 hE (i := 1) (by decide)) hS hown (hE.w qw_960 rfl _) (fun _ h9 => h9) dX3_refusalToMelt_8 ?_
    exact end_r hx hb hr hlk (Or.inl ⟨_, rfl⟩) hw hP hD hS dX3_refusalToMelt_11
def wpX3_melt (post : Int32 → GS → Prop) (q0 : Nat) (a1 : Int32) (a2 : Int32) (G : GS) : Prop :=
  vp_in a1 5 ∧
  ∀ G2 : GS, G2 = gI G (q0 + 1 + 4 + a1.toNatClampNeg) 2 ((G.1 (q0 + 1 + 4 + a1.toNatClampNeg) 2) - a2) →
  ∀ G3 : GS, G3 = gI G2 q0 7 ((G2.1 q0 7) + a2) →
  vp_in a1 5 ∧
  post (G3.1 (q0 + 1 + 4 + a1.toNatClampNeg) 2) G3
set_option maxHeartbeats 4000000 in
set_option maxRecDepth 100000 in
theorem okX3_melt (X : Cx) (l : Launch) (hfl : l.stackTraces = false) {post : Int32 → GS → Prop} {q0 : Nat} {a1 : Int32} {a2 : Int32} {G : GS} (h0 : kd q0 = 0) (hw : wpX3_melt post q0 a1 a2 G) : CT X l yX3_melt cX3_melt 3 (some FieldType.int) 1 0 0 [.ref (xa X q0), .int a1, .int a2] G (Qi X post) := by
  refine mbegin (by decide) (Nat.le_of_ble_eq_true rfl) (fun p e s m below meth c hx hb hr hml hlk hown hE hz ls hl hP hD hS => ?_)
  have hl : lv_has ls 3 [(0, .ref (xa X q0)), (1, .int a1), (2, .int a2)] := hl
  have hown : s.vm.findClass "FlyTreasury$Ledger" = some m.cls := hown
  unfold wpX3_melt at hw
  refine lv_aload_n hx hb dX3_melt_0 rfl (lv_at hl 0 rfl) ?_
  refine gf_X3_0 hx hb hE hP hown h0 (hE.w qw_160 rfl _) dX3_melt_1 ?_
  refine lv_iload_n hx hb dX3_melt_4 rfl (lv_at hl 1 rfl) ?_
  obtain ⟨y1, hw⟩ := hw
  refine ald_1 hx hb hE hP (k0_1 h0) y1 dX3_melt_5 ?_
  refine lv_dup hx hb dX3_melt_6 rfl ?_
  refine gn_X7_2 hx hb hE hP hown (k1_e (k0_1 h0) y1) (hE.w qw_137 rfl _) dX3_melt_7 ?_
  refine lv_iload_n hx hb dX3_melt_10 rfl (lv_at hl 2 rfl) ?_
  refine lv_isub hx hb dX3_melt_11 ?_
  refine pn_X7_2 hx hb hE hP hD hS hown (k1_e (k0_1 h0) y1) (hE.w qw_137 rfl _) dX3_melt_12 (fun G2 H locs eG2 hP hD hS => ?_)
  replace hw := hw G2 eG2
  refine lv_aload_n hx hb dX3_melt_15 rfl (lv_at hl 0 rfl) ?_
  refine lv_dup hx hb dX3_melt_16 rfl ?_
  refine gf_X3_7 hx hb hE hP hown h0 (hE.w qw_172 rfl _) dX3_melt_17 ?_
  refine lv_iload_n hx hb dX3_melt_20 rfl (lv_at hl 2 rfl) ?_
  refine lv_iadd hx hb dX3_melt_21 ?_
  refine pf_X3_7 hx hb hE hP hD hS hown h0 (hE.w qw_172 rfl _) dX3_melt_22 (fun G3 H locs eG3 hP hD hS => ?_)
  replace hw := hw G3 eG3
  refine lv_aload_n hx hb dX3_melt_25 rfl (lv_at hl 0 rfl) ?_
  refine gf_X3_0 hx hb hE hP hown h0 (hE.w qw_160 rfl _) dX3_melt_26 ?_
  refine lv_iload_n hx hb dX3_melt_29 rfl (lv_at hl 1 rfl) ?_
  obtain ⟨y4, hw⟩ := hw
  refine ald_1 hx hb hE hP (k0_1 h0) y4 dX3_melt_30 ?_
  refine gn_X7_2 hx hb hE hP hown (k1_e (k0_1 h0) y4) (hE.w qw_137 rfl _) dX3_melt_31 ?_
  exact end_i hx hb hr hlk rfl hw hP hD hS dX3_melt_34
def wpX3_refusalToInspect (post : Nat → GS → Prop) (q0 : Nat) (a1 : Int32) (G : GS) : Prop :=
  wpX3_hasVault (fun (r2 : Int32) (G1 : GS) =>
  if r2 = 0 then
    post 1 G1
  else
    vp_in a1 5 ∧
      wpX7_frozen (fun (r6 : Int32) (G5 : GS) =>
      if r6 = 0 then
        post 0 G5
      else
        post 3 G5) (q0 + 1 + 4 + a1.toNatClampNeg) G1) q0 a1 G
set_option maxHeartbeats 4000000 in
set_option maxRecDepth 100000 in
theorem okX3_refusalToInspect (X : Cx) (l : Launch) (hfl : l.stackTraces = false) {post : Nat → GS → Prop} {q0 : Nat} {a1 : Int32} {G : GS} (h0 : kd q0 = 0) (hw : wpX3_refusalToInspect post q0 a1 G) : CT X l yX3_refusalToInspect cX3_refusalToInspect 2 (some (FieldType.object "FlyTreasury$Refusal")) 2 0 0 [.ref (xa X q0), .int a1] G (Qr X (xk X 0) post) := by
  refine mbegin (by decide) (Nat.le_of_ble_eq_true rfl) (fun p e s m below meth c hx hb hr hml hlk hown hE hz ls hl hP hD hS => ?_)
  have hl : lv_has ls 2 [(0, .ref (xa X q0)), (1, .int a1)] := hl
  have hown : s.vm.findClass "FlyTreasury$Ledger" = some m.cls := hown
  unfold wpX3_refusalToInspect at hw
  refine lv_aload_n hx hb dX3_refusalToInspect_0 rfl (lv_at hl 0 rfl) ?_
  refine lv_iload_n hx hb dX3_refusalToInspect_1 rfl (lv_at hl 1 rfl) ?_
  refine call_i (run_V (cc := cX3_refusalToInspect) (As := [.int a1]) (rest := []) hx hb hml hown hE hz (okX3_hasVault X l hfl h0 hw) qw_956 qw_957 qw_958 qw_75 qw_959 (myX3_hasVault) ⟨Nat.le_of_ble_eq_true rfl, Nat.le_of_ble_eq_true rfl⟩ (rv_X3 hE hP h0) hP hD hS rfl hl.1 rfl (Nat.le_of_ble_eq_true rfl) dX3_refusalToInspect_2 ⟨Nat.le_of_ble_eq_true rfl, Nat.le_of_ble_eq_true rfl⟩) hS (fun r2 G1 H locs hw hP hD hS => ?_)
  refine lv_if_ne (tgt := 12) hx hb dX3_refusalToInspect_5 (by decide) (fun c3 => ?_) (fun c3 => ?_)
  · replace hw := ite_f hw c3
    refine lv_aload_n hx hb dX3_refusalToInspect_12 rfl (lv_at hl 0 rfl) ?_
    refine gf_X3_0 hx hb hE hP hown h0 (hE.w qw_160 rfl _) dX3_refusalToInspect_13 ?_
    refine lv_iload_n hx hb dX3_refusalToInspect_16 rfl (lv_at hl 1 rfl) ?_
    obtain ⟨y4, hw⟩ := hw
    refine ald_1 hx hb hE hP (k0_1 h0) y4 dX3_refusalToInspect_17 ?_
    refine call_i (run_V (cc := cX3_refusalToInspect) (As := []) (rest := []) hx hb hml hown hE hz (okX7_frozen X l hfl (k1_e (k0_1 h0) y4) hw) qw_1025 qw_1026 qw_1027 qw_76 qw_1028 (myX7_frozen) ⟨Nat.le_of_ble_eq_true rfl, Nat.le_of_ble_eq_true rfl⟩ (rv_X7 hE hP (k1_e (k0_1 h0) y4)) hP hD hS rfl hl.1 rfl (Nat.le_of_ble_eq_true rfl) dX3_refusalToInspect_18 ⟨Nat.le_of_ble_eq_true rfl, Nat.le_of_ble_eq_true rfl⟩) hS (fun r6 G5 H locs hw hP hD hS => ?_)
    refine lv_if_eq (tgt := 30) hx hb dX3_refusalToInspect_21 (by decide) (fun c7 => ?_) (fun c7 => ?_)
    · replace hw := ite_t hw c7
      refine va_gets hx hb (en_Z0 hE (i := 0) (by decide)) hS hown (hE.w qw_871 rfl _) (fun _ h9 => h9) dX3_refusalToInspect_30 ?_
      exact end_r hx hb hr hlk (Or.inl ⟨_, rfl⟩) hw hP hD hS dX3_refusalToInspect_33
    · replace hw := ite_f hw c7
      refine va_gets hx hb (en_Z0 hE (i := 3) (by decide)) hS hown (hE.w qw_869 rfl _) (fun _ h9 => h9) dX3_refusalToInspect_24 ?_
      refine lv_goto (tgt := 33) hx hb dX3_refusalToInspect_27 (by decide) ?_
      exact end_r hx hb hr hlk (Or.inl ⟨_, rfl⟩) hw hP hD hS dX3_refusalToInspect_33
  · replace hw := ite_t hw c3
    refine va_gets hx hb (en_Z0 hE (i := 1) (by decide)) hS hown (hE.w qw_960 rfl _) (fun _ h9 => h9) dX3_refusalToInspect_8 ?_
    exact end_r hx hb hr hlk (Or.inl ⟨_, rfl⟩) hw hP hD hS dX3_refusalToInspect_11
def wpX3_inspect (post : Int32 → GS → Prop) (q0 : Nat) (a1 : Int32) (G : GS) : Prop :=
  vp_in a1 5 ∧
  wpX7_soundAt (fun (r3 : Int32) (G2 : GS) =>
  ∀ G4 : GS, G4 = gI G2 q0 9 ((G2.1 q0 9) + 1) →
    if r3 = 0 then
    vp_in a1 5 ∧
      wpX7_punish (fun (G7 : GS) =>
      narrow .boolean (.int r3) = .int r3 ∧ post r3 G7) (q0 + 1 + 4 + a1.toNatClampNeg) G4
  else
    ∀ G9 : GS, G9 = gI G4 q0 10 ((G4.1 q0 10) + 1) →
      vp_in a1 5 ∧
      wpX7_reward (fun (G11 : GS) =>
      narrow .boolean (.int r3) = .int r3 ∧ post r3 G11) (q0 + 1 + 4 + a1.toNatClampNeg) G9) (q0 + 1 + 4 + a1.toNatClampNeg) (q0 + 2) G
set_option maxHeartbeats 4000000 in
set_option maxRecDepth 100000 in
theorem okX3_inspect (X : Cx) (l : Launch) (hfl : l.stackTraces = false) {post : Int32 → GS → Prop} {q0 : Nat} {a1 : Int32} {G : GS} (h0 : kd q0 = 0) (hw : wpX3_inspect post q0 a1 G) : CT X l yX3_inspect cX3_inspect 3 (some FieldType.boolean) 4 0 0 [.ref (xa X q0), .int a1] G (Qi X post) := by
  refine mbegin (by decide) (Nat.le_of_ble_eq_true rfl) (fun p e s m below meth c hx hb hr hml hlk hown hE hz ls hl hP hD hS => ?_)
  have hl : lv_has ls 3 [(0, .ref (xa X q0)), (1, .int a1)] := hl
  have hown : s.vm.findClass "FlyTreasury$Ledger" = some m.cls := hown
  unfold wpX3_inspect at hw
  refine lv_aload_n hx hb dX3_inspect_0 rfl (lv_at hl 0 rfl) ?_
  refine gf_X3_0 hx hb hE hP hown h0 (hE.w qw_160 rfl _) dX3_inspect_1 ?_
  refine lv_iload_n hx hb dX3_inspect_4 rfl (lv_at hl 1 rfl) ?_
  obtain ⟨y1, hw⟩ := hw
  refine ald_1 hx hb hE hP (k0_1 h0) y1 dX3_inspect_5 ?_
  refine lv_aload_n hx hb dX3_inspect_6 rfl (lv_at hl 0 rfl) ?_
  refine gf_X3_1 hx hb hE hP hown h0 (hE.w qw_162 rfl _) dX3_inspect_7 ?_
  refine call_i (run_V (cc := cX3_inspect) (As := [.ref (xa X (q0 + 2))]) (rest := []) hx hb hml hown hE hz (okX7_soundAt X l hfl (k1_e (k0_1 h0) y1) (k0_2 h0) hw) qw_1103 qw_1104 qw_1105 qw_76 qw_1106 (myX7_soundAt) ⟨Nat.le_of_ble_eq_true rfl, Nat.le_of_ble_eq_true rfl⟩ (rv_X7 hE hP (k1_e (k0_1 h0) y1)) hP hD hS rfl hl.1 rfl (Nat.le_of_ble_eq_true rfl) dX3_inspect_10 ⟨Nat.le_of_ble_eq_true rfl, Nat.le_of_ble_eq_true rfl⟩) hS (fun r3 G2 H locs hw hP hD hS => ?_)
  refine lv_istore_n (lv' := [(2, .int r3), (0, .ref (xa X q0)), (1, .int a1)]) hx hb dX3_inspect_13 rfl hl (by decide) rfl (fun ls hl => ?_)
  refine lv_aload_n hx hb dX3_inspect_14 rfl (lv_at hl 1 rfl) ?_
  refine lv_dup hx hb dX3_inspect_15 rfl ?_
  refine gf_X3_9 hx hb hE hP hown h0 (hE.w qw_176 rfl _) dX3_inspect_16 ?_
  refine lv_iconst (v := 1) hx hb dX3_inspect_19 (by decide) ?_
  refine lv_iadd hx hb dX3_inspect_20 ?_
  refine pf_X3_9 hx hb hE hP hD hS hown h0 (hE.w qw_176 rfl _) dX3_inspect_21 (fun G4 H locs eG4 hP hD hS => ?_)
  replace hw := hw G4 eG4
  refine lv_iload_n hx hb dX3_inspect_24 rfl (lv_at hl 0 rfl) ?_
  refine lv_if_eq (tgt := 50) hx hb dX3_inspect_25 (by decide) (fun c5 => ?_) (fun c5 => ?_)
  · replace hw := ite_t hw c5
    refine lv_aload_n hx hb dX3_inspect_50 rfl (lv_at hl 1 rfl) ?_
    refine gf_X3_0 hx hb hE hP hown h0 (hE.w qw_160 rfl _) dX3_inspect_51 ?_
    refine lv_iload_n hx hb dX3_inspect_54 rfl (lv_at hl 2 rfl) ?_
    obtain ⟨y6, hw⟩ := hw
    refine ald_1 hx hb hE hP (k0_1 h0) y6 dX3_inspect_55 ?_
    refine call_v (run_V (cc := cX3_inspect) (As := []) (rest := []) hx hb hml hown hE hz (okX7_punish X l hfl (k1_e (k0_1 h0) y6) hw) qw_1112 qw_1113 qw_1114 qw_76 qw_1115 (myX7_punish) ⟨Nat.le_of_ble_eq_true rfl, Nat.le_of_ble_eq_true rfl⟩ (rv_X7 hE hP (k1_e (k0_1 h0) y6)) hP hD hS rfl hl.1 rfl (Nat.le_of_ble_eq_true rfl) dX3_inspect_56 ⟨Nat.le_of_ble_eq_true rfl, Nat.le_of_ble_eq_true rfl⟩) hS (fun G7 H locs hw hP hD hS => ?_)
    refine lv_iload_n hx hb dX3_inspect_59 rfl (lv_at hl 0 rfl) ?_
    obtain ⟨y8, hw⟩ := hw
    exact end_i hx hb hr hlk y8 hw hP hD hS dX3_inspect_60
  · replace hw := ite_f hw c5
    refine lv_aload_n hx hb dX3_inspect_28 rfl (lv_at hl 1 rfl) ?_
    refine lv_dup hx hb dX3_inspect_29 rfl ?_
    refine gf_X3_10 hx hb hE hP hown h0 (hE.w qw_178 rfl _) dX3_inspect_30 ?_
    refine lv_iconst (v := 1) hx hb dX3_inspect_33 (by decide) ?_
    refine lv_iadd hx hb dX3_inspect_34 ?_
    refine pf_X3_10 hx hb hE hP hD hS hown h0 (hE.w qw_178 rfl _) dX3_inspect_35 (fun G9 H locs eG9 hP hD hS => ?_)
    replace hw := hw G9 eG9
    refine lv_aload_n hx hb dX3_inspect_38 rfl (lv_at hl 1 rfl) ?_
    refine gf_X3_0 hx hb hE hP hown h0 (hE.w qw_160 rfl _) dX3_inspect_39 ?_
    refine lv_iload_n hx hb dX3_inspect_42 rfl (lv_at hl 2 rfl) ?_
    obtain ⟨y10, hw⟩ := hw
    refine ald_1 hx hb hE hP (k0_1 h0) y10 dX3_inspect_43 ?_
    refine call_v (run_V (cc := cX3_inspect) (As := []) (rest := []) hx hb hml hown hE hz (okX7_reward X l hfl (k1_e (k0_1 h0) y10) hw) qw_1107 qw_1108 qw_1109 qw_76 qw_1110 (myX7_reward) ⟨Nat.le_of_ble_eq_true rfl, Nat.le_of_ble_eq_true rfl⟩ (rv_X7 hE hP (k1_e (k0_1 h0) y10)) hP hD hS rfl hl.1 rfl (Nat.le_of_ble_eq_true rfl) dX3_inspect_44 ⟨Nat.le_of_ble_eq_true rfl, Nat.le_of_ble_eq_true rfl⟩) hS (fun G11 H locs hw hP hD hS => ?_)
    refine lv_goto (tgt := 59) hx hb dX3_inspect_47 (by decide) ?_
    refine lv_iload_n hx hb dX3_inspect_59 rfl (lv_at hl 0 rfl) ?_
    obtain ⟨y12, hw⟩ := hw
    exact end_i hx hb hr hlk y12 hw hP hD hS dX3_inspect_60
def wbX3_refusalToRate_24 (post : Nat → GS → Prop) (q0 : Nat) (a1 : Int32) (a2 : Int32) (G : GS) (t0 : Int32) : Prop :=
  if t0 = 0 then
  post 2 G
else
  post 0 G
def wbX3_refusalToRate_23 (post : Nat → GS → Prop) (q0 : Nat) (a1 : Int32) (a2 : Int32) (G : GS) : Prop :=
  wbX3_refusalToRate_24 post q0 a1 a2 G 0
def wpX3_refusalToRate (post : Nat → GS → Prop) (q0 : Nat) (a1 : Int32) (a2 : Int32) (G : GS) : Prop :=
  wpJ0_indexOf_0f7a4 (fun (r2 : Int32) (G1 : GS) =>
  if r2 < 0 then
    wbX3_refusalToRate_23 post q0 a1 a2 G1
  else
    wpX3_within (fun (r7 : Int32) (G6 : GS) =>
      if r7 = 0 then
        wbX3_refusalToRate_23 post q0 a1 a2 G6
      else
        wbX3_refusalToRate_24 post q0 a1 a2 G6 1) a2 1 50 G1) 0 a1 G
set_option maxHeartbeats 4000000 in
set_option maxRecDepth 100000 in
theorem okX3_refusalToRate (X : Cx) (l : Launch) (hfl : l.stackTraces = false) {post : Nat → GS → Prop} {q0 : Nat} {a1 : Int32} {a2 : Int32} {G : GS} (h0 : kd q0 = 0) (hw : wpX3_refusalToRate post q0 a1 a2 G) : CT X l yX3_refusalToRate cX3_refusalToRate 4 (some (FieldType.object "FlyTreasury$Refusal")) 5 0 0 [.ref (xa X q0), .int a1, .int a2] G (Qr X (xk X 0) post) := by
  refine mbegin (by decide) (Nat.le_of_ble_eq_true rfl) (fun p e s m below meth c hx hb hr hml hlk hown hE hz ls hl hP hD hS => ?_)
  have hl : lv_has ls 4 [(0, .ref (xa X q0)), (1, .int a1), (2, .int a2)] := hl
  have hown : s.vm.findClass "FlyTreasury$Ledger" = some m.cls := hown
  have B24 : ∀ (G : GS) (t0 : Int32) (H : Heap) (locs : List Loc) (ls : Array Slot), wbX3_refusalToRate_24 post q0 a1 a2 G t0 → va_P (xD X) vwCl (pool X G) H → va_D (xA X) (pool X G) → va_S (xA X) s.heap H locs → lv_has ls 4 [] → W p l e (rmL 5 0 0) s m [.ref (xa X q0), .int a1, .int a2].toArray below meth c H locs 0 0 (MQ below (Qr X (xk X 0) post) [.ref (xa X q0), .int a1, .int a2].toArray s 0 0 (xA X)) (F0 m 24 ls [.int t0]) := by
    intro G t0  H locs ls hw hP hD hS hl
    unfold wbX3_refusalToRate_24 at hw
    refine lv_istore_n (lv' := [(3, .int t0)]) hx hb dX3_refusalToRate_24 rfl hl (by decide) rfl (fun ls hl => ?_)
    refine lv_iload_n hx hb dX3_refusalToRate_25 rfl (lv_at hl 0 rfl) ?_
    refine lv_if_eq (tgt := 35) hx hb dX3_refusalToRate_26 (by decide) (fun c5 => ?_) (fun c5 => ?_)
    · replace hw := ite_t hw c5
      refine va_gets hx hb (en_Z0 hE (i := 2) (by decide)) hS hown (hE.w qw_867 rfl _) (fun _ h9 => h9) dX3_refusalToRate_35 ?_
      exact end_r hx hb hr hlk (Or.inl ⟨_, rfl⟩) hw hP hD hS dX3_refusalToRate_38
    · replace hw := ite_f hw c5
      refine va_gets hx hb (en_Z0 hE (i := 0) (by decide)) hS hown (hE.w qw_871 rfl _) (fun _ h9 => h9) dX3_refusalToRate_29 ?_
      refine lv_goto (tgt := 38) hx hb dX3_refusalToRate_32 (by decide) ?_
      exact end_r hx hb hr hlk (Or.inl ⟨_, rfl⟩) hw hP hD hS dX3_refusalToRate_38
  have B23 : ∀ (G : GS) (H : Heap) (locs : List Loc) (ls : Array Slot), wbX3_refusalToRate_23 post q0 a1 a2 G  → va_P (xD X) vwCl (pool X G) H → va_D (xA X) (pool X G) → va_S (xA X) s.heap H locs → lv_has ls 4 [] → W p l e (rmL 5 0 0) s m [.ref (xa X q0), .int a1, .int a2].toArray below meth c H locs 0 0 (MQ below (Qr X (xk X 0) post) [.ref (xa X q0), .int a1, .int a2].toArray s 0 0 (xA X)) (F0 m 23 ls []) := by
    intro G   H locs ls hw hP hD hS hl
    unfold wbX3_refusalToRate_23 at hw
    refine lv_iconst (v := 0) hx hb dX3_refusalToRate_23 (by decide) ?_
    exact B24 G 0  _ _ _ hw hP hD hS (lv_sub hl [] rfl)
  unfold wpX3_refusalToRate at hw
  refine va_ldcS hx hb hown (sr_5 hE) dX3_refusalToRate_0 ?_
  refine lv_iload_n hx hb dX3_refusalToRate_2 rfl (lv_at hl 1 rfl) ?_
  refine call_i (run_V (cc := cX3_refusalToRate) (As := [.int a1]) (rest := []) hx hb hml hown hE hz (okJ0_indexOf_0f7a4 X l hfl (by decide) hw) qw_963 qw_964 qw_965 qw_84 qw_966 (myJ0_indexOf_0f7a4) ⟨Nat.le_of_ble_eq_true rfl, Nat.le_of_ble_eq_true rfl⟩ (vk_recv hE.S (by decide) hS) hP hD hS rfl hl.1 rfl (Nat.le_of_ble_eq_true rfl) dX3_refusalToRate_3 ⟨Nat.le_of_ble_eq_true rfl, Nat.le_of_ble_eq_true rfl⟩) hS (fun r2 G1 H locs hw hP hD hS => ?_)
  refine lv_if_lt (tgt := 23) hx hb dX3_refusalToRate_6 (by decide) (fun c3 => ?_) (fun c3 => ?_)
  · replace hw := ite_t hw c3
    exact B23 G1   _ _ _ hw hP hD hS (lv_sub hl [] rfl)
  · replace hw := ite_f hw c3
    refine lv_iload_n hx hb dX3_refusalToRate_9 rfl (lv_at hl 2 rfl) ?_
    refine lv_iconst (v := 1) hx hb dX3_refusalToRate_10 (by decide) ?_
    refine lv_bipush (v := 50) hx hb dX3_refusalToRate_11 (by decide) ?_
    refine call_i (run_S (cc := cX3_refusalToRate) (As := [.int a2, .int 1, .int 50]) (rest := []) hx hb hml hown hE hz (okX3_within X l hfl  hw) qw_864 qw_865 qw_75 qw_866 (myX3_within).2 ⟨Nat.le_of_ble_eq_true rfl, Nat.le_of_ble_eq_true rfl⟩ hP hD hS rfl hl.1 rfl (Nat.le_of_ble_eq_true rfl) dX3_refusalToRate_13 ⟨Nat.le_of_ble_eq_true rfl, Nat.le_of_ble_eq_true rfl⟩) hS (fun r7 G6 H locs hw hP hD hS => ?_)
    refine lv_if_eq (tgt := 23) hx hb dX3_refusalToRate_16 (by decide) (fun c8 => ?_) (fun c8 => ?_)
    · replace hw := ite_t hw c8
      exact B23 G6   _ _ _ hw hP hD hS (lv_sub hl [] rfl)
    · replace hw := ite_f hw c8
      refine lv_iconst (v := 1) hx hb dX3_refusalToRate_19 (by decide) ?_
      refine lv_goto (tgt := 24) hx hb dX3_refusalToRate_20 (by decide) ?_
      exact B24 G6 1  _ _ _ hw hP hD hS (lv_sub hl [] rfl)
def wpX3_changeRate (post : Int32 → GS → Prop) (q0 : Nat) (a1 : Int32) (a2 : Int32) (G : GS) : Prop :=
  wpJ0_indexOf_0f7a4 (fun (r2 : Int32) (G1 : GS) =>
  vp_in r2 (ln (q0 + 2)) ∧
    ∀ z4 : Int32, z4 = (G1.1 (q0 + 2) r2.toNatClampNeg) →
    vp_in r2 (ln (q0 + 2)) ∧ ∀ G6 : GS, G6 = gI G1 (q0 + 2) r2.toNatClampNeg a2 →
    post z4 G6) 0 a1 G
set_option maxHeartbeats 4000000 in
set_option maxRecDepth 100000 in
theorem okX3_changeRate (X : Cx) (l : Launch) (hfl : l.stackTraces = false) {post : Int32 → GS → Prop} {q0 : Nat} {a1 : Int32} {a2 : Int32} {G : GS} (h0 : kd q0 = 0) (hw : wpX3_changeRate post q0 a1 a2 G) : CT X l yX3_changeRate cX3_changeRate 5 (some FieldType.int) 5 0 0 [.ref (xa X q0), .int a1, .int a2] G (Qi X post) := by
  refine mbegin (by decide) (Nat.le_of_ble_eq_true rfl) (fun p e s m below meth c hx hb hr hml hlk hown hE hz ls hl hP hD hS => ?_)
  have hl : lv_has ls 5 [(0, .ref (xa X q0)), (1, .int a1), (2, .int a2)] := hl
  have hown : s.vm.findClass "FlyTreasury$Ledger" = some m.cls := hown
  unfold wpX3_changeRate at hw
  refine va_ldcS hx hb hown (sr_5 hE) dX3_changeRate_0 ?_
  refine lv_iload_n hx hb dX3_changeRate_2 rfl (lv_at hl 1 rfl) ?_
  refine call_i (run_V (cc := cX3_changeRate) (As := [.int a1]) (rest := []) hx hb hml hown hE hz (okJ0_indexOf_0f7a4 X l hfl (by decide) hw) qw_963 qw_964 qw_965 qw_84 qw_966 (myJ0_indexOf_0f7a4) ⟨Nat.le_of_ble_eq_true rfl, Nat.le_of_ble_eq_true rfl⟩ (vk_recv hE.S (by decide) hS) hP hD hS rfl hl.1 rfl (Nat.le_of_ble_eq_true rfl) dX3_changeRate_3 ⟨Nat.le_of_ble_eq_true rfl, Nat.le_of_ble_eq_true rfl⟩) hS (fun r2 G1 H locs hw hP hD hS => ?_)
  refine lv_istore_n (lv' := [(3, .int r2), (0, .ref (xa X q0)), (1, .int a1), (2, .int a2)]) hx hb dX3_changeRate_6 rfl hl (by decide) rfl (fun ls hl => ?_)
  refine lv_aload_n hx hb dX3_changeRate_7 rfl (lv_at hl 1 rfl) ?_
  refine gf_X3_1 hx hb hE hP hown h0 (hE.w qw_162 rfl _) dX3_changeRate_8 ?_
  refine lv_iload_n hx hb dX3_changeRate_11 rfl (lv_at hl 0 rfl) ?_
  obtain ⟨y3, hw⟩ := hw
  refine ald_2 hx hb hE hP (k0_2 h0) y3 dX3_changeRate_12 ?_
  refine lv_topi (fun z4 ez4 => ?_)
  replace hw := hw z4 ez4
  refine lv_istore (lv' := [(4, .int z4), (3, .int r2), (0, .ref (xa X q0)), (1, .int a1), (2, .int a2)]) hx hb dX3_changeRate_13 hl (by decide) rfl (fun ls hl => ?_)
  refine lv_aload_n hx hb dX3_changeRate_15 rfl (lv_at hl 2 rfl) ?_
  refine gf_X3_1 hx hb hE hP hown h0 (hE.w qw_162 rfl _) dX3_changeRate_16 ?_
  refine lv_iload_n hx hb dX3_changeRate_19 rfl (lv_at hl 1 rfl) ?_
  refine lv_iload_n hx hb dX3_changeRate_20 rfl (lv_at hl 4 rfl) ?_
  obtain ⟨y5, hw⟩ := hw
  refine ast_2 hx hb hE hP hD hS (k0_2 h0) y5 dX3_changeRate_21 (fun G6 H locs eG6 hP hD hS => ?_)
  replace hw := hw G6 eG6
  refine lv_iload hx hb dX3_changeRate_22 (lv_at hl 0 rfl) ?_
  exact end_i hx hb hr hlk rfl hw hP hD hS dX3_changeRate_24
