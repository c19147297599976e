def wpX8_refusalOf (post : Nat → GS → Prop) (q1 : Nat) (G : GS) : Prop :=
  (G.1 q1 0).toNatClampNeg < 10 ∧
  wpOrd (fun (r2 : Int32) (G3 : GS) =>
  vp_in r2 10 ∧
    ∀ z5 : Int32, z5 = ([1, 2, 3, 4, 5, 6, 7, 8, 9, 0] : List Int32).getD r2.toNatClampNeg 0 →
    if z5.toInt < 1 ∨ 9 < z5.toInt then
    wpX3_refusalToWait (fun (r7 : Nat) (G6 : GS) =>
      r7 < 5 ∧
        post r7 G6) 0 (G3.1 q1 4) G3
  else if z5 = 1 then
    wpX3_refusalToOpen (fun (r12 : Nat) (G11 : GS) =>
      r12 < 5 ∧
        post r12 G11) 0 (G3.1 q1 4) G3
  else if z5 = 2 then
    wpX3_refusalToPut (fun (r16 : Nat) (G15 : GS) =>
      r16 < 5 ∧
        post r16 G15) 0 (G3.1 q1 1) (G3.1 q1 2) (G3.1 q1 4) G3
  else if z5 = 3 then
    wpX3_refusalToTake (fun (r20 : Nat) (G19 : GS) =>
      r20 < 5 ∧
        post r20 G19) 0 (G3.1 q1 1) (G3.1 q1 2) (G3.1 q1 4) G3
  else if z5 = 4 then
    wpX3_refusalToSwap (fun (r24 : Nat) (G23 : GS) =>
      r24 < 5 ∧
        post r24 G23) 0 (G3.1 q1 1) (G3.1 q1 2) (G3.1 q1 3) (G3.1 q1 4) G3
  else if z5 = 5 then
    wpX3_refusalToIssue (fun (r28 : Nat) (G27 : GS) =>
      r28 < 5 ∧
        post r28 G27) 0 (G3.1 q1 1) (G3.1 q1 4) G3
  else if z5 = 6 then
    wpX3_refusalToMelt (fun (r32 : Nat) (G31 : GS) =>
      r32 < 5 ∧
        post r32 G31) 0 (G3.1 q1 1) (G3.1 q1 4) G3
  else if z5 = 7 then
    wpX3_refusalToInspect (fun (r36 : Nat) (G35 : GS) =>
      r36 < 5 ∧
        post r36 G35) 0 (G3.1 q1 1) G3
  else if z5 = 8 then
    wpX3_refusalToRate (fun (r40 : Nat) (G39 : GS) =>
      r40 < 5 ∧
        post r40 G39) 0 (G3.1 q1 2) (G3.1 q1 4) G3
  else if z5 = 9 then
    wpX3_refusalToStick (fun (r44 : Nat) (G43 : GS) =>
      r44 < 5 ∧
        post r44 G43) 0 (G3.1 q1 1) (G3.1 q1 4) G3
  else False) ((G.1 q1 0).toNatClampNeg) G
set_option maxHeartbeats 4000000 in
set_option maxRecDepth 100000 in
theorem okX8_refusalOf (X : Cx) (l : Launch) (hfl : l.stackTraces = false) {post : Nat → GS → Prop} {q1 : Nat} {G : GS} (h1 : kd q1 = 10) (hw : wpX8_refusalOf post q1 G) : CT X l yX8_refusalOf cX8_refusalOf 2 (some (FieldType.object "FlyTreasury$Refusal")) 6 0 0 [.ref (xa X 165), .ref (xa X q1)] G (Qr X (xk X 0) post) := by
  refine mbegin (by decide) (Nat.le_of_ble_eq_true rfl) (fun p e s m below meth c hx hb hr hml hlk hown hE hz ls hl hP hD hS => ?_)
  have hl : lv_has ls 2 [(0, .ref (xa X 165)), (1, .ref (xa X q1))] := hl
  have hown : s.vm.findClass "FlyTreasury" = some m.cls := hown
  unfold wpX8_refusalOf at hw
  refine va_gets hx hb hE.zC hS hown (hE.w qw_1513 rfl _) (fun _ h9 => h9) dX8_refusalOf_0 ?_
  refine lv_aload_n hx hb dX8_refusalOf_3 rfl (lv_at hl 1 rfl) ?_
  obtain ⟨y1, hw⟩ := hw
  refine gn_X4_0 hx hb hE hP hown h1 (hE.w qw_240 rfl _) dX8_refusalOf_4 ?_
  refine call_i (run_ord1 (cc := cX8_refusalOf) hx hb hml hown hE hz y1 qw_1515 qw_1516 qw_1517 hP hD hS hl.1 (Nat.le_of_ble_eq_true rfl) dX8_refusalOf_7 ⟨Nat.le_of_ble_eq_true rfl, Nat.le_of_ble_eq_true rfl⟩ ⟨Nat.le_of_ble_eq_true rfl, Nat.le_of_ble_eq_true rfl⟩ hw) hS (fun r2 G3 H locs hw hP hD hS => ?_)
  obtain ⟨y4, hw⟩ := hw
  refine va_ti hx hb hE.tC hS y4 rfl dX8_refusalOf_10 ?_
  refine lv_topi (fun z5 ez5 => ?_)
  replace hw := hw z5 ez5
  by_cases c9 : z5.toInt < 1 ∨ 9 < z5.toInt
  · replace hw := ite_t hw c9
    refine lv_tableOut (tgt := 212) hx hb dX8_refusalOf_11 c9 (by decide) ?_
    refine lv_aload_n hx hb dX8_refusalOf_212 rfl (lv_at hl 0 rfl) ?_
    refine gf_X8_0 hx hb hE hP hown rfl (hE.w qw_318 rfl _) dX8_refusalOf_213 ?_
    refine lv_aload_n hx hb dX8_refusalOf_216 rfl (lv_at hl 1 rfl) ?_
    refine gn_X4_4 hx hb hE hP hown h1 (hE.w qw_252 rfl _) dX8_refusalOf_217 ?_
    refine call_r (run_V (cc := cX8_refusalOf) (As := [.int (G3.1 q1 4)]) (rest := []) hx hb hml hown hE hz (okX3_refusalToWait X l hfl rfl hw) qw_1153 qw_1154 qw_1155 qw_75 qw_1156 (myX3_refusalToWait) ⟨Nat.le_of_ble_eq_true rfl, Nat.le_of_ble_eq_true rfl⟩ (rv_X3 hE hP rfl) hP hD hS rfl hl.1 rfl (Nat.le_of_ble_eq_true rfl) dX8_refusalOf_220 ⟨Nat.le_of_ble_eq_true rfl, Nat.le_of_ble_eq_true rfl⟩) hS (fun r7 G6 H locs hw hP hD hS => ?_)
    obtain ⟨y8, hw⟩ := hw
    exact end_r hx hb hr hlk (Or.inl ⟨_, rfl⟩) hw hP hD hS dX8_refusalOf_223
  · replace hw := ite_f hw c9
    by_cases c10 : z5 = 1
    · replace hw := ite_t hw c10
      subst c10
      refine lv_tableIn (off := 49) (tgt := 60) hx hb dX8_refusalOf_11 (by decide) (by decide) (by decide) (by decide) ?_
      refine lv_aload_n hx hb dX8_refusalOf_60 rfl (lv_at hl 0 rfl) ?_
      refine gf_X8_0 hx hb hE hP hown rfl (hE.w qw_318 rfl _) dX8_refusalOf_61 ?_
      refine lv_aload_n hx hb dX8_refusalOf_64 rfl (lv_at hl 1 rfl) ?_
      refine gn_X4_4 hx hb hE hP hown h1 (hE.w qw_252 rfl _) dX8_refusalOf_65 ?_
      refine call_r (run_V (cc := cX8_refusalOf) (As := [.int (G3.1 q1 4)]) (rest := []) hx hb hml hown hE hz (okX3_refusalToOpen X l hfl rfl hw) qw_860 qw_861 qw_862 qw_75 qw_863 (myX3_refusalToOpen) ⟨Nat.le_of_ble_eq_true rfl, Nat.le_of_ble_eq_true rfl⟩ (rv_X3 hE hP rfl) hP hD hS rfl hl.1 rfl (Nat.le_of_ble_eq_true rfl) dX8_refusalOf_68 ⟨Nat.le_of_ble_eq_true rfl, Nat.le_of_ble_eq_true rfl⟩) hS (fun r12 G11 H locs hw hP hD hS => ?_)
      obtain ⟨y13, hw⟩ := hw
      exact end_r hx hb hr hlk (Or.inl ⟨_, rfl⟩) hw hP hD hS dX8_refusalOf_71
    · replace hw := ite_f hw c10
      by_cases c14 : z5 = 2
      · replace hw := ite_t hw c14
        subst c14
        refine lv_tableIn (off := 61) (tgt := 72) hx hb dX8_refusalOf_11 (by decide) (by decide) (by decide) (by decide) ?_
        refine lv_aload_n hx hb dX8_refusalOf_72 rfl (lv_at hl 0 rfl) ?_
        refine gf_X8_0 hx hb hE hP hown rfl (hE.w qw_318 rfl _) dX8_refusalOf_73 ?_
        refine lv_aload_n hx hb dX8_refusalOf_76 rfl (lv_at hl 1 rfl) ?_
        refine gn_X4_1 hx hb hE hP hown h1 (hE.w qw_243 rfl _) dX8_refusalOf_77 ?_
        refine lv_aload_n hx hb dX8_refusalOf_80 rfl (lv_at hl 1 rfl) ?_
        refine gn_X4_2 hx hb hE hP hown h1 (hE.w qw_246 rfl _) dX8_refusalOf_81 ?_
        refine lv_aload_n hx hb dX8_refusalOf_84 rfl (lv_at hl 1 rfl) ?_
        refine gn_X4_4 hx hb hE hP hown h1 (hE.w qw_252 rfl _) dX8_refusalOf_85 ?_
        refine call_r (run_V (cc := cX8_refusalOf) (As := [.int (G3.1 q1 1), .int (G3.1 q1 2), .int (G3.1 q1 4)]) (rest := []) hx hb hml hown hE hz (okX3_refusalToPut X l hfl rfl hw) qw_952 qw_953 qw_954 qw_75 qw_955 (myX3_refusalToPut) ⟨Nat.le_of_ble_eq_true rfl, Nat.le_of_ble_eq_true rfl⟩ (rv_X3 hE hP rfl) hP hD hS rfl hl.1 rfl (Nat.le_of_ble_eq_true rfl) dX8_refusalOf_88 ⟨Nat.le_of_ble_eq_true rfl, Nat.le_of_ble_eq_true rfl⟩) hS (fun r16 G15 H locs hw hP hD hS => ?_)
        obtain ⟨y17, hw⟩ := hw
        exact end_r hx hb hr hlk (Or.inl ⟨_, rfl⟩) hw hP hD hS dX8_refusalOf_91
      · replace hw := ite_f hw c14
        by_cases c18 : z5 = 3
        · replace hw := ite_t hw c18
          subst c18
          refine lv_tableIn (off := 81) (tgt := 92) hx hb dX8_refusalOf_11 (by decide) (by decide) (by decide) (by decide) ?_
          refine lv_aload_n hx hb dX8_refusalOf_92 rfl (lv_at hl 0 rfl) ?_
          refine gf_X8_0 hx hb hE hP hown rfl (hE.w qw_318 rfl _) dX8_refusalOf_93 ?_
          refine lv_aload_n hx hb dX8_refusalOf_96 rfl (lv_at hl 1 rfl) ?_
          refine gn_X4_1 hx hb hE hP hown h1 (hE.w qw_243 rfl _) dX8_refusalOf_97 ?_
          refine lv_aload_n hx hb dX8_refusalOf_100 rfl (lv_at hl 1 rfl) ?_
          refine gn_X4_2 hx hb hE hP hown h1 (hE.w qw_246 rfl _) dX8_refusalOf_101 ?_
          refine lv_aload_n hx hb dX8_refusalOf_104 rfl (lv_at hl 1 rfl) ?_
          refine gn_X4_4 hx hb hE hP hown h1 (hE.w qw_252 rfl _) dX8_refusalOf_105 ?_
          refine call_r (run_V (cc := cX8_refusalOf) (As := [.int (G3.1 q1 1), .int (G3.1 q1 2), .int (G3.1 q1 4)]) (rest := []) hx hb hml hown hE hz (okX3_refusalToTake X l hfl rfl hw) qw_1021 qw_1022 qw_1023 qw_75 qw_1024 (myX3_refusalToTake) ⟨Nat.le_of_ble_eq_true rfl, Nat.le_of_ble_eq_true rfl⟩ (rv_X3 hE hP rfl) hP hD hS rfl hl.1 rfl (Nat.le_of_ble_eq_true rfl) dX8_refusalOf_108 ⟨Nat.le_of_ble_eq_true rfl, Nat.le_of_ble_eq_true rfl⟩) hS (fun r20 G19 H locs hw hP hD hS => ?_)
          obtain ⟨y21, hw⟩ := hw
          exact end_r hx hb hr hlk (Or.inl ⟨_, rfl⟩) hw hP hD hS dX8_refusalOf_111
        · replace hw := ite_f hw c18
          by_cases c22 : z5 = 4
          · replace hw := ite_t hw c22
            subst c22
            refine lv_tableIn (off := 101) (tgt := 112) hx hb dX8_refusalOf_11 (by decide) (by decide) (by decide) (by decide) ?_
            refine lv_aload_n hx hb dX8_refusalOf_112 rfl (lv_at hl 0 rfl) ?_
            refine gf_X8_0 hx hb hE hP hown rfl (hE.w qw_318 rfl _) dX8_refusalOf_113 ?_
            refine lv_aload_n hx hb dX8_refusalOf_116 rfl (lv_at hl 1 rfl) ?_
            refine gn_X4_1 hx hb hE hP hown h1 (hE.w qw_243 rfl _) dX8_refusalOf_117 ?_
            refine lv_aload_n hx hb dX8_refusalOf_120 rfl (lv_at hl 1 rfl) ?_
            refine gn_X4_2 hx hb hE hP hown h1 (hE.w qw_246 rfl _) dX8_refusalOf_121 ?_
            refine lv_aload_n hx hb dX8_refusalOf_124 rfl (lv_at hl 1 rfl) ?_
            refine gn_X4_3 hx hb hE hP hown h1 (hE.w qw_249 rfl _) dX8_refusalOf_125 ?_
            refine lv_aload_n hx hb dX8_refusalOf_128 rfl (lv_at hl 1 rfl) ?_
            refine gn_X4_4 hx hb hE hP hown h1 (hE.w qw_252 rfl _) dX8_refusalOf_129 ?_
            refine call_r (run_V (cc := cX8_refusalOf) (As := [.int (G3.1 q1 1), .int (G3.1 q1 2), .int (G3.1 q1 3), .int (G3.1 q1 4)]) (rest := []) hx hb hml hown hE hz (okX3_refusalToSwap X l hfl rfl hw) qw_1043 qw_1044 qw_1045 qw_75 qw_1046 (myX3_refusalToSwap) ⟨Nat.le_of_ble_eq_true rfl, Nat.le_of_ble_eq_true rfl⟩ (rv_X3 hE hP rfl) hP hD hS rfl hl.1 rfl (Nat.le_of_ble_eq_true rfl) dX8_refusalOf_132 ⟨Nat.le_of_ble_eq_true rfl, Nat.le_of_ble_eq_true rfl⟩) hS (fun r24 G23 H locs hw hP hD hS => ?_)
            obtain ⟨y25, hw⟩ := hw
            exact end_r hx hb hr hlk (Or.inl ⟨_, rfl⟩) hw hP hD hS dX8_refusalOf_135
          · replace hw := ite_f hw c22
            by_cases c26 : z5 = 5
            · replace hw := ite_t hw c26
              subst c26
              refine lv_tableIn (off := 125) (tgt := 136) hx hb dX8_refusalOf_11 (by decide) (by decide) (by decide) (by decide) ?_
              refine lv_aload_n hx hb dX8_refusalOf_136 rfl (lv_at hl 0 rfl) ?_
              refine gf_X8_0 hx hb hE hP hown rfl (hE.w qw_318 rfl _) dX8_refusalOf_137 ?_
              refine lv_aload_n hx hb dX8_refusalOf_140 rfl (lv_at hl 1 rfl) ?_
              refine gn_X4_1 hx hb hE hP hown h1 (hE.w qw_243 rfl _) dX8_refusalOf_141 ?_
              refine lv_aload_n hx hb dX8_refusalOf_144 rfl (lv_at hl 1 rfl) ?_
              refine gn_X4_4 hx hb hE hP hown h1 (hE.w qw_252 rfl _) dX8_refusalOf_145 ?_
              refine call_r (run_V (cc := cX8_refusalOf) (As := [.int (G3.1 q1 1), .int (G3.1 q1 4)]) (rest := []) hx hb hml hown hE hz (okX3_refusalToIssue X l hfl rfl hw) qw_1061 qw_1062 qw_1063 qw_75 qw_1064 (myX3_refusalToIssue) ⟨Nat.le_of_ble_eq_true rfl, Nat.le_of_ble_eq_true rfl⟩ (rv_X3 hE hP rfl) hP hD hS rfl hl.1 rfl (Nat.le_of_ble_eq_true rfl) dX8_refusalOf_148 ⟨Nat.le_of_ble_eq_true rfl, Nat.le_of_ble_eq_true rfl⟩) hS (fun r28 G27 H locs hw hP hD hS => ?_)
              obtain ⟨y29, hw⟩ := hw
              exact end_r hx hb hr hlk (Or.inl ⟨_, rfl⟩) hw hP hD hS dX8_refusalOf_151
            · replace hw := ite_f hw c26
              by_cases c30 : z5 = 6
              · replace hw := ite_t hw c30
                subst c30
                refine lv_tableIn (off := 141) (tgt := 152) hx hb dX8_refusalOf_11 (by decide) (by decide) (by decide) (by decide) ?_
                refine lv_aload_n hx hb dX8_refusalOf_152 rfl (lv_at hl 0 rfl) ?_
                refine gf_X8_0 hx hb hE hP hown rfl (hE.w qw_318 rfl _) dX8_refusalOf_153 ?_
                refine lv_aload_n hx hb dX8_refusalOf_156 rfl (lv_at hl 1 rfl) ?_
                refine gn_X4_1 hx hb hE hP hown h1 (hE.w qw_243 rfl _) dX8_refusalOf_157 ?_
                refine lv_aload_n hx hb dX8_refusalOf_160 rfl (lv_at hl 1 rfl) ?_
                refine gn_X4_4 hx hb hE hP hown h1 (hE.w qw_252 rfl _) dX8_refusalOf_161 ?_
                refine call_r (run_V (cc := cX8_refusalOf) (As := [.int (G3.1 q1 1), .int (G3.1 q1 4)]) (rest := []) hx hb hml hown hE hz (okX3_refusalToMelt X l hfl rfl hw) qw_1080 qw_1081 qw_1082 qw_75 qw_1083 (myX3_refusalToMelt) ⟨Nat.le_of_ble_eq_true rfl, Nat.le_of_ble_eq_true rfl⟩ (rv_X3 hE hP rfl) hP hD hS rfl hl.1 rfl (Nat.le_of_ble_eq_true rfl) dX8_refusalOf_164 ⟨Nat.le_of_ble_eq_true rfl, Nat.le_of_ble_eq_true rfl⟩) hS (fun r32 G31 H locs hw hP hD hS => ?_)
                obtain ⟨y33, hw⟩ := hw
                exact end_r hx hb hr hlk (Or.inl ⟨_, rfl⟩) hw hP hD hS dX8_refusalOf_167
              · replace hw := ite_f hw c30
                by_cases c34 : z5 = 7
                · replace hw := ite_t hw c34
                  subst c34
                  refine lv_tableIn (off := 157) (tgt := 168) hx hb dX8_refusalOf_11 (by decide) (by decide) (by decide) (by decide) ?_
                  refine lv_aload_n hx hb dX8_refusalOf_168 rfl (lv_at hl 0 rfl) ?_
                  refine gf_X8_0 hx hb hE hP hown rfl (hE.w qw_318 rfl _) dX8_refusalOf_169 ?_
                  refine lv_aload_n hx hb dX8_refusalOf_172 rfl (lv_at hl 1 rfl) ?_
                  refine gn_X4_1 hx hb hE hP hown h1 (hE.w qw_243 rfl _) dX8_refusalOf_173 ?_
                  refine call_r (run_V (cc := cX8_refusalOf) (As := [.int (G3.1 q1 1)]) (rest := []) hx hb hml hown hE hz (okX3_refusalToInspect X l hfl rfl hw) qw_1095 qw_1096 qw_1097 qw_75 qw_1098 (myX3_refusalToInspect) ⟨Nat.le_of_ble_eq_true rfl, Nat.le_of_ble_eq_true rfl⟩ (rv_X3 hE hP rfl) hP hD hS rfl hl.1 rfl (Nat.le_of_ble_eq_true rfl) dX8_refusalOf_176 ⟨Nat.le_of_ble_eq_true rfl, Nat.le_of_ble_eq_true rfl⟩) hS (fun r36 G35 H locs hw hP hD hS => ?_)
                  obtain ⟨y37, hw⟩ := hw
                  exact end_r hx hb hr hlk (Or.inl ⟨_, rfl⟩) hw hP hD hS dX8_refusalOf_179
                · replace hw := ite_f hw c34
                  by_cases c38 : z5 = 8
                  · replace hw := ite_t hw c38
                    subst c38
                    refine lv_tableIn (off := 169) (tgt := 180) hx hb dX8_refusalOf_11 (by decide) (by decide) (by decide) (by decide) ?_
                    refine lv_aload_n hx hb dX8_refusalOf_180 rfl (lv_at hl 0 rfl) ?_
                    refine gf_X8_0 hx hb hE hP hown rfl (hE.w qw_318 rfl _) dX8_refusalOf_181 ?_
                    refine lv_aload_n hx hb dX8_refusalOf_184 rfl (lv_at hl 1 rfl) ?_
                    refine gn_X4_2 hx hb hE hP hown h1 (hE.w qw_246 rfl _) dX8_refusalOf_185 ?_
                    refine lv_aload_n hx hb dX8_refusalOf_188 rfl (lv_at hl 1 rfl) ?_
                    refine gn_X4_4 hx hb hE hP hown h1 (hE.w qw_252 rfl _) dX8_refusalOf_189 ?_
                    refine call_r (run_V (cc := cX8_refusalOf) (As := [.int (G3.1 q1 2), .int (G3.1 q1 4)]) (rest := []) hx hb hml hown hE hz (okX3_refusalToRate X l hfl rfl hw) qw_1123 qw_1124 qw_1125 qw_75 qw_1126 (myX3_refusalToRate) ⟨Nat.le_of_ble_eq_true rfl, Nat.le_of_ble_eq_true rfl⟩ (rv_X3 hE hP rfl) hP hD hS rfl hl.1 rfl (Nat.le_of_ble_eq_true rfl) dX8_refusalOf_192 ⟨Nat.le_of_ble_eq_true rfl, Nat.le_of_ble_eq_true rfl⟩) hS (fun r40 G39 H locs hw hP hD hS => ?_)
                    obtain ⟨y41, hw⟩ := hw
                    exact end_r hx hb hr hlk (Or.inl ⟨_, rfl⟩) hw hP hD hS dX8_refusalOf_195
                  · replace hw := ite_f hw c38
                    by_cases c42 : z5 = 9
                    · replace hw := ite_t hw c42
                      subst c42
                      refine lv_tableIn (off := 185) (tgt := 196) hx hb dX8_refusalOf_11 (by decide) (by decide) (by decide) (by decide) ?_
                      refine lv_aload_n hx hb dX8_refusalOf_196 rfl (lv_at hl 0 rfl) ?_
                      refine gf_X8_0 hx hb hE hP hown rfl (hE.w qw_318 rfl _) dX8_refusalOf_197 ?_
                      refine lv_aload_n hx hb dX8_refusalOf_200 rfl (lv_at hl 1 rfl) ?_
                      refine gn_X4_1 hx hb hE hP hown h1 (hE.w qw_243 rfl _) dX8_refusalOf_201 ?_
                      refine lv_aload_n hx hb dX8_refusalOf_204 rfl (lv_at hl 1 rfl) ?_
                      refine gn_X4_4 hx hb hE hP hown h1 (hE.w qw_252 rfl _) dX8_refusalOf_205 ?_
                      refine call_r (run_V (cc := cX8_refusalOf) (As := [.int (G3.1 q1 1), .int (G3.1 q1 4)]) (rest := []) hx hb hml hown hE hz (okX3_refusalToStick X l hfl rfl hw) qw_1138 qw_1139 qw_1140 qw_75 qw_1141 (myX3_refusalToStick) ⟨Nat.le_of_ble_eq_true rfl, Nat.le_of_ble_eq_true rfl⟩ (rv_X3 hE hP rfl) hP hD hS rfl hl.1 rfl (Nat.le_of_ble_eq_true rfl) dX8_refusalOf_208 ⟨Nat.le_of_ble_eq_true rfl, Nat.le_of_ble_eq_true rfl⟩) hS (fun r44 G43 H locs hw hP hD hS => ?_)
                      obtain ⟨y45, hw⟩ := hw
                      exact end_r hx hb hr hlk (Or.inl ⟨_, rfl⟩) hw hP hD hS dX8_refusalOf_211
                    · replace hw := ite_f hw c42
                      exact hw.elim
def wpX8_carryOut (post : GS → Prop) (q1 : Nat) (G : GS) : Prop :=
  (G.1 q1 0).toNatClampNeg < 10 ∧
  wpOrd (fun (r2 : Int32) (G3 : GS) =>
  vp_in r2 10 ∧
    ∀ z5 : Int32, z5 = ([1, 2, 3, 4, 5, 6, 7, 8, 9, 0] : List Int32).getD r2.toNatClampNeg 0 →
    if z5.toInt < 1 ∨ 9 < z5.toInt then
    wpX3_letPass (fun (r7 : Int32) (G6 : GS) =>
      post G6) 0 (G3.1 q1 4) G3
  else if z5 = 1 then
    wpX3_open (fun (r11 : Int32) (G10 : GS) =>
      post G10) 0 (G3.1 q1 4) G3
  else if z5 = 2 then
    wpX3_put (fun (r14 : Int32) (G13 : GS) =>
      post G13) 0 (G3.1 q1 1) (G3.1 q1 2) (G3.1 q1 4) G3
  else if z5 = 3 then
    wpX3_take (fun (r17 : Int32) (G16 : GS) =>
      post G16) 0 (G3.1 q1 1) (G3.1 q1 2) (G3.1 q1 4) G3
  else if z5 = 4 then
    wpX3_swap (fun (r20 : Int32) (G19 : GS) =>
      post G19) 0 (G3.1 q1 1) (G3.1 q1 2) (G3.1 q1 3) (G3.1 q1 4) G3
  else if z5 = 5 then
    wpX3_issue (fun (r23 : Int32) (G22 : GS) =>
      post G22) 0 (G3.1 q1 1) (G3.1 q1 4) G3
  else if z5 = 6 then
    wpX3_melt (fun (r26 : Int32) (G25 : GS) =>
      post G25) 0 (G3.1 q1 1) (G3.1 q1 4) G3
  else if z5 = 7 then
    wpX3_inspect (fun (r29 : Int32) (G28 : GS) =>
      post G28) 0 (G3.1 q1 1) G3
  else if z5 = 8 then
    wpX3_changeRate (fun (r32 : Int32) (G31 : GS) =>
      post G31) 0 (G3.1 q1 2) (G3.1 q1 4) G3
  else if z5 = 9 then
    wpX3_changeStickiness (fun (r35 : Int32) (G34 : GS) =>
      post G34) 0 (G3.1 q1 1) (G3.1 q1 4) G3
  else False) ((G.1 q1 0).toNatClampNeg) G
set_option maxHeartbeats 4000000 in
set_option maxRecDepth 100000 in
theorem okX8_carryOut (X : Cx) (l : Launch) (hfl : l.stackTraces = false) {post : GS → Prop} {q1 : Nat} {G : GS} (h1 : kd q1 = 10) (hw : wpX8_carryOut post q1 G) : CT X l yX8_carryOut cX8_carryOut 2 none 6 0 0 [.ref (xa X 165), .ref (xa X q1)] G (Qv X post) := by
  refine mbegin (by decide) (Nat.le_of_ble_eq_true rfl) (fun p e s m below meth c hx hb hr hml hlk hown hE hz ls hl hP hD hS => ?_)
  have hl : lv_has ls 2 [(0, .ref (xa X 165)), (1, .ref (xa X q1))] := hl
  have hown : s.vm.findClass "FlyTreasury" = some m.cls := hown
  unfold wpX8_carryOut at hw
  refine va_gets hx hb hE.zC hS hown (hE.w qw_1513 rfl _) (fun _ h9 => h9) dX8_carryOut_0 ?_
  refine lv_aload_n hx hb dX8_carryOut_3 rfl (lv_at hl 1 rfl) ?_
  obtain ⟨y1, hw⟩ := hw
  refine gn_X4_0 hx hb hE hP hown h1 (hE.w qw_240 rfl _) dX8_carryOut_4 ?_
  refine call_i (run_ord1 (cc := cX8_carryOut) hx hb hml hown hE hz y1 qw_1515 qw_1516 qw_1517 hP hD hS hl.1 (Nat.le_of_ble_eq_true rfl) dX8_carryOut_7 ⟨Nat.le_of_ble_eq_true rfl, Nat.le_of_ble_eq_true rfl⟩ ⟨Nat.le_of_ble_eq_true rfl, Nat.le_of_ble_eq_true rfl⟩ hw) hS (fun r2 G3 H locs hw hP hD hS => ?_)
  obtain ⟨y4, hw⟩ := hw
  refine va_ti hx hb hE.tC hS y4 rfl dX8_carryOut_10 ?_
  refine lv_topi (fun z5 ez5 => ?_)
  replace hw := hw z5 ez5
  by_cases c8 : z5.toInt < 1 ∨ 9 < z5.toInt
  · replace hw := ite_t hw c8
    refine lv_tableOut (tgt := 239) hx hb dX8_carryOut_11 c8 (by decide) ?_
    refine lv_aload_n hx hb dX8_carryOut_239 rfl (lv_at hl 0 rfl) ?_
    refine gf_X8_0 hx hb hE hP hown rfl (hE.w qw_318 rfl _) dX8_carryOut_240 ?_
    refine lv_aload_n hx hb dX8_carryOut_243 rfl (lv_at hl 1 rfl) ?_
    refine gn_X4_4 hx hb hE hP hown h1 (hE.w qw_252 rfl _) dX8_carryOut_244 ?_
    refine call_i (run_V (cc := cX8_carryOut) (As := [.int (G3.1 q1 4)]) (rest := []) hx hb hml hown hE hz (okX3_letPass X l hfl rfl hw) qw_1157 qw_1158 qw_1159 qw_75 qw_1160 (myX3_letPass) ⟨Nat.le_of_ble_eq_true rfl, Nat.le_of_ble_eq_true rfl⟩ (rv_X3 hE hP rfl) hP hD hS rfl hl.1 rfl (Nat.le_of_ble_eq_true rfl) dX8_carryOut_247 ⟨Nat.le_of_ble_eq_true rfl, Nat.le_of_ble_eq_true rfl⟩) hS (fun r7 G6 H locs hw hP hD hS => ?_)
    refine lv_pop hx hb dX8_carryOut_250 rfl ?_
    exact end_v hx hb hr hlk hw hP hD hS dX8_carryOut_251
  · replace hw := ite_f hw c8
    by_cases c9 : z5 = 1
    · replace hw := ite_t hw c9
      subst c9
      refine lv_tableIn (off := 49) (tgt := 60) hx hb dX8_carryOut_11 (by decide) (by decide) (by decide) (by decide) ?_
      refine lv_aload_n hx hb dX8_carryOut_60 rfl (lv_at hl 0 rfl) ?_
      refine gf_X8_0 hx hb hE hP hown rfl (hE.w qw_318 rfl _) dX8_carryOut_61 ?_
      refine lv_aload_n hx hb dX8_carryOut_64 rfl (lv_at hl 1 rfl) ?_
      refine gn_X4_4 hx hb hE hP hown h1 (hE.w qw_252 rfl _) dX8_carryOut_65 ?_
      refine call_i (run_V (cc := cX8_carryOut) (As := [.int (G3.1 q1 4)]) (rest := []) hx hb hml hown hE hz (okX3_open X l hfl rfl hw) qw_938 qw_939 qw_940 qw_75 qw_941 (myX3_open) ⟨Nat.le_of_ble_eq_true rfl, Nat.le_of_ble_eq_true rfl⟩ (rv_X3 hE hP rfl) hP hD hS rfl hl.1 rfl (Nat.le_of_ble_eq_true rfl) dX8_carryOut_68 ⟨Nat.le_of_ble_eq_true rfl, Nat.le_of_ble_eq_true rfl⟩) hS (fun r11 G10 H locs hw hP hD hS => ?_)
      refine lv_pop hx hb dX8_carryOut_71 rfl ?_
      refine lv_goto (tgt := 251) hx hb dX8_carryOut_72 (by decide) ?_
      exact end_v hx hb hr hlk hw hP hD hS dX8_carryOut_251
    · replace hw := ite_f hw c9
      by_cases c12 : z5 = 2
      · replace hw := ite_t hw c12
        subst c12
        refine lv_tableIn (off := 64) (tgt := 75) hx hb dX8_carryOut_11 (by decide) (by decide) (by decide) (by decide) ?_
        refine lv_aload_n hx hb dX8_carryOut_75 rfl (lv_at hl 0 rfl) ?_
        refine gf_X8_0 hx hb hE hP hown rfl (hE.w qw_318 rfl _) dX8_carryOut_76 ?_
        refine lv_aload_n hx hb dX8_carryOut_79 rfl (lv_at hl 1 rfl) ?_
        refine gn_X4_1 hx hb hE hP hown h1 (hE.w qw_243 rfl _) dX8_carryOut_80 ?_
        refine lv_aload_n hx hb dX8_carryOut_83 rfl (lv_at hl 1 rfl) ?_
        refine gn_X4_2 hx hb hE hP hown h1 (hE.w qw_246 rfl _) dX8_carryOut_84 ?_
        refine lv_aload_n hx hb dX8_carryOut_87 rfl (lv_at hl 1 rfl) ?_
        refine gn_X4_4 hx hb hE hP hown h1 (hE.w qw_252 rfl _) dX8_carryOut_88 ?_
        refine call_i (run_V (cc := cX8_carryOut) (As := [.int (G3.1 q1 1), .int (G3.1 q1 2), .int (G3.1 q1 4)]) (rest := []) hx hb hml hown hE hz (okX3_put X l hfl rfl hw) qw_1009 qw_1010 qw_1011 qw_75 qw_1012 (myX3_put) ⟨Nat.le_of_ble_eq_true rfl, Nat.le_of_ble_eq_true rfl⟩ (rv_X3 hE hP rfl) hP hD hS rfl hl.1 rfl (Nat.le_of_ble_eq_true rfl) dX8_carryOut_91 ⟨Nat.le_of_ble_eq_true rfl, Nat.le_of_ble_eq_true rfl⟩) hS (fun r14 G13 H locs hw hP hD hS => ?_)
        refine lv_pop hx hb dX8_carryOut_94 rfl ?_
        refine lv_goto (tgt := 251) hx hb dX8_carryOut_95 (by decide) ?_
        exact end_v hx hb hr hlk hw hP hD hS dX8_carryOut_251
      · replace hw := ite_f hw c12
        by_cases c15 : z5 = 3
        · replace hw := ite_t hw c15
          subst c15
          refine lv_tableIn (off := 87) (tgt := 98) hx hb dX8_carryOut_11 (by decide) (by decide) (by decide) (by decide) ?_
          refine lv_aload_n hx hb dX8_carryOut_98 rfl (lv_at hl 0 rfl) ?_
          refine gf_X8_0 hx hb hE hP hown rfl (hE.w qw_318 rfl _) dX8_carryOut_99 ?_
          refine lv_aload_n hx hb dX8_carryOut_102 rfl (lv_at hl 1 rfl) ?_
          refine gn_X4_1 hx hb hE hP hown h1 (hE.w qw_243 rfl _) dX8_carryOut_103 ?_
          refine lv_aload_n hx hb dX8_carryOut_106 rfl (lv_at hl 1 rfl) ?_
          refine gn_X4_2 hx hb hE hP hown h1 (hE.w qw_246 rfl _) dX8_carryOut_107 ?_
          refine lv_aload_n hx hb dX8_carryOut_110 rfl (lv_at hl 1 rfl) ?_
          refine gn_X4_4 hx hb hE hP hown h1 (hE.w qw_252 rfl _) dX8_carryOut_111 ?_
          refine call_i (run_V (cc := cX8_carryOut) (As := [.int (G3.1 q1 1), .int (G3.1 q1 2), .int (G3.1 q1 4)]) (rest := []) hx hb hml hown hE hz (okX3_take X l hfl rfl hw) qw_1032 qw_1033 qw_1034 qw_75 qw_1035 (myX3_take) ⟨Nat.le_of_ble_eq_true rfl, Nat.le_of_ble_eq_true rfl⟩ (rv_X3 hE hP rfl) hP hD hS rfl hl.1 rfl (Nat.le_of_ble_eq_true rfl) dX8_carryOut_114 ⟨Nat.le_of_ble_eq_true rfl, Nat.le_of_ble_eq_true rfl⟩) hS (fun r17 G16 H locs hw hP hD hS => ?_)
          refine lv_pop hx hb dX8_carryOut_117 rfl ?_
          refine lv_goto (tgt := 251) hx hb dX8_carryOut_118 (by decide) ?_
          exact end_v hx hb hr hlk hw hP hD hS dX8_carryOut_251
        · replace hw := ite_f hw c15
          by_cases c18 : z5 = 4
          · replace hw := ite_t hw c18
            subst c18
            refine lv_tableIn (off := 110) (tgt := 121) hx hb dX8_carryOut_11 (by decide) (by decide) (by decide) (by decide) ?_
            refine lv_aload_n hx hb dX8_carryOut_121 rfl (lv_at hl 0 rfl) ?_
            refine gf_X8_0 hx hb hE hP hown rfl (hE.w qw_318 rfl _) dX8_carryOut_122 ?_
            refine lv_aload_n hx hb dX8_carryOut_125 rfl (lv_at hl 1 rfl) ?_
            refine gn_X4_1 hx hb hE hP hown h1 (hE.w qw_243 rfl _) dX8_carryOut_126 ?_
            refine lv_aload_n hx hb dX8_carryOut_129 rfl (lv_at hl 1 rfl) ?_
            refine gn_X4_2 hx hb hE hP hown h1 (hE.w qw_246 rfl _) dX8_carryOut_130 ?_
            refine lv_aload_n hx hb dX8_carryOut_133 rfl (lv_at hl 1 rfl) ?_
            refine gn_X4_3 hx hb hE hP hown h1 (hE.w qw_249 rfl _) dX8_carryOut_134 ?_
            refine lv_aload_n hx hb dX8_carryOut_137 rfl (lv_at hl 1 rfl) ?_
            refine gn_X4_4 hx hb hE hP hown h1 (hE.w qw_252 rfl _) dX8_carryOut_138 ?_
            refine call_i (run_V (cc := cX8_carryOut) (As := [.int (G3.1 q1 1), .int (G3.1 q1 2), .int (G3.1 q1 3), .int (G3.1 q1 4)]) (rest := []) hx hb hml hown hE hz (okX3_swap X l hfl rfl hw) qw_1050 qw_1051 qw_1052 qw_75 qw_1053 (myX3_swap) ⟨Nat.le_of_ble_eq_true rfl, Nat.le_of_ble_eq_true rfl⟩ (rv_X3 hE hP rfl) hP hD hS rfl hl.1 rfl (Nat.le_of_ble_eq_true rfl) dX8_carryOut_141 ⟨Nat.le_of_ble_eq_true rfl, Nat.le_of_ble_eq_true rfl⟩) hS (fun r20 G19 H locs hw hP hD hS => ?_)
            refine lv_pop hx hb dX8_carryOut_144 rfl ?_
            refine lv_goto (tgt := 251) hx hb dX8_carryOut_145 (by decide) ?_
            exact end_v hx hb hr hlk hw hP hD hS dX8_carryOut_251
          · replace hw := ite_f hw c18
            by_cases c21 : z5 = 5
            · replace hw := ite_t hw c21
              subst c21
              refine lv_tableIn (off := 137) (tgt := 148) hx hb dX8_carryOut_11 (by decide) (by decide) (by decide) (by decide) ?_
              refine lv_aload_n hx hb dX8_carryOut_148 rfl (lv_at hl 0 rfl) ?_
              refine gf_X8_0 hx hb hE hP hown rfl (hE.w qw_318 rfl _) dX8_carryOut_149 ?_
              refine lv_aload_n hx hb dX8_carryOut_152 rfl (lv_at hl 1 rfl) ?_
              refine gn_X4_1 hx hb hE hP hown h1 (hE.w qw_243 rfl _) dX8_carryOut_153 ?_
              refine lv_aload_n hx hb dX8_carryOut_156 rfl (lv_at hl 1 rfl) ?_
              refine gn_X4_4 hx hb hE hP hown h1 (hE.w qw_252 rfl _) dX8_carryOut_157 ?_
              refine call_i (run_V (cc := cX8_carryOut) (As := [.int (G3.1 q1 1), .int (G3.1 q1 4)]) (rest := []) hx hb hml hown hE hz (okX3_issue X l hfl rfl hw) qw_1069 qw_1070 qw_1071 qw_75 qw_1072 (myX3_issue) ⟨Nat.le_of_ble_eq_true rfl, Nat.le_of_ble_eq_true rfl⟩ (rv_X3 hE hP rfl) hP hD hS rfl hl.1 rfl (Nat.le_of_ble_eq_true rfl) dX8_carryOut_160 ⟨Nat.le_of_ble_eq_true rfl, Nat.le_of_ble_eq_true rfl⟩) hS (fun r23 G22 H locs hw hP hD hS => ?_)
              refine lv_pop hx hb dX8_carryOut_163 rfl ?_
              refine lv_goto (tgt := 251) hx hb dX8_carryOut_164 (by decide) ?_
              exact end_v hx hb hr hlk hw hP hD hS dX8_carryOut_251
            · replace hw := ite_f hw c21
              by_cases c24 : z5 = 6
              · replace hw := ite_t hw c24
                subst c24
                refine lv_tableIn (off := 156) (tgt := 167) hx hb dX8_carryOut_11 (by decide) (by decide) (by decide) (by decide) ?_
                refine lv_aload_n hx hb dX8_carryOut_167 rfl (lv_at hl 0 rfl) ?_
                refine gf_X8_0 hx hb hE hP hown rfl (hE.w qw_318 rfl _) dX8_carryOut_168 ?_
                refine lv_aload_n hx hb dX8_carryOut_171 rfl (lv_at hl 1 rfl) ?_
                refine gn_X4_1 hx hb hE hP hown h1 (hE.w qw_243 rfl _) dX8_carryOut_172 ?_
                refine lv_aload_n hx hb dX8_carryOut_175 rfl (lv_at hl 1 rfl) ?_
                refine gn_X4_4 hx hb hE hP hown h1 (hE.w qw_252 rfl _) dX8_carryOut_176 ?_
                refine call_i (run_V (cc := cX8_carryOut) (As := [.int (G3.1 q1 1), .int (G3.1 q1 4)]) (rest := []) hx hb hml hown hE hz (okX3_melt X l hfl rfl hw) qw_1084 qw_1085 qw_1086 qw_75 qw_1087 (myX3_melt) ⟨Nat.le_of_ble_eq_true rfl, Nat.le_of_ble_eq_true rfl⟩ (rv_X3 hE hP rfl) hP hD hS rfl hl.1 rfl (Nat.le_of_ble_eq_true rfl) dX8_carryOut_179 ⟨Nat.le_of_ble_eq_true rfl, Nat.le_of_ble_eq_true rfl⟩) hS (fun r26 G25 H locs hw hP hD hS => ?_)
                refine lv_pop hx hb dX8_carryOut_182 rfl ?_
                refine lv_goto (tgt := 251) hx hb dX8_carryOut_183 (by decide) ?_
                exact end_v hx hb hr hlk hw hP hD hS dX8_carryOut_251
              · replace hw := ite_f hw c24
                by_cases c27 : z5 = 7
                · replace hw := ite_t hw c27
                  subst c27
                  refine lv_tableIn (off := 175) (tgt := 186) hx hb dX8_carryOut_11 (by decide) (by decide) (by decide) (by decide) ?_
                  refine lv_aload_n hx hb dX8_carryOut_186 rfl (lv_at hl 0 rfl) ?_
                  refine gf_X8_0 hx hb hE hP hown rfl (hE.w qw_318 rfl _) dX8_carryOut_187 ?_
                  refine lv_aload_n hx hb dX8_carryOut_190 rfl (lv_at hl 1 rfl) ?_
                  refine gn_X4_1 hx hb hE hP hown h1 (hE.w qw_243 rfl _) dX8_carryOut_191 ?_
                  refine call_i (run_V (cc := cX8_carryOut) (As := [.int (G3.1 q1 1)]) (rest := []) hx hb hml hown hE hz (okX3_inspect X l hfl rfl hw) qw_1099 qw_1100 qw_1101 qw_75 qw_1102 (myX3_inspect) ⟨Nat.le_of_ble_eq_true rfl, Nat.le_of_ble_eq_true rfl⟩ (rv_X3 hE hP rfl) hP hD hS rfl hl.1 rfl (Nat.le_of_ble_eq_true rfl) dX8_carryOut_194 ⟨Nat.le_of_ble_eq_true rfl, Nat.le_of_ble_eq_true rfl⟩) hS (fun r29 G28 H locs hw hP hD hS => ?_)
                  refine lv_pop hx hb dX8_carryOut_197 rfl ?_
                  refine lv_goto (tgt := 251) hx hb dX8_carryOut_198 (by decide) ?_
                  exact end_v hx hb hr hlk hw hP hD hS dX8_carryOut_251
                · replace hw := ite_f hw c27
                  by_cases c30 : z5 = 8
                  · replace hw := ite_t hw c30
                    subst c30
                    refine lv_tableIn (off := 190) (tgt := 201) hx hb dX8_carryOut_11 (by decide) (by decide) (by decide) (by decide) ?_
                    refine lv_aload_n hx hb dX8_carryOut_201 rfl (lv_at hl 0 rfl) ?_
                    refine gf_X8_0 hx hb hE hP hown rfl (hE.w qw_318 rfl _) dX8_carryOut_202 ?_
                    refine lv_aload_n hx hb dX8_carryOut_205 rfl (lv_at hl 1 rfl) ?_
                    refine gn_X4_2 hx hb hE hP hown h1 (hE.w qw_246 rfl _) dX8_carryOut_206 ?_
                    refine lv_aload_n hx hb dX8_carryOut_209 rfl (lv_at hl 1 rfl) ?_
                    refine gn_X4_4 hx hb hE hP hown h1 (hE.w qw_252 rfl _) dX8_carryOut_210 ?_
                    refine call_i (run_V (cc := cX8_carryOut) (As := [.int (G3.1 q1 2), .int (G3.1 q1 4)]) (rest := []) hx hb hml hown hE hz (okX3_changeRate X l hfl rfl hw) qw_1127 qw_1128 qw_1129 qw_75 qw_1130 (myX3_changeRate) ⟨Nat.le_of_ble_eq_true rfl, Nat.le_of_ble_eq_true rfl⟩ (rv_X3 hE hP rfl) hP hD hS rfl hl.1 rfl (Nat.le_of_ble_eq_true rfl) dX8_carryOut_213 ⟨Nat.le_of_ble_eq_true rfl, Nat.le_of_ble_eq_true rfl⟩) hS (fun r32 G31 H locs hw hP hD hS => ?_)
                    refine lv_pop hx hb dX8_carryOut_216 rfl ?_
                    refine lv_goto (tgt := 251) hx hb dX8_carryOut_217 (by decide) ?_
                    exact end_v hx hb hr hlk hw hP hD hS dX8_carryOut_251
                  · replace hw := ite_f hw c30
                    by_cases c33 : z5 = 9
                    · replace hw := ite_t hw c33
                      subst c33
                      refine lv_tableIn (off := 209) (tgt := 220) hx hb dX8_carryOut_11 (by decide) (by decide) (by decide) (by decide) ?_
                      refine lv_aload_n hx hb dX8_carryOut_220 rfl (lv_at hl 0 rfl) ?_
                      refine gf_X8_0 hx hb hE hP hown rfl (hE.w qw_318 rfl _) dX8_carryOut_221 ?_
                      refine lv_aload_n hx hb dX8_carryOut_224 rfl (lv_at hl 1 rfl) ?_
                      refine gn_X4_1 hx hb hE hP hown h1 (hE.w qw_243 rfl _) dX8_carryOut_225 ?_
                      refine lv_aload_n hx hb dX8_carryOut_228 rfl (lv_at hl 1 rfl) ?_
                      refine gn_X4_4 hx hb hE hP hown h1 (hE.w qw_252 rfl _) dX8_carryOut_229 ?_
                      refine call_i (run_V (cc := cX8_carryOut) (As := [.int (G3.1 q1 1), .int (G3.1 q1 4)]) (rest := []) hx hb hml hown hE hz (okX3_changeStickiness X l hfl rfl hw) qw_1142 qw_1143 qw_1144 qw_75 qw_1145 (myX3_changeStickiness) ⟨Nat.le_of_ble_eq_true rfl, Nat.le_of_ble_eq_true rfl⟩ (rv_X3 hE hP rfl) hP hD hS rfl hl.1 rfl (Nat.le_of_ble_eq_true rfl) dX8_carryOut_232 ⟨Nat.le_of_ble_eq_true rfl, Nat.le_of_ble_eq_true rfl⟩) hS (fun r35 G34 H locs hw hP hD hS => ?_)
                      refine lv_pop hx hb dX8_carryOut_235 rfl ?_
                      refine lv_goto (tgt := 251) hx hb dX8_carryOut_236 (by decide) ?_
                      exact end_v hx hb hr hlk hw hP hD hS dX8_carryOut_251
                    · replace hw := ite_f hw c33
                      exact hw.elim
def wlX8_firstRefusedOrder_2 (post : Int32 → GS → Prop) : Nat → GS → Int32 → Prop
  | 0, _, _ => False
  | n + 1, G, v1 =>
    if (G.1 168 4) ≤ v1 then
  post (-1) G
else
  if 16 ≤ v1 then
    post (-1) G
  else
    vp_in v1 16 ∧
      wpX8_refusalOf (fun (r5 : Nat) (G4 : GS) =>
      r5 < 5 ∧
        if r5 = 0 then
        vp_in v1 16 ∧
          wpX8_carryOut (fun (G9 : GS) =>
          ∀ z10 : Int32, z10 = v1 + 1 →
            wlX8_firstRefusedOrder_2 post n G9 z10) (171 + v1.toNatClampNeg) G4
      else
        post v1 G4) (171 + v1.toNatClampNeg) G
def wpX8_firstRefusedOrder (post : Int32 → GS → Prop) (G : GS) : Prop :=
  ∃ nn, wlX8_firstRefusedOrder_2 post nn G 0
set_option maxHeartbeats 4000000 in
set_option maxRecDepth 100000 in
theorem okX8_firstRefusedOrder (X : Cx) (l : Launch) (hfl : l.stackTraces = false) {post : Int32 → GS → Prop}  {G : GS}  (hw : wpX8_firstRefusedOrder post G) : CT X l yX8_firstRefusedOrder cX8_firstRefusedOrder 2 (some FieldType.int) 7 0 0 [.ref (xa X 165)] G (Qi X post) := by
  refine mbegin (by decide) (Nat.le_of_ble_eq_true rfl) (fun p e s m below meth c hx hb hr hml hlk hown hE hz ls hl hP hD hS => ?_)
  have hl : lv_has ls 2 [(0, .ref (xa X 165))] := hl
  have hown : s.vm.findClass "FlyTreasury" = some m.cls := hown
  have L2 : ∀ (n2 : Nat) (G : GS) (v1 : Int32) (H : Heap) (locs : List Loc) (ls : Array Slot), wlX8_firstRefusedOrder_2 post n2 G v1 → va_P (xD X) vwCl (pool X G) H → va_D (xA X) (pool X G) → va_S (xA X) s.heap H locs → lv_has ls 2 [(0, .ref (xa X 165)), (1, .int v1)] → W p l e (rmL 7 0 0) s m [.ref (xa X 165)].toArray below meth c H locs 0 0 (MQ below (Qi X post) [.ref (xa X 165)].toArray s 0 0 (xA X)) (F0 m 2 ls []) := by
    intro n2
    induction n2 with
    | zero => intro G v1  H locs ls hw; exact hw.elim
    | succ n2 ih2 =>
      intro G v1  H locs ls hw hP hD hS hl
      rw [wlX8_firstRefusedOrder_2] at hw
      refine lv_iload_n hx hb dX8_firstRefusedOrder_2 rfl (lv_at hl 1 rfl) ?_
      refine lv_aload_n hx hb dX8_firstRefusedOrder_3 rfl (lv_at hl 0 rfl) ?_
      refine gf_X8_4 hx hb hE hP hown rfl (hE.w qw_322 rfl _) dX8_firstRefusedOrder_4 ?_
      refine gn_X6_4 hx hb hE hP hown rfl (hE.w qw_273 rfl _) dX8_firstRefusedOrder_7 ?_
      refine lv_icmp_ge (tgt := 59) hx hb dX8_firstRefusedOrder_10 (by decide) (fun c11 => ?_) (fun c11 => ?_)
      · replace hw := ite_t hw c11
        refine lv_iconst (v := -1) hx hb dX8_firstRefusedOrder_59 (by decide) ?_
        exact end_i hx hb hr hlk rfl hw hP hD hS dX8_firstRefusedOrder_60
      · replace hw := ite_f hw c11
        refine lv_iload_n hx hb dX8_firstRefusedOrder_13 rfl (lv_at hl 1 rfl) ?_
        refine lv_bipush (v := 16) hx hb dX8_firstRefusedOrder_14 (by decide) ?_
        refine lv_icmp_ge (tgt := 59) hx hb dX8_firstRefusedOrder_16 (by decide) (fun c12 => ?_) (fun c12 => ?_)
        · replace hw := ite_t hw c12
          refine lv_iconst (v := -1) hx hb dX8_firstRefusedOrder_59 (by decide) ?_
          exact end_i hx hb hr hlk rfl hw hP hD hS dX8_firstRefusedOrder_60
        · replace hw := ite_f hw c12
          refine lv_aload_n hx hb dX8_firstRefusedOrder_19 rfl (lv_at hl 0 rfl) ?_
          refine lv_aload_n hx hb dX8_firstRefusedOrder_20 rfl (lv_at hl 0 rfl) ?_
          refine gf_X8_4 hx hb hE hP hown rfl (hE.w qw_322 rfl _) dX8_firstRefusedOrder_21 ?_
          refine gn_X6_1 hx hb hE hP hown rfl (hE.w qw_267 rfl _) dX8_firstRefusedOrder_24 ?_
          refine lv_iload_n hx hb dX8_firstRefusedOrder_27 rfl (lv_at hl 1 rfl) ?_
          obtain ⟨y13, hw⟩ := hw
          refine ald_9 hx hb hE hP rfl y13 dX8_firstRefusedOrder_28 ?_
          refine call_r (run_V (cc := cX8_firstRefusedOrder) (As := [.ref (xa X (171 + v1.toNatClampNeg))]) (rest := []) hx hb hml hown hE hz (okX8_refusalOf X l hfl (k9_e y13) hw) qw_1509 qw_1511 qw_17 qw_74 qw_1512 (myX8_refusalOf) ⟨Nat.le_of_ble_eq_true rfl, Nat.le_of_ble_eq_true rfl⟩ (rv_X8 hE hP rfl) hP hD hS rfl hl.1 rfl (Nat.le_of_ble_eq_true rfl) dX8_firstRefusedOrder_29 ⟨Nat.le_of_ble_eq_true rfl, Nat.le_of_ble_eq_true rfl⟩) hS (fun r15 G14 H locs hw hP hD hS => ?_)
          obtain ⟨y16, hw⟩ := hw
          refine va_gets hx hb (en_Z0 hE (i := 0) (by decide)) hS hown (hE.w qw_1518 rfl _) (fun _ h9 => h9) dX8_firstRefusedOrder_32 ?_
          refine lv_acmp_eq (rx := some (xk X 0 r15)) (ry := some (xk X 0 0)) (tgt := 40) hx hb dX8_firstRefusedOrder_35 (by decide) (fun c17 => ?_) (fun c17 => ?_)
          · replace hw := ite_t hw (enI0 hE y16 (by decide) (Option.some.inj c17))
            refine lv_aload_n hx hb dX8_firstRefusedOrder_40 rfl (lv_at hl 0 rfl) ?_
            refine lv_aload_n hx hb dX8_firstRefusedOrder_41 rfl (lv_at hl 0 rfl) ?_
            refine gf_X8_4 hx hb hE hP hown rfl (hE.w qw_322 rfl _) dX8_firstRefusedOrder_42 ?_
            refine gn_X6_1 hx hb hE hP hown rfl (hE.w qw_267 rfl _) dX8_firstRefusedOrder_45 ?_
            refine lv_iload_n hx hb dX8_firstRefusedOrder_48 rfl (lv_at hl 1 rfl) ?_
            obtain ⟨y18, hw⟩ := hw
            refine ald_9 hx hb hE hP rfl y18 dX8_firstRefusedOrder_49 ?_
            refine call_v (run_V (cc := cX8_firstRefusedOrder) (As := [.ref (xa X (171 + v1.toNatClampNeg))]) (rest := []) hx hb hml hown hE hz (okX8_carryOut X l hfl (k9_e y18) hw) qw_1519 qw_1521 qw_18 qw_74 qw_1522 (myX8_carryOut) ⟨Nat.le_of_ble_eq_true rfl, Nat.le_of_ble_eq_true rfl⟩ (rv_X8 hE hP rfl) hP hD hS rfl hl.1 rfl (Nat.le_of_ble_eq_true rfl) dX8_firstRefusedOrder_50 ⟨Nat.le_of_ble_eq_true rfl, Nat.le_of_ble_eq_true rfl⟩) hS (fun G19 H locs hw hP hD hS => ?_)
            obtain ⟨z20, ez20⟩ : ∃ y : Int32, y = v1 + 1 := ⟨_, rfl⟩
            replace hw := hw z20 ez20
            refine lv_iinc (v := z20) (lv' := [(1, .int z20), (0, .ref (xa X 165))]) hx hb dX8_firstRefusedOrder_53 hl (k := 1) rfl (by rw [ez20]; rfl) (by decide) rfl (fun ls hl => ?_)
            refine lv_goto (tgt := 2) hx hb dX8_firstRefusedOrder_56 (by decide) ?_
            exact ih2 G19 z20  _ _ _ hw hP hD hS (lv_sub hl [1, 0] rfl)
          · replace hw := ite_f hw (fun e => c17 (by rw [e]))
            refine lv_iload_n hx hb dX8_firstRefusedOrder_38 rfl (lv_at hl 1 rfl) ?_
            exact end_i hx hb hr hlk rfl hw hP hD hS dX8_firstRefusedOrder_39
  unfold wpX8_firstRefusedOrder at hw
  refine lv_iconst (v := 0) hx hb dX8_firstRefusedOrder_0 (by decide) ?_
  refine lv_istore_n (lv' := [(1, .int 0), (0, .ref (xa X 165))]) hx hb dX8_firstRefusedOrder_1 rfl hl (by decide) rfl (fun ls hl => ?_)
  obtain ⟨nn, hw⟩ := hw
  exact L2 nn G 0  _ _ _ hw hP hD hS (lv_sub hl [1, 0] rfl)
def wpX8_runScript (post : Int32 → GS → Prop) (xpost : String → GS → Prop) (G : GS) : Prop :=
  wpX6_parse (fun (r2 : Int32) (G1 : GS) =>
  ∀ G3 : GS, G3 = gI G1 168 2 0 →
    if r2 = 0 then
    ∀ G12 : GS, G12 = gI G3 165 7 (G3.1 168 3) →
      xpost "java/lang/IllegalArgumentException" G12
  else
    wpX3_copyFrom (fun (G5 : GS) =>
      wpX8_firstRefusedOrder (fun (r7 : Int32) (G6 : GS) =>
        if r7 < 0 then
          wpX2_remember (fun (G9 : GS) =>
            post (G9.1 168 4) G9) 30 G6
        else
          wpX3_copyFrom (fun (G10 : GS) =>
            ∀ G11 : GS, G11 = gI G10 165 8 r7 →
              xpost "java/lang/IllegalStateException" G11) 0 30 G6)  G5) 30 0 G3)  G
set_option maxHeartbeats 4000000 in
set_option maxRecDepth 100000 in
theorem okX8_runScript (X : Cx) (l : Launch) (hfl : l.stackTraces = false) {post : Int32 → GS → Prop} {xpost : String → GS → Prop}  {G : GS}  (hw : wpX8_runScript post xpost G) : CX X l yX8_runScript cX8_runScript 3 (some FieldType.int) 10 1 6 [.ref (xa X 165)] G (Qi X post) xpost := by
  refine xbegin (by decide) (Nat.le_of_ble_eq_true rfl) (fun p e s m below meth c hx hb hr hml hlk hown hno hE hz ls hl hP hD hS => ?_)
  have hl : lv_has ls 3 [(0, .ref (xa X 165))] := hl
  have hown : s.vm.findClass "FlyTreasury" = some m.cls := hown
  unfold wpX8_runScript at hw
  refine lv_aload_n hx hb dX8_runScript_0 rfl (lv_at hl 0 rfl) ?_
  refine gf_X8_4 hx hb hE hP hown rfl (hE.w qw_322 rfl _) dX8_runScript_1 ?_
  refine call_i (run_V (cc := cX8_runScript) (As := []) (rest := []) hx hb hml hown hE hz (okX6_parse X l hfl  hw) qw_1452 qw_1453 qw_1454 qw_78 qw_1455 (myX6_parse) ⟨Nat.le_of_ble_eq_true rfl, Nat.le_of_ble_eq_true rfl⟩ (rv_X6 hE hP rfl) hP hD hS rfl hl.1 rfl (Nat.le_of_ble_eq_true rfl) dX8_runScript_4 ⟨Nat.le_of_ble_eq_true rfl, Nat.le_of_ble_eq_true rfl⟩) hS (fun r2 G1 H locs hw hP hD hS => ?_)
  refine lv_istore_n (lv' := [(1, .int r2), (0, .ref (xa X 165))]) hx hb dX8_runScript_7 rfl hl (by decide) rfl (fun ls hl => ?_)
  refine lv_aload_n hx hb dX8_runScript_8 rfl (lv_at hl 1 rfl) ?_
  refine gf_X8_4 hx hb hE hP hown rfl (hE.w qw_322 rfl _) dX8_runScript_9 ?_
  refine lv_iconst (v := 0) hx hb dX8_runScript_12 (by decide) ?_
  refine pn_X6_2 hx hb hE hP hD hS hown rfl (hE.w qw_269 rfl _) dX8_runScript_13 (fun G3 H locs eG3 hP hD hS => ?_)
  replace hw := hw G3 eG3
  refine lv_iload_n hx hb dX8_runScript_16 rfl (lv_at hl 0 rfl) ?_
  refine lv_if_ne (tgt := 42) hx hb dX8_runScript_17 (by decide) (fun c4 => ?_) (fun c4 => ?_)
  · replace hw := ite_f hw c4
    refine lv_aload_n hx hb dX8_runScript_42 rfl (lv_at hl 1 rfl) ?_
    refine gf_X8_2 hx hb hE hP hown rfl (hE.w qw_320 rfl _) dX8_runScript_43 ?_
    refine lv_aload_n hx hb dX8_runScript_46 rfl (lv_at hl 1 rfl) ?_
    refine gf_X8_0 hx hb hE hP hown rfl (hE.w qw_318 rfl _) dX8_runScript_47 ?_
    refine call_v (run_V (cc := cX8_runScript) (As := [.ref (xa X 0)]) (rest := []) hx hb hml hown hE hz (okX3_copyFrom X l hfl rfl rfl hw) qw_841 qw_842 qw_843 qw_75 qw_844 (myX3_copyFrom) ⟨Nat.le_of_ble_eq_true rfl, Nat.le_of_ble_eq_true rfl⟩ (rv_X3 hE hP rfl) hP hD hS rfl hl.1 rfl (Nat.le_of_ble_eq_true rfl) dX8_runScript_50 ⟨Nat.le_of_ble_eq_true rfl, Nat.le_of_ble_eq_true rfl⟩) hS (fun G5 H locs hw hP hD hS => ?_)
    refine lv_aload_n hx hb dX8_runScript_53 rfl (lv_at hl 1 rfl) ?_
    refine call_i (run_V (cc := cX8_runScript) (As := []) (rest := []) hx hb hml hown hE hz (okX8_firstRefusedOrder X l hfl  hw) qw_1505 qw_1507 qw_16 qw_74 qw_1508 (myX8_firstRefusedOrder) ⟨Nat.le_of_ble_eq_true rfl, Nat.le_of_ble_eq_true rfl⟩ (rv_X8 hE hP rfl) hP hD hS rfl hl.1 rfl (Nat.le_of_ble_eq_true rfl) dX8_runScript_54 ⟨Nat.le_of_ble_eq_true rfl, Nat.le_of_ble_eq_true rfl⟩) hS (fun r7 G6 H locs hw hP hD hS => ?_)
    refine lv_istore_n (lv' := [(2, .int r7), (1, .int r2), (0, .ref (xa X 165))]) hx hb dX8_runScript_57 rfl hl (by decide) rfl (fun ls hl => ?_)
    refine lv_iload_n hx hb dX8_runScript_58 rfl (lv_at hl 0 rfl) ?_
    refine lv_if_lt (tgt := 89) hx hb dX8_runScript_59 (by decide) (fun c8 => ?_) (fun c8 => ?_)
    · replace hw := ite_t hw c8
      refine lv_aload_n hx hb dX8_runScript_89 rfl (lv_at hl 2 rfl) ?_
      refine gf_X8_3 hx hb hE hP hown rfl (hE.w qw_321 rfl _) dX8_runScript_90 ?_
      refine lv_aload_n hx hb dX8_runScript_93 rfl (lv_at hl 2 rfl) ?_
      refine gf_X8_2 hx hb hE hP hown rfl (hE.w qw_320 rfl _) dX8_runScript_94 ?_
      refine call_v (run_V (cc := cX8_runScript) (As := [.ref (xa X 30)]) (rest := []) hx hb hml hown hE hz (okX2_remember X l hfl rfl hw) qw_932 qw_933 qw_934 qw_77 qw_935 (myX2_remember) ⟨Nat.le_of_ble_eq_true rfl, Nat.le_of_ble_eq_true rfl⟩ (rv_X2 hE hP rfl) hP hD hS rfl hl.1 rfl (Nat.le_of_ble_eq_true rfl) dX8_runScript_97 ⟨Nat.le_of_ble_eq_true rfl, Nat.le_of_ble_eq_true rfl⟩) hS (fun G9 H locs hw hP hD hS => ?_)
      refine lv_aload_n hx hb dX8_runScript_100 rfl (lv_at hl 2 rfl) ?_
      refine gf_X8_4 hx hb hE hP hown rfl (hE.w qw_322 rfl _) dX8_runScript_101 ?_
      refine gn_X6_4 hx hb hE hP hown rfl (hE.w qw_273 rfl _) dX8_runScript_104 ?_
      refine W.widen (k := 1) (n := 6) (Nat.le_of_ble_eq_true rfl) (Nat.le_of_ble_eq_true rfl) ?_
      refine vx_ret ?_
      exact end_i hx hb hr hlk rfl hw hP hD hS dX8_runScript_107
    · replace hw := ite_f hw c8
      refine lv_aload_n hx hb dX8_runScript_62 rfl (lv_at hl 2 rfl) ?_
      refine gf_X8_0 hx hb hE hP hown rfl (hE.w qw_318 rfl _) dX8_runScript_63 ?_
      refine lv_aload_n hx hb dX8_runScript_66 rfl (lv_at hl 2 rfl) ?_
      refine gf_X8_2 hx hb hE hP hown rfl (hE.w qw_320 rfl _) dX8_runScript_67 ?_
      refine call_v (run_V (cc := cX8_runScript) (As := [.ref (xa X 30)]) (rest := []) hx hb hml hown hE hz (okX3_copyFrom X l hfl rfl rfl hw) qw_841 qw_842 qw_843 qw_75 qw_844 (myX3_copyFrom) ⟨Nat.le_of_ble_eq_true rfl, Nat.le_of_ble_eq_true rfl⟩ (rv_X3 hE hP rfl) hP hD hS rfl hl.1 rfl (Nat.le_of_ble_eq_true rfl) dX8_runScript_70 ⟨Nat.le_of_ble_eq_true rfl, Nat.le_of_ble_eq_true rfl⟩) hS (fun G10 H locs hw hP hD hS => ?_)
      refine lv_aload_n hx hb dX8_runScript_73 rfl (lv_at hl 2 rfl) ?_
      refine lv_iload_n hx hb dX8_runScript_74 rfl (lv_at hl 0 rfl) ?_
      refine pf_X8_8 hx hb hE hP hD hS hown rfl (hE.w qw_326 rfl _) dX8_runScript_75 (fun G11 H locs eG11 hP hD hS => ?_)
      replace hw := hw G11 eG11
      exact thrW_IS hx hb hfl hown hE hP hD hS hl.1 hml (sr_16 hE) (hE.w qw_900 rfl _) (hE.w qw_94 rfl _) dX8_runScript_78 dX8_runScript_81 dX8_runScript_82 dX8_runScript_85 dX8_runScript_88 hno (by decide) (by decide) (Nat.le_of_ble_eq_true rfl) (Nat.le_of_ble_eq_true rfl) hlk hw (Nat.le_of_ble_eq_true rfl) (Nat.le_of_ble_eq_true rfl)
  · replace hw := ite_t hw c4
    refine lv_aload_n hx hb dX8_runScript_20 rfl (lv_at hl 1 rfl) ?_
    refine lv_aload_n hx hb dX8_runScript_21 rfl (lv_at hl 1 rfl) ?_
    refine gf_X8_4 hx hb hE hP hown rfl (hE.w qw_322 rfl _) dX8_runScript_22 ?_
    refine gn_X6_3 hx hb hE hP hown rfl (hE.w qw_271 rfl _) dX8_runScript_25 ?_
    refine pf_X8_7 hx hb hE hP hD hS hown rfl (hE.w qw_325 rfl _) dX8_runScript_28 (fun G12 H locs eG12 hP hD hS => ?_)
    replace hw := hw G12 eG12
    exact thrW_IA hx hb hfl hown hE hP hD hS hl.1 hml (sr_15 hE) (hE.w qw_897 rfl _) (hE.w qw_93 rfl _) dX8_runScript_31 dX8_runScript_34 dX8_runScript_35 dX8_runScript_38 dX8_runScript_41 hno (by decide) (by decide) (Nat.le_of_ble_eq_true rfl) (Nat.le_of_ble_eq_true rfl) hlk hw (Nat.le_of_ble_eq_true rfl) (Nat.le_of_ble_eq_true rfl)
def wpX8_errorPosition (post : Int32 → GS → Prop) (xpost : String → GS → Prop) (G : GS) : Prop :=
  if (G.1 165 7) = (-1) then
  xpost "java/util/NoSuchElementException" G
else
  post (G.1 165 7) G
set_option maxHeartbeats 4000000 in
set_option maxRecDepth 100000 in
theorem okX8_errorPosition (X : Cx) (l : Launch) (hfl : l.stackTraces = false) {post : Int32 → GS → Prop} {xpost : String → GS → Prop}  {G : GS}  (hw : wpX8_errorPosition post xpost G) : CX X l yX8_errorPosition cX8_errorPosition 1 (some FieldType.int) 6 1 6 [.ref (xa X 165)] G (Qi X post) xpost := by
  refine xbegin (by decide) (Nat.le_of_ble_eq_true rfl) (fun p e s m below meth c hx hb hr hml hlk hown hno hE hz ls hl hP hD hS => ?_)
  have hl : lv_has ls 1 [(0, .ref (xa X 165))] := hl
  have hown : s.vm.findClass "FlyTreasury" = some m.cls := hown
  unfold wpX8_errorPosition at hw
  refine lv_aload_n hx hb dX8_errorPosition_0 rfl (lv_at hl 0 rfl) ?_
  refine gf_X8_7 hx hb hE hP hown rfl (hE.w qw_325 rfl _) dX8_errorPosition_1 ?_
  refine lv_iconst (v := -1) hx hb dX8_errorPosition_4 (by decide) ?_
  refine lv_icmp_ne (tgt := 19) hx hb dX8_errorPosition_5 (by decide) (fun c1 => ?_) (fun c1 => ?_)
  · replace hw := ite_f hw c1
    refine lv_aload_n hx hb dX8_errorPosition_19 rfl (lv_at hl 0 rfl) ?_
    refine gf_X8_7 hx hb hE hP hown rfl (hE.w qw_325 rfl _) dX8_errorPosition_20 ?_
    refine W.widen (k := 1) (n := 6) (Nat.le_of_ble_eq_true rfl) (Nat.le_of_ble_eq_true rfl) ?_
    refine vx_ret ?_
    exact end_i hx hb hr hlk rfl hw hP hD hS dX8_errorPosition_23
  · replace hw := ite_t hw c1
    exact thrW_NS hx hb hfl hown hE hP hD hS hl.1 hml (sr_17 hE) (hE.w qw_1234 rfl _) (hE.w qw_102 rfl _) dX8_errorPosition_8 dX8_errorPosition_11 dX8_errorPosition_12 dX8_errorPosition_15 dX8_errorPosition_18 hno (by decide) (by decide) (Nat.le_of_ble_eq_true rfl) (Nat.le_of_ble_eq_true rfl) hlk hw (Nat.le_of_ble_eq_true rfl) (Nat.le_of_ble_eq_true rfl)
def wpX8_failedCommand (post : Int32 → GS → Prop) (xpost : String → GS → Prop) (G : GS) : Prop :=
  if (G.1 165 8) = (-1) then
  xpost "java/util/NoSuchElementException" G
else
  post (G.1 165 8) G
set_option maxHeartbeats 4000000 in
set_option maxRecDepth 100000 in
theorem okX8_failedCommand (X : Cx) (l : Launch) (hfl : l.stackTraces = false) {post : Int32 → GS → Prop} {xpost : String → GS → Prop}  {G : GS}  (hw : wpX8_failedCommand post xpost G) : CX X l yX8_failedCommand cX8_failedCommand 1 (some FieldType.int) 6 1 6 [.ref (xa X 165)] G (Qi X post) xpost := by
  refine xbegin (by decide) (Nat.le_of_ble_eq_true rfl) (fun p e s m below meth c hx hb hr hml hlk hown hno hE hz ls hl hP hD hS => ?_)
  have hl : lv_has ls 1 [(0, .ref (xa X 165))] := hl
  have hown : s.vm.findClass "FlyTreasury" = some m.cls := hown
  unfold wpX8_failedCommand at hw
  refine lv_aload_n hx hb dX8_failedCommand_0 rfl (lv_at hl 0 rfl) ?_
  refine gf_X8_8 hx hb hE hP hown rfl (hE.w qw_326 rfl _) dX8_failedCommand_1 ?_
  refine lv_iconst (v := -1) hx hb dX8_failedCommand_4 (by decide) ?_
  refine lv_icmp_ne (tgt := 19) hx hb dX8_failedCommand_5 (by decide) (fun c1 => ?_) (fun c1 => ?_)
  · replace hw := ite_f hw c1
    refine lv_aload_n hx hb dX8_failedCommand_19 rfl (lv_at hl 0 rfl) ?_
    refine gf_X8_8 hx hb hE hP hown rfl (hE.w qw_326 rfl _) dX8_failedCommand_20 ?_
    refine W.widen (k := 1) (n := 6) (Nat.le_of_ble_eq_true rfl) (Nat.le_of_ble_eq_true rfl) ?_
    refine vx_ret ?_
    exact end_i hx hb hr hlk rfl hw hP hD hS dX8_failedCommand_23
  · replace hw := ite_t hw c1
    exact thrW_NS hx hb hfl hown hE hP hD hS hl.1 hml (sr_18 hE) (hE.w qw_1234 rfl _) (hE.w qw_102 rfl _) dX8_failedCommand_8 dX8_failedCommand_11 dX8_failedCommand_12 dX8_failedCommand_15 dX8_failedCommand_18 hno (by decide) (by decide) (Nat.le_of_ble_eq_true rfl) (Nat.le_of_ble_eq_true rfl) hlk hw (Nat.le_of_ble_eq_true rfl) (Nat.le_of_ble_eq_true rfl)
def wpX8_undo (post : Int32 → GS → Prop) (xpost : String → GS → Prop) (G : GS) : Prop :=
  if (G.1 166 2) = 0 then
  xpost "java/lang/IllegalStateException" G
else
  wpX2_takeBack (fun (G2 : GS) =>
    post (G2.1 166 2) G2) 0 G
set_option maxHeartbeats 4000000 in
set_option maxRecDepth 100000 in
theorem okX8_undo (X : Cx) (l : Launch) (hfl : l.stackTraces = false) {post : Int32 → GS → Prop} {xpost : String → GS → Prop}  {G : GS}  (hw : wpX8_undo post xpost G) : CX X l yX8_undo cX8_undo 1 (some FieldType.int) 6 1 6 [.ref (xa X 165)] G (Qi X post) xpost := by
  refine xbegin (by decide) (Nat.le_of_ble_eq_true rfl) (fun p e s m below meth c hx hb hr hml hlk hown hno hE hz ls hl hP hD hS => ?_)
  have hl : lv_has ls 1 [(0, .ref (xa X 165))] := hl
  have hown : s.vm.findClass "FlyTreasury" = some m.cls := hown
  unfold wpX8_undo at hw
  refine lv_aload_n hx hb dX8_undo_0 rfl (lv_at hl 0 rfl) ?_
  refine gf_X8_3 hx hb hE hP hown rfl (hE.w qw_321 rfl _) dX8_undo_1 ?_
  refine gn_X2_2 hx hb hE hP hown rfl (hE.w qw_215 rfl _) dX8_undo_4 ?_
  refine lv_if_ne (tgt := 21) hx hb dX8_undo_7 (by decide) (fun c1 => ?_) (fun c1 => ?_)
  · replace hw := ite_f hw c1
    refine lv_aload_n hx hb dX8_undo_21 rfl (lv_at hl 0 rfl) ?_
    refine gf_X8_3 hx hb hE hP hown rfl (hE.w qw_321 rfl _) dX8_undo_22 ?_
    refine lv_aload_n hx hb dX8_undo_25 rfl (lv_at hl 0 rfl) ?_
    refine gf_X8_0 hx hb hE hP hown rfl (hE.w qw_318 rfl _) dX8_undo_26 ?_
    refine call_v (run_V (cc := cX8_undo) (As := [.ref (xa X 0)]) (rest := []) hx hb hml hown hE hz (okX2_takeBack X l hfl rfl hw) qw_1548 qw_1549 qw_1550 qw_77 qw_1551 (myX2_takeBack) ⟨Nat.le_of_ble_eq_true rfl, Nat.le_of_ble_eq_true rfl⟩ (rv_X2 hE hP rfl) hP hD hS rfl hl.1 rfl (Nat.le_of_ble_eq_true rfl) dX8_undo_29 ⟨Nat.le_of_ble_eq_true rfl, Nat.le_of_ble_eq_true rfl⟩) hS (fun G2 H locs hw hP hD hS => ?_)
    refine lv_aload_n hx hb dX8_undo_32 rfl (lv_at hl 0 rfl) ?_
    refine gf_X8_3 hx hb hE hP hown rfl (hE.w qw_321 rfl _) dX8_undo_33 ?_
    refine gn_X2_2 hx hb hE hP hown rfl (hE.w qw_215 rfl _) dX8_undo_36 ?_
    refine W.widen (k := 1) (n := 6) (Nat.le_of_ble_eq_true rfl) (Nat.le_of_ble_eq_true rfl) ?_
    refine vx_ret ?_
    exact end_i hx hb hr hlk rfl hw hP hD hS dX8_undo_39
  · replace hw := ite_t hw c1
    exact thrW_IS hx hb hfl hown hE hP hD hS hl.1 hml (sr_19 hE) (hE.w qw_900 rfl _) (hE.w qw_94 rfl _) dX8_undo_10 dX8_undo_13 dX8_undo_14 dX8_undo_17 dX8_undo_20 hno (by decide) (by decide) (Nat.le_of_ble_eq_true rfl) (Nat.le_of_ble_eq_true rfl) hlk hw (Nat.le_of_ble_eq_true rfl) (Nat.le_of_ble_eq_true rfl)
def wpX8_save (post : Int32 → GS → Prop) (G : GS) : Prop :=
  wpX3_copyFrom (fun (G1 : GS) =>
  ∀ G2 : GS, G2 = gI G1 165 6 1 →
    post (G2.1 0 4) G2) 15 0 G
set_option maxHeartbeats 4000000 in
set_option maxRecDepth 100000 in
theorem okX8_save (X : Cx) (l : Launch) (hfl : l.stackTraces = false) {post : Int32 → GS → Prop}  {G : GS}  (hw : wpX8_save post G) : CT X l yX8_save cX8_save 1 (some FieldType.int) 4 0 0 [.ref (xa X 165)] G (Qi X post) := by
  refine mbegin (by decide) (Nat.le_of_ble_eq_true rfl) (fun p e s m below meth c hx hb hr hml hlk hown hE hz ls hl hP hD hS => ?_)
  have hl : lv_has ls 1 [(0, .ref (xa X 165))] := hl
  have hown : s.vm.findClass "FlyTreasury" = some m.cls := hown
  unfold wpX8_save at hw
  refine lv_aload_n hx hb dX8_save_0 rfl (lv_at hl 0 rfl) ?_
  refine gf_X8_1 hx hb hE hP hown rfl (hE.w qw_319 rfl _) dX8_save_1 ?_
  refine lv_aload_n hx hb dX8_save_4 rfl (lv_at hl 0 rfl) ?_
  refine gf_X8_0 hx hb hE hP hown rfl (hE.w qw_318 rfl _) dX8_save_5 ?_
  refine call_v (run_V (cc := cX8_save) (As := [.ref (xa X 0)]) (rest := []) hx hb hml hown hE hz (okX3_copyFrom X l hfl rfl rfl hw) qw_841 qw_842 qw_843 qw_75 qw_844 (myX3_copyFrom) ⟨Nat.le_of_ble_eq_true rfl, Nat.le_of_ble_eq_true rfl⟩ (rv_X3 hE hP rfl) hP hD hS rfl hl.1 rfl (Nat.le_of_ble_eq_true rfl) dX8_save_8 ⟨Nat.le_of_ble_eq_true rfl, Nat.le_of_ble_eq_true rfl⟩) hS (fun G1 H locs hw hP hD hS => ?_)
  refine lv_aload_n hx hb dX8_save_11 rfl (lv_at hl 0 rfl) ?_
  refine lv_iconst (v := 1) hx hb dX8_save_12 (by decide) ?_
  refine pf_X8_6 hx hb hE hP hD hS hown rfl (hE.w qw_324 rfl _) (by decide) (by decide) dX8_save_13 (fun G2 H locs eG2 hP hD hS => ?_)
  replace hw := hw G2 eG2
  refine lv_aload_n hx hb dX8_save_16 rfl (lv_at hl 0 rfl) ?_
  refine gf_X8_0 hx hb hE hP hown rfl (hE.w qw_318 rfl _) dX8_save_17 ?_
  refine gn_X3_4 hx hb hE hP hown rfl (hE.w qw_167 rfl _) dX8_save_20 ?_
  exact end_i hx hb hr hlk rfl hw hP hD hS dX8_save_23
def wpX8_restore (post : Int32 → GS → Prop) (xpost : String → GS → Prop) (G : GS) : Prop :=
  if (G.1 165 6) = 0 then
  xpost "java/lang/IllegalStateException" G
else
  wpX3_copyFrom (fun (G2 : GS) =>
    ∀ G3 : GS, G3 = gI G2 166 2 0 →
      post (G3.1 0 4) G3) 0 15 G
set_option maxHeartbeats 4000000 in
set_option maxRecDepth 100000 in
theorem okX8_restore (X : Cx) (l : Launch) (hfl : l.stackTraces = false) {post : Int32 → GS → Prop} {xpost : String → GS → Prop}  {G : GS}  (hw : wpX8_restore post xpost G) : CX X l yX8_restore cX8_restore 1 (some FieldType.int) 6 1 6 [.ref (xa X 165)] G (Qi X post) xpost := by
  refine xbegin (by decide) (Nat.le_of_ble_eq_true rfl) (fun p e s m below meth c hx hb hr hml hlk hown hno hE hz ls hl hP hD hS => ?_)
  have hl : lv_has ls 1 [(0, .ref (xa X 165))] := hl
  have hown : s.vm.findClass "FlyTreasury" = some m.cls := hown
  unfold wpX8_restore at hw
  refine lv_aload_n hx hb dX8_restore_0 rfl (lv_at hl 0 rfl) ?_
  refine gf_X8_6 hx hb hE hP hown rfl (hE.w qw_324 rfl _) dX8_restore_1 ?_
  refine lv_if_ne (tgt := 18) hx hb dX8_restore_4 (by decide) (fun c1 => ?_) (fun c1 => ?_)
  · replace hw := ite_f hw c1
    refine lv_aload_n hx hb dX8_restore_18 rfl (lv_at hl 0 rfl) ?_
    refine gf_X8_0 hx hb hE hP hown rfl (hE.w qw_318 rfl _) dX8_restore_19 ?_
    refine lv_aload_n hx hb dX8_restore_22 rfl (lv_at hl 0 rfl) ?_
    refine gf_X8_1 hx hb hE hP hown rfl (hE.w qw_319 rfl _) dX8_restore_23 ?_
    refine call_v (run_V (cc := cX8_restore) (As := [.ref (xa X 15)]) (rest := []) hx hb hml hown hE hz (okX3_copyFrom X l hfl rfl rfl hw) qw_841 qw_842 qw_843 qw_75 qw_844 (myX3_copyFrom) ⟨Nat.le_of_ble_eq_true rfl, Nat.le_of_ble_eq_true rfl⟩ (rv_X3 hE hP rfl) hP hD hS rfl hl.1 rfl (Nat.le_of_ble_eq_true rfl) dX8_restore_26 ⟨Nat.le_of_ble_eq_true rfl, Nat.le_of_ble_eq_true rfl⟩) hS (fun G2 H locs hw hP hD hS => ?_)
    refine lv_aload_n hx hb dX8_restore_29 rfl (lv_at hl 0 rfl) ?_
    refine gf_X8_3 hx hb hE hP hown rfl (hE.w qw_321 rfl _) dX8_restore_30 ?_
    refine lv_iconst (v := 0) hx hb dX8_restore_33 (by decide) ?_
    refine pn_X2_2 hx hb hE hP hD hS hown rfl (hE.w qw_215 rfl _) dX8_restore_34 (fun G3 H locs eG3 hP hD hS => ?_)
    replace hw := hw G3 eG3
    refine lv_aload_n hx hb dX8_restore_37 rfl (lv_at hl 0 rfl) ?_
    refine gf_X8_0 hx hb hE hP hown rfl (hE.w qw_318 rfl _) dX8_restore_38 ?_
    refine gn_X3_4 hx hb hE hP hown rfl (hE.w qw_167 rfl _) dX8_restore_41 ?_
    refine W.widen (k := 1) (n := 6) (Nat.le_of_ble_eq_true rfl) (Nat.le_of_ble_eq_true rfl) ?_
    refine vx_ret ?_
    exact end_i hx hb hr hlk rfl hw hP hD hS dX8_restore_44
  · replace hw := ite_t hw c1
    exact thrW_IS hx hb hfl hown hE hP hD hS hl.1 hml (sr_20 hE) (hE.w qw_900 rfl _) (hE.w qw_94 rfl _) dX8_restore_7 dX8_restore_10 dX8_restore_11 dX8_restore_14 dX8_restore_17 hno (by decide) (by decide) (Nat.le_of_ble_eq_true rfl) (Nat.le_of_ble_eq_true rfl) hlk hw (Nat.le_of_ble_eq_true rfl) (Nat.le_of_ble_eq_true rfl)
