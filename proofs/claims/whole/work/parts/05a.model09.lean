def wpX9_notNow (post : Int32 → GS → Prop) (G : GS) : Prop :=
  vp_in 0 (ln 196) ∧
  ∀ z2 : Int32, z2 = (G.1 196 (0 : Int32).toNatClampNeg) →
  vp_in 1 (ln 196) ∧
  ∀ z4 : Int32, z4 = (G.1 196 (1 : Int32).toNatClampNeg) →
  ∀ z5 : Int32, z5 = G.1 189 16 →
  if z5.toInt < 97 ∨ 118 < z5.toInt then
  wpX9_notDays (fun (r7 : Int32) (G6 : GS) =>
    post r7 G6) z2 G
else if z5 = 97 then
  wpX9_notAudit (fun (r11 : Int32) (G10 : GS) =>
    post r11 G10) z2 G
else if z5 = 98 then
  wpX9_notDays (fun (r14 : Int32) (G13 : GS) =>
    post r14 G13) z2 G
else if z5 = 99 then
  wpX9_notDays (fun (r17 : Int32) (G16 : GS) =>
    post r17 G16) z2 G
else if z5 = 100 then
  wpX9_notDays (fun (r20 : Int32) (G19 : GS) =>
    post r20 G19) z2 G
else if z5 = 101 then
  wpX9_notRedeem (fun (r23 : Int32) (G22 : GS) =>
    post r23 G22) z2 z4 G
else if z5 = 102 then
  wpX9_notDays (fun (r26 : Int32) (G25 : GS) =>
    post r26 G25) z2 G
else if z5 = 103 then
  wpX9_notDays (fun (r29 : Int32) (G28 : GS) =>
    post r29 G28) z2 G
else if z5 = 104 then
  wpX9_notDays (fun (r32 : Int32) (G31 : GS) =>
    post r32 G31) z2 G
else if z5 = 105 then
  wpX9_notDays (fun (r35 : Int32) (G34 : GS) =>
    post r35 G34) z2 G
else if z5 = 106 then
  wpX9_notDays (fun (r38 : Int32) (G37 : GS) =>
    post r38 G37) z2 G
else if z5 = 107 then
  wpX9_notStick (fun (r41 : Int32) (G40 : GS) =>
    post r41 G40) z2 z4 G
else if z5 = 108 then
  wpX9_notDays (fun (r44 : Int32) (G43 : GS) =>
    post r44 G43) z2 G
else if z5 = 109 then
  wpX9_notMint (fun (r47 : Int32) (G46 : GS) =>
    post r47 G46) z2 z4 G
else if z5 = 110 then
  wpX9_notDays (fun (r50 : Int32) (G49 : GS) =>
    post r50 G49) z2 G
else if z5 = 111 then
  wpX9_notDays (fun (r53 : Int32) (G52 : GS) =>
    post r53 G52) z2 G
else if z5 = 112 then
  vp_in 2 (ln 196) ∧
    wpX9_notDeposit (fun (r57 : Int32) (G56 : GS) =>
    post r57 G56) z2 z4 (G.1 196 (2 : Int32).toNatClampNeg) G
else if z5 = 113 then
  wpX9_notDays (fun (r60 : Int32) (G59 : GS) =>
    post r60 G59) z2 G
else if z5 = 114 then
  wpX9_notRate (fun (r63 : Int32) (G62 : GS) =>
    post r63 G62) z2 z4 G
else if z5 = 115 then
  vp_in 2 (ln 196) ∧
    vp_in 3 (ln 196) ∧
    wpX9_notExchange (fun (r68 : Int32) (G67 : GS) =>
    post r68 G67) z2 z4 (G.1 196 (2 : Int32).toNatClampNeg) (G.1 196 (3 : Int32).toNatClampNeg) G
else if z5 = 116 then
  vp_in 2 (ln 196) ∧
    wpX9_notWithdraw (fun (r72 : Int32) (G71 : GS) =>
    post r72 G71) z2 z4 (G.1 196 (2 : Int32).toNatClampNeg) G
else if z5 = 117 then
  wpX9_notDays (fun (r75 : Int32) (G74 : GS) =>
    post r75 G74) z2 G
else if z5 = 118 then
  wpX9_notVault (fun (r78 : Int32) (G77 : GS) =>
    post r78 G77) z2 G
else False
set_option maxHeartbeats 4000000 in
set_option maxRecDepth 100000 in
theorem okX9_notNow (X : Cx) (l : Launch) (hfl : l.stackTraces = false) {post : Int32 → GS → Prop}  {G : GS}  (hw : wpX9_notNow post G) : CT X l yX9_notNow cX9_notNow 3 (some FieldType.int) 7 0 0 [.ref (xa X 189)] G (Qi X post) := by
  refine mbegin (by decide) (Nat.le_of_ble_eq_true rfl) (fun p e s m below meth c hx hb hr hml hlk hown hE hz ls hl hP hD hS => ?_)
  have hl : lv_has ls 3 [(0, .ref (xa X 189))] := hl
  have hown : s.vm.findClass "FlyTreasuryModel" = some m.cls := hown
  unfold wpX9_notNow at hw
  refine lv_aload_n hx hb dX9_notNow_0 rfl (lv_at hl 0 rfl) ?_
  refine gf_X9_15 hx hb hE hP hown rfl (hE.w qw_1585 rfl _) dX9_notNow_1 ?_
  refine lv_iconst (v := 0) hx hb dX9_notNow_4 (by decide) ?_
  obtain ⟨y1, hw⟩ := hw
  refine ald_2 hx hb hE hP rfl y1 dX9_notNow_5 ?_
  refine lv_topi (fun z2 ez2 => ?_)
  replace hw := hw z2 ez2
  refine lv_istore_n (lv' := [(1, .int z2), (0, .ref (xa X 189))]) hx hb dX9_notNow_6 rfl hl (by decide) rfl (fun ls hl => ?_)
  refine lv_aload_n hx hb dX9_notNow_7 rfl (lv_at hl 1 rfl) ?_
  refine gf_X9_15 hx hb hE hP hown rfl (hE.w qw_1585 rfl _) dX9_notNow_8 ?_
  refine lv_iconst (v := 1) hx hb dX9_notNow_11 (by decide) ?_
  obtain ⟨y3, hw⟩ := hw
  refine ald_2 hx hb hE hP rfl y3 dX9_notNow_12 ?_
  refine lv_topi (fun z4 ez4 => ?_)
  replace hw := hw z4 ez4
  refine lv_istore_n (lv' := [(2, .int z4), (1, .int z2), (0, .ref (xa X 189))]) hx hb dX9_notNow_13 rfl hl (by decide) rfl (fun ls hl => ?_)
  refine lv_aload_n hx hb dX9_notNow_14 rfl (lv_at hl 2 rfl) ?_
  refine gf_X9_16 hx hb hE hP hown rfl (hE.w qw_1586 rfl _) dX9_notNow_15 ?_
  refine lv_topi (fun z5 ez5 => ?_)
  replace hw := hw z5 ez5
  by_cases c8 : z5.toInt < 97 ∨ 118 < z5.toInt
  · replace hw := ite_t hw c8
    refine lv_tableOut (tgt := 204) hx hb dX9_notNow_18 c8 (by decide) ?_
    refine lv_iload_n hx hb dX9_notNow_204 rfl (lv_at hl 1 rfl) ?_
    refine call_i (run_S (cc := cX9_notNow) (As := [.int z2]) (rest := []) hx hb hml hown hE hz (okX9_notDays X l hfl  hw) qw_1794 qw_1795 qw_86 qw_1796 (myX9_notDays).2 ⟨Nat.le_of_ble_eq_true rfl, Nat.le_of_ble_eq_true rfl⟩ hP hD hS rfl hl.1 rfl (Nat.le_of_ble_eq_true rfl) dX9_notNow_205 ⟨Nat.le_of_ble_eq_true rfl, Nat.le_of_ble_eq_true rfl⟩) hS (fun r7 G6 H locs hw hP hD hS => ?_)
    exact end_i hx hb hr hlk rfl hw hP hD hS dX9_notNow_208
  · replace hw := ite_f hw c8
    by_cases c9 : z5 = 97
    · replace hw := ite_t hw c9
      subst c9
      refine lv_tableIn (off := 174) (tgt := 192) hx hb dX9_notNow_18 (by decide) (by decide) (by decide) (by decide) ?_
      refine lv_aload_n hx hb dX9_notNow_192 rfl (lv_at hl 2 rfl) ?_
      refine lv_iload_n hx hb dX9_notNow_193 rfl (lv_at hl 1 rfl) ?_
      refine call_i (run_V (cc := cX9_notNow) (As := [.int z2]) (rest := []) hx hb hml hown hE hz (okX9_notAudit X l hfl  hw) qw_1759 qw_1761 qw_44 qw_86 qw_1762 (myX9_notAudit) ⟨Nat.le_of_ble_eq_true rfl, Nat.le_of_ble_eq_true rfl⟩ (rv_X9 hE hP rfl) hP hD hS rfl hl.1 rfl (Nat.le_of_ble_eq_true rfl) dX9_notNow_194 ⟨Nat.le_of_ble_eq_true rfl, Nat.le_of_ble_eq_true rfl⟩) hS (fun r11 G10 H locs hw hP hD hS => ?_)
      exact end_i hx hb hr hlk rfl hw hP hD hS dX9_notNow_197
    · replace hw := ite_f hw c9
      by_cases c12 : z5 = 98
      · replace hw := ite_t hw c12
        subst c12
        refine lv_tableIn (off := 186) (tgt := 204) hx hb dX9_notNow_18 (by decide) (by decide) (by decide) (by decide) ?_
        refine lv_iload_n hx hb dX9_notNow_204 rfl (lv_at hl 1 rfl) ?_
        refine call_i (run_S (cc := cX9_notNow) (As := [.int z2]) (rest := []) hx hb hml hown hE hz (okX9_notDays X l hfl  hw) qw_1794 qw_1795 qw_86 qw_1796 (myX9_notDays).2 ⟨Nat.le_of_ble_eq_true rfl, Nat.le_of_ble_eq_true rfl⟩ hP hD hS rfl hl.1 rfl (Nat.le_of_ble_eq_true rfl) dX9_notNow_205 ⟨Nat.le_of_ble_eq_true rfl, Nat.le_of_ble_eq_true rfl⟩) hS (fun r14 G13 H locs hw hP hD hS => ?_)
        exact end_i hx hb hr hlk rfl hw hP hD hS dX9_notNow_208
      · replace hw := ite_f hw c12
        by_cases c15 : z5 = 99
        · replace hw := ite_t hw c15
          subst c15
          refine lv_tableIn (off := 186) (tgt := 204) hx hb dX9_notNow_18 (by decide) (by decide) (by decide) (by decide) ?_
          refine lv_iload_n hx hb dX9_notNow_204 rfl (lv_at hl 1 rfl) ?_
          refine call_i (run_S (cc := cX9_notNow) (As := [.int z2]) (rest := []) hx hb hml hown hE hz (okX9_notDays X l hfl  hw) qw_1794 qw_1795 qw_86 qw_1796 (myX9_notDays).2 ⟨Nat.le_of_ble_eq_true rfl, Nat.le_of_ble_eq_true rfl⟩ hP hD hS rfl hl.1 rfl (Nat.le_of_ble_eq_true rfl) dX9_notNow_205 ⟨Nat.le_of_ble_eq_true rfl, Nat.le_of_ble_eq_true rfl⟩) hS (fun r17 G16 H locs hw hP hD hS => ?_)
          exact end_i hx hb hr hlk rfl hw hP hD hS dX9_notNow_208
        · replace hw := ite_f hw c15
          by_cases c18 : z5 = 100
          · replace hw := ite_t hw c18
            subst c18
            refine lv_tableIn (off := 186) (tgt := 204) hx hb dX9_notNow_18 (by decide) (by decide) (by decide) (by decide) ?_
            refine lv_iload_n hx hb dX9_notNow_204 rfl (lv_at hl 1 rfl) ?_
            refine call_i (run_S (cc := cX9_notNow) (As := [.int z2]) (rest := []) hx hb hml hown hE hz (okX9_notDays X l hfl  hw) qw_1794 qw_1795 qw_86 qw_1796 (myX9_notDays).2 ⟨Nat.le_of_ble_eq_true rfl, Nat.le_of_ble_eq_true rfl⟩ hP hD hS rfl hl.1 rfl (Nat.le_of_ble_eq_true rfl) dX9_notNow_205 ⟨Nat.le_of_ble_eq_true rfl, Nat.le_of_ble_eq_true rfl⟩) hS (fun r20 G19 H locs hw hP hD hS => ?_)
            exact end_i hx hb hr hlk rfl hw hP hD hS dX9_notNow_208
          · replace hw := ite_f hw c18
            by_cases c21 : z5 = 101
            · replace hw := ite_t hw c21
              subst c21
              refine lv_tableIn (off := 167) (tgt := 185) hx hb dX9_notNow_18 (by decide) (by decide) (by decide) (by decide) ?_
              refine lv_aload_n hx hb dX9_notNow_185 rfl (lv_at hl 2 rfl) ?_
              refine lv_iload_n hx hb dX9_notNow_186 rfl (lv_at hl 1 rfl) ?_
              refine lv_iload_n hx hb dX9_notNow_187 rfl (lv_at hl 0 rfl) ?_
              refine call_i (run_V (cc := cX9_notNow) (As := [.int z2, .int z4]) (rest := []) hx hb hml hown hE hz (okX9_notRedeem X l hfl  hw) qw_1747 qw_1749 qw_42 qw_86 qw_1750 (myX9_notRedeem) ⟨Nat.le_of_ble_eq_true rfl, Nat.le_of_ble_eq_true rfl⟩ (rv_X9 hE hP rfl) hP hD hS rfl hl.1 rfl (Nat.le_of_ble_eq_true rfl) dX9_notNow_188 ⟨Nat.le_of_ble_eq_true rfl, Nat.le_of_ble_eq_true rfl⟩) hS (fun r23 G22 H locs hw hP hD hS => ?_)
              exact end_i hx hb hr hlk rfl hw hP hD hS dX9_notNow_191
            · replace hw := ite_f hw c21
              by_cases c24 : z5 = 102
              · replace hw := ite_t hw c24
                subst c24
                refine lv_tableIn (off := 186) (tgt := 204) hx hb dX9_notNow_18 (by decide) (by decide) (by decide) (by decide) ?_
                refine lv_iload_n hx hb dX9_notNow_204 rfl (lv_at hl 1 rfl) ?_
                refine call_i (run_S (cc := cX9_notNow) (As := [.int z2]) (rest := []) hx hb hml hown hE hz (okX9_notDays X l hfl  hw) qw_1794 qw_1795 qw_86 qw_1796 (myX9_notDays).2 ⟨Nat.le_of_ble_eq_true rfl, Nat.le_of_ble_eq_true rfl⟩ hP hD hS rfl hl.1 rfl (Nat.le_of_ble_eq_true rfl) dX9_notNow_205 ⟨Nat.le_of_ble_eq_true rfl, Nat.le_of_ble_eq_true rfl⟩) hS (fun r26 G25 H locs hw hP hD hS => ?_)
                exact end_i hx hb hr hlk rfl hw hP hD hS dX9_notNow_208
              · replace hw := ite_f hw c24
                by_cases c27 : z5 = 103
                · replace hw := ite_t hw c27
                  subst c27
                  refine lv_tableIn (off := 186) (tgt := 204) hx hb dX9_notNow_18 (by decide) (by decide) (by decide) (by decide) ?_
                  refine lv_iload_n hx hb dX9_notNow_204 rfl (lv_at hl 1 rfl) ?_
                  refine call_i (run_S (cc := cX9_notNow) (As := [.int z2]) (rest := []) hx hb hml hown hE hz (okX9_notDays X l hfl  hw) qw_1794 qw_1795 qw_86 qw_1796 (myX9_notDays).2 ⟨Nat.le_of_ble_eq_true rfl, Nat.le_of_ble_eq_true rfl⟩ hP hD hS rfl hl.1 rfl (Nat.le_of_ble_eq_true rfl) dX9_notNow_205 ⟨Nat.le_of_ble_eq_true rfl, Nat.le_of_ble_eq_true rfl⟩) hS (fun r29 G28 H locs hw hP hD hS => ?_)
                  exact end_i hx hb hr hlk rfl hw hP hD hS dX9_notNow_208
                · replace hw := ite_f hw c27
                  by_cases c30 : z5 = 104
                  · replace hw := ite_t hw c30
                    subst c30
                    refine lv_tableIn (off := 186) (tgt := 204) hx hb dX9_notNow_18 (by decide) (by decide) (by decide) (by decide) ?_
                    refine lv_iload_n hx hb dX9_notNow_204 rfl (lv_at hl 1 rfl) ?_
                    refine call_i (run_S (cc := cX9_notNow) (As := [.int z2]) (rest := []) hx hb hml hown hE hz (okX9_notDays X l hfl  hw) qw_1794 qw_1795 qw_86 qw_1796 (myX9_notDays).2 ⟨Nat.le_of_ble_eq_true rfl, Nat.le_of_ble_eq_true rfl⟩ hP hD hS rfl hl.1 rfl (Nat.le_of_ble_eq_true rfl) dX9_notNow_205 ⟨Nat.le_of_ble_eq_true rfl, Nat.le_of_ble_eq_true rfl⟩) hS (fun r32 G31 H locs hw hP hD hS => ?_)
                    exact end_i hx hb hr hlk rfl hw hP hD hS dX9_notNow_208
                  · replace hw := ite_f hw c30
                    by_cases c33 : z5 = 105
                    · replace hw := ite_t hw c33
                      subst c33
                      refine lv_tableIn (off := 186) (tgt := 204) hx hb dX9_notNow_18 (by decide) (by decide) (by decide) (by decide) ?_
                      refine lv_iload_n hx hb dX9_notNow_204 rfl (lv_at hl 1 rfl) ?_
                      refine call_i (run_S (cc := cX9_notNow) (As := [.int z2]) (rest := []) hx hb hml hown hE hz (okX9_notDays X l hfl  hw) qw_1794 qw_1795 qw_86 qw_1796 (myX9_notDays).2 ⟨Nat.le_of_ble_eq_true rfl, Nat.le_of_ble_eq_true rfl⟩ hP hD hS rfl hl.1 rfl (Nat.le_of_ble_eq_true rfl) dX9_notNow_205 ⟨Nat.le_of_ble_eq_true rfl, Nat.le_of_ble_eq_true rfl⟩) hS (fun r35 G34 H locs hw hP hD hS => ?_)
                      exact end_i hx hb hr hlk rfl hw hP hD hS dX9_notNow_208
                    · replace hw := ite_f hw c33
                      by_cases c36 : z5 = 106
                      · replace hw := ite_t hw c36
                        subst c36
                        refine lv_tableIn (off := 186) (tgt := 204) hx hb dX9_notNow_18 (by decide) (by decide) (by decide) (by decide) ?_
                        refine lv_iload_n hx hb dX9_notNow_204 rfl (lv_at hl 1 rfl) ?_
                        refine call_i (run_S (cc := cX9_notNow) (As := [.int z2]) (rest := []) hx hb hml hown hE hz (okX9_notDays X l hfl  hw) qw_1794 qw_1795 qw_86 qw_1796 (myX9_notDays).2 ⟨Nat.le_of_ble_eq_true rfl, Nat.le_of_ble_eq_true rfl⟩ hP hD hS rfl hl.1 rfl (Nat.le_of_ble_eq_true rfl) dX9_notNow_205 ⟨Nat.le_of_ble_eq_true rfl, Nat.le_of_ble_eq_true rfl⟩) hS (fun r38 G37 H locs hw hP hD hS => ?_)
                        exact end_i hx hb hr hlk rfl hw hP hD hS dX9_notNow_208
                      · replace hw := ite_f hw c36
                        by_cases c39 : z5 = 107
                        · replace hw := ite_t hw c39
                          subst c39
                          refine lv_tableIn (off := 153) (tgt := 171) hx hb dX9_notNow_18 (by decide) (by decide) (by decide) (by decide) ?_
                          refine lv_aload_n hx hb dX9_notNow_171 rfl (lv_at hl 2 rfl) ?_
                          refine lv_iload_n hx hb dX9_notNow_172 rfl (lv_at hl 1 rfl) ?_
                          refine lv_iload_n hx hb dX9_notNow_173 rfl (lv_at hl 0 rfl) ?_
                          refine call_i (run_V (cc := cX9_notNow) (As := [.int z2, .int z4]) (rest := []) hx hb hml hown hE hz (okX9_notStick X l hfl  hw) qw_1782 qw_1784 qw_47 qw_86 qw_1785 (myX9_notStick) ⟨Nat.le_of_ble_eq_true rfl, Nat.le_of_ble_eq_true rfl⟩ (rv_X9 hE hP rfl) hP hD hS rfl hl.1 rfl (Nat.le_of_ble_eq_true rfl) dX9_notNow_174 ⟨Nat.le_of_ble_eq_true rfl, Nat.le_of_ble_eq_true rfl⟩) hS (fun r41 G40 H locs hw hP hD hS => ?_)
                          exact end_i hx hb hr hlk rfl hw hP hD hS dX9_notNow_177
                        · replace hw := ite_f hw c39
                          by_cases c42 : z5 = 108
                          · replace hw := ite_t hw c42
                            subst c42
                            refine lv_tableIn (off := 186) (tgt := 204) hx hb dX9_notNow_18 (by decide) (by decide) (by decide) (by decide) ?_
                            refine lv_iload_n hx hb dX9_notNow_204 rfl (lv_at hl 1 rfl) ?_
                            refine call_i (run_S (cc := cX9_notNow) (As := [.int z2]) (rest := []) hx hb hml hown hE hz (okX9_notDays X l hfl  hw) qw_1794 qw_1795 qw_86 qw_1796 (myX9_notDays).2 ⟨Nat.le_of_ble_eq_true rfl, Nat.le_of_ble_eq_true rfl⟩ hP hD hS rfl hl.1 rfl (Nat.le_of_ble_eq_true rfl) dX9_notNow_205 ⟨Nat.le_of_ble_eq_true rfl, Nat.le_of_ble_eq_true rfl⟩) hS (fun r44 G43 H locs hw hP hD hS => ?_)
                            exact end_i hx hb hr hlk rfl hw hP hD hS dX9_notNow_208
                          · replace hw := ite_f hw c42
                            by_cases c45 : z5 = 109
                            · replace hw := ite_t hw c45
                              subst c45
                              refine lv_tableIn (off := 160) (tgt := 178) hx hb dX9_notNow_18 (by decide) (by decide) (by decide) (by decide) ?_
                              refine lv_aload_n hx hb dX9_notNow_178 rfl (lv_at hl 2 rfl) ?_
                              refine lv_iload_n hx hb dX9_notNow_179 rfl (lv_at hl 1 rfl) ?_
                              refine lv_iload_n hx hb dX9_notNow_180 rfl (lv_at hl 0 rfl) ?_
                              refine call_i (run_V (cc := cX9_notNow) (As := [.int z2, .int z4]) (rest := []) hx hb hml hown hE hz (okX9_notMint X l hfl  hw) qw_1735 qw_1737 qw_40 qw_86 qw_1738 (myX9_notMint) ⟨Nat.le_of_ble_eq_true rfl, Nat.le_of_ble_eq_true rfl⟩ (rv_X9 hE hP rfl) hP hD hS rfl hl.1 rfl (Nat.le_of_ble_eq_true rfl) dX9_notNow_181 ⟨Nat.le_of_ble_eq_true rfl, Nat.le_of_ble_eq_true rfl⟩) hS (fun r47 G46 H locs hw hP hD hS => ?_)
                              exact end_i hx hb hr hlk rfl hw hP hD hS dX9_notNow_184
                            · replace hw := ite_f hw c45
                              by_cases c48 : z5 = 110
                              · replace hw := ite_t hw c48
                                subst c48
                                refine lv_tableIn (off := 186) (tgt := 204) hx hb dX9_notNow_18 (by decide) (by decide) (by decide) (by decide) ?_
                                refine lv_iload_n hx hb dX9_notNow_204 rfl (lv_at hl 1 rfl) ?_
                                refine call_i (run_S (cc := cX9_notNow) (As := [.int z2]) (rest := []) hx hb hml hown hE hz (okX9_notDays X l hfl  hw) qw_1794 qw_1795 qw_86 qw_1796 (myX9_notDays).2 ⟨Nat.le_of_ble_eq_true rfl, Nat.le_of_ble_eq_true rfl⟩ hP hD hS rfl hl.1 rfl (Nat.le_of_ble_eq_true rfl) dX9_notNow_205 ⟨Nat.le_of_ble_eq_true rfl, Nat.le_of_ble_eq_true rfl⟩) hS (fun r50 G49 H locs hw hP hD hS => ?_)
                                exact end_i hx hb hr hlk rfl hw hP hD hS dX9_notNow_208
                              · replace hw := ite_f hw c48
                                by_cases c51 : z5 = 111
                                · replace hw := ite_t hw c51
                                  subst c51
                                  refine lv_tableIn (off := 186) (tgt := 204) hx hb dX9_notNow_18 (by decide) (by decide) (by decide) (by decide) ?_
                                  refine lv_iload_n hx hb dX9_notNow_204 rfl (lv_at hl 1 rfl) ?_
                                  refine call_i (run_S (cc := cX9_notNow) (As := [.int z2]) (rest := []) hx hb hml hown hE hz (okX9_notDays X l hfl  hw) qw_1794 qw_1795 qw_86 qw_1796 (myX9_notDays).2 ⟨Nat.le_of_ble_eq_true rfl, Nat.le_of_ble_eq_true rfl⟩ hP hD hS rfl hl.1 rfl (Nat.le_of_ble_eq_true rfl) dX9_notNow_205 ⟨Nat.le_of_ble_eq_true rfl, Nat.le_of_ble_eq_true rfl⟩) hS (fun r53 G52 H locs hw hP hD hS => ?_)
                                  exact end_i hx hb hr hlk rfl hw hP hD hS dX9_notNow_208
                                · replace hw := ite_f hw c51
                                  by_cases c54 : z5 = 112
                                  · replace hw := ite_t hw c54
                                    subst c54
                                    refine lv_tableIn (off := 108) (tgt := 126) hx hb dX9_notNow_18 (by decide) (by decide) (by decide) (by decide) ?_
                                    refine lv_aload_n hx hb dX9_notNow_126 rfl (lv_at hl 2 rfl) ?_
                                    refine lv_iload_n hx hb dX9_notNow_127 rfl (lv_at hl 1 rfl) ?_
                                    refine lv_iload_n hx hb dX9_notNow_128 rfl (lv_at hl 0 rfl) ?_
                                    refine lv_aload_n hx hb dX9_notNow_129 rfl (lv_at hl 2 rfl) ?_
                                    refine gf_X9_15 hx hb hE hP hown rfl (hE.w qw_1585 rfl _) dX9_notNow_130 ?_
                                    refine lv_iconst (v := 2) hx hb dX9_notNow_133 (by decide) ?_
                                    obtain ⟨y55, hw⟩ := hw
                                    refine ald_2 hx hb hE hP rfl y55 dX9_notNow_134 ?_
                                    refine call_i (run_V (cc := cX9_notNow) (As := [.int z2, .int z4, .int (G.1 196 (2 : Int32).toNatClampNeg)]) (rest := []) hx hb hml hown hE hz (okX9_notDeposit X l hfl  hw) qw_1664 qw_1666 qw_26 qw_86 qw_1667 (myX9_notDeposit) ⟨Nat.le_of_ble_eq_true rfl, Nat.le_of_ble_eq_true rfl⟩ (rv_X9 hE hP rfl) hP hD hS rfl hl.1 rfl (Nat.le_of_ble_eq_true rfl) dX9_notNow_135 ⟨Nat.le_of_ble_eq_true rfl, Nat.le_of_ble_eq_true rfl⟩) hS (fun r57 G56 H locs hw hP hD hS => ?_)
                                    exact end_i hx hb hr hlk rfl hw hP hD hS dX9_notNow_138
                                  · replace hw := ite_f hw c54
                                    by_cases c58 : z5 = 113
                                    · replace hw := ite_t hw c58
                                      subst c58
                                      refine lv_tableIn (off := 186) (tgt := 204) hx hb dX9_notNow_18 (by decide) (by decide) (by decide) (by decide) ?_
                                      refine lv_iload_n hx hb dX9_notNow_204 rfl (lv_at hl 1 rfl) ?_
                                      refine call_i (run_S (cc := cX9_notNow) (As := [.int z2]) (rest := []) hx hb hml hown hE hz (okX9_notDays X l hfl  hw) qw_1794 qw_1795 qw_86 qw_1796 (myX9_notDays).2 ⟨Nat.le_of_ble_eq_true rfl, Nat.le_of_ble_eq_true rfl⟩ hP hD hS rfl hl.1 rfl (Nat.le_of_ble_eq_true rfl) dX9_notNow_205 ⟨Nat.le_of_ble_eq_true rfl, Nat.le_of_ble_eq_true rfl⟩) hS (fun r60 G59 H locs hw hP hD hS => ?_)
                                      exact end_i hx hb hr hlk rfl hw hP hD hS dX9_notNow_208
                                    · replace hw := ite_f hw c58
                                      by_cases c61 : z5 = 114
                                      · replace hw := ite_t hw c61
                                        subst c61
                                        refine lv_tableIn (off := 180) (tgt := 198) hx hb dX9_notNow_18 (by decide) (by decide) (by decide) (by decide) ?_
                                        refine lv_iload_n hx hb dX9_notNow_198 rfl (lv_at hl 1 rfl) ?_
                                        refine lv_iload_n hx hb dX9_notNow_199 rfl (lv_at hl 0 rfl) ?_
                                        refine call_i (run_S (cc := cX9_notNow) (As := [.int z2, .int z4]) (rest := []) hx hb hml hown hE hz (okX9_notRate X l hfl  hw) qw_1771 qw_1772 qw_86 qw_1773 (myX9_notRate).2 ⟨Nat.le_of_ble_eq_true rfl, Nat.le_of_ble_eq_true rfl⟩ hP hD hS rfl hl.1 rfl (Nat.le_of_ble_eq_true rfl) dX9_notNow_200 ⟨Nat.le_of_ble_eq_true rfl, Nat.le_of_ble_eq_true rfl⟩) hS (fun r63 G62 H locs hw hP hD hS => ?_)
                                        exact end_i hx hb hr hlk rfl hw hP hD hS dX9_notNow_203
                                      · replace hw := ite_f hw c61
                                        by_cases c64 : z5 = 115
                                        · replace hw := ite_t hw c64
                                          subst c64
                                          refine lv_tableIn (off := 134) (tgt := 152) hx hb dX9_notNow_18 (by decide) (by decide) (by decide) (by decide) ?_
                                          refine lv_aload_n hx hb dX9_notNow_152 rfl (lv_at hl 2 rfl) ?_
                                          refine lv_iload_n hx hb dX9_notNow_153 rfl (lv_at hl 1 rfl) ?_
                                          refine lv_iload_n hx hb dX9_notNow_154 rfl (lv_at hl 0 rfl) ?_
                                          refine lv_aload_n hx hb dX9_notNow_155 rfl (lv_at hl 2 rfl) ?_
                                          refine gf_X9_15 hx hb hE hP hown rfl (hE.w qw_1585 rfl _) dX9_notNow_156 ?_
                                          refine lv_iconst (v := 2) hx hb dX9_notNow_159 (by decide) ?_
                                          obtain ⟨y65, hw⟩ := hw
                                          refine ald_2 hx hb hE hP rfl y65 dX9_notNow_160 ?_
                                          refine lv_aload_n hx hb dX9_notNow_161 rfl (lv_at hl 2 rfl) ?_
                                          refine gf_X9_15 hx hb hE hP hown rfl (hE.w qw_1585 rfl _) dX9_notNow_162 ?_
                                          refine lv_iconst (v := 3) hx hb dX9_notNow_165 (by decide) ?_
                                          obtain ⟨y66, hw⟩ := hw
                                          refine ald_2 hx hb hE hP rfl y66 dX9_notNow_166 ?_
                                          refine call_i (run_V (cc := cX9_notNow) (As := [.int z2, .int z4, .int (G.1 196 (2 : Int32).toNatClampNeg), .int (G.1 196 (3 : Int32).toNatClampNeg)]) (rest := []) hx hb hml hown hE hz (okX9_notExchange X l hfl  hw) qw_1719 qw_1721 qw_37 qw_86 qw_1722 (myX9_notExchange) ⟨Nat.le_of_ble_eq_true rfl, Nat.le_of_ble_eq_true rfl⟩ (rv_X9 hE hP rfl) hP hD hS rfl hl.1 rfl (Nat.le_of_ble_eq_true rfl) dX9_notNow_167 ⟨Nat.le_of_ble_eq_true rfl, Nat.le_of_ble_eq_true rfl⟩) hS (fun r68 G67 H locs hw hP hD hS => ?_)
                                          exact end_i hx hb hr hlk rfl hw hP hD hS dX9_notNow_170
                                        · replace hw := ite_f hw c64
                                          by_cases c69 : z5 = 116
                                          · replace hw := ite_t hw c69
                                            subst c69
                                            refine lv_tableIn (off := 121) (tgt := 139) hx hb dX9_notNow_18 (by decide) (by decide) (by decide) (by decide) ?_
                                            refine lv_aload_n hx hb dX9_notNow_139 rfl (lv_at hl 2 rfl) ?_
                                            refine lv_iload_n hx hb dX9_notNow_140 rfl (lv_at hl 1 rfl) ?_
                                            refine lv_iload_n hx hb dX9_notNow_141 rfl (lv_at hl 0 rfl) ?_
                                            refine lv_aload_n hx hb dX9_notNow_142 rfl (lv_at hl 2 rfl) ?_
                                            refine gf_X9_15 hx hb hE hP hown rfl (hE.w qw_1585 rfl _) dX9_notNow_143 ?_
                                            refine lv_iconst (v := 2) hx hb dX9_notNow_146 (by decide) ?_
                                            obtain ⟨y70, hw⟩ := hw
                                            refine ald_2 hx hb hE hP rfl y70 dX9_notNow_147 ?_
                                            refine call_i (run_V (cc := cX9_notNow) (As := [.int z2, .int z4, .int (G.1 196 (2 : Int32).toNatClampNeg)]) (rest := []) hx hb hml hown hE hz (okX9_notWithdraw X l hfl  hw) qw_1691 qw_1693 qw_31 qw_86 qw_1694 (myX9_notWithdraw) ⟨Nat.le_of_ble_eq_true rfl, Nat.le_of_ble_eq_true rfl⟩ (rv_X9 hE hP rfl) hP hD hS rfl hl.1 rfl (Nat.le_of_ble_eq_true rfl) dX9_notNow_148 ⟨Nat.le_of_ble_eq_true rfl, Nat.le_of_ble_eq_true rfl⟩) hS (fun r72 G71 H locs hw hP hD hS => ?_)
                                            exact end_i hx hb hr hlk rfl hw hP hD hS dX9_notNow_151
                                          · replace hw := ite_f hw c69
                                            by_cases c73 : z5 = 117
                                            · replace hw := ite_t hw c73
                                              subst c73
                                              refine lv_tableIn (off := 186) (tgt := 204) hx hb dX9_notNow_18 (by decide) (by decide) (by decide) (by decide) ?_
                                              refine lv_iload_n hx hb dX9_notNow_204 rfl (lv_at hl 1 rfl) ?_
                                              refine call_i (run_S (cc := cX9_notNow) (As := [.int z2]) (rest := []) hx hb hml hown hE hz (okX9_notDays X l hfl  hw) qw_1794 qw_1795 qw_86 qw_1796 (myX9_notDays).2 ⟨Nat.le_of_ble_eq_true rfl, Nat.le_of_ble_eq_true rfl⟩ hP hD hS rfl hl.1 rfl (Nat.le_of_ble_eq_true rfl) dX9_notNow_205 ⟨Nat.le_of_ble_eq_true rfl, Nat.le_of_ble_eq_true rfl⟩) hS (fun r75 G74 H locs hw hP hD hS => ?_)
                                              exact end_i hx hb hr hlk rfl hw hP hD hS dX9_notNow_208
                                            · replace hw := ite_f hw c73
                                              by_cases c76 : z5 = 118
                                              · replace hw := ite_t hw c76
                                                subst c76
                                                refine lv_tableIn (off := 102) (tgt := 120) hx hb dX9_notNow_18 (by decide) (by decide) (by decide) (by decide) ?_
                                                refine lv_aload_n hx hb dX9_notNow_120 rfl (lv_at hl 2 rfl) ?_
                                                refine lv_iload_n hx hb dX9_notNow_121 rfl (lv_at hl 1 rfl) ?_
                                                refine call_i (run_V (cc := cX9_notNow) (As := [.int z2]) (rest := []) hx hb hml hown hE hz (okX9_notVault X l hfl  hw) qw_1629 qw_1631 qw_19 qw_86 qw_1632 (myX9_notVault) ⟨Nat.le_of_ble_eq_true rfl, Nat.le_of_ble_eq_true rfl⟩ (rv_X9 hE hP rfl) hP hD hS rfl hl.1 rfl (Nat.le_of_ble_eq_true rfl) dX9_notNow_122 ⟨Nat.le_of_ble_eq_true rfl, Nat.le_of_ble_eq_true rfl⟩) hS (fun r78 G77 H locs hw hP hD hS => ?_)
                                                exact end_i hx hb hr hlk rfl hw hP hD hS dX9_notNow_125
                                              · replace hw := ite_f hw c76
                                                exact hw.elim
def wpX9_doesNow (post : Int32 → GS → Prop) (G : GS) : Prop :=
  vp_in 0 (ln 196) ∧
  ∀ z2 : Int32, z2 = (G.1 196 (0 : Int32).toNatClampNeg) →
  vp_in 1 (ln 196) ∧
  ∀ z4 : Int32, z4 = (G.1 196 (1 : Int32).toNatClampNeg) →
  ∀ z5 : Int32, z5 = G.1 189 16 →
  if z5.toInt < 97 ∨ 118 < z5.toInt then
  wpX9_passes (fun (r7 : Int32) (G6 : GS) =>
    post r7 G6) z2 G
else if z5 = 97 then
  wpX9_audits (fun (r11 : Int32) (G10 : GS) =>
    post r11 G10) z2 G
else if z5 = 98 then
  wpX9_passes (fun (r14 : Int32) (G13 : GS) =>
    post r14 G13) z2 G
else if z5 = 99 then
  wpX9_passes (fun (r17 : Int32) (G16 : GS) =>
    post r17 G16) z2 G
else if z5 = 100 then
  wpX9_passes (fun (r20 : Int32) (G19 : GS) =>
    post r20 G19) z2 G
else if z5 = 101 then
  wpX9_redeems (fun (r23 : Int32) (G22 : GS) =>
    post r23 G22) z2 z4 G
else if z5 = 102 then
  wpX9_passes (fun (r26 : Int32) (G25 : GS) =>
    post r26 G25) z2 G
else if z5 = 103 then
  wpX9_passes (fun (r29 : Int32) (G28 : GS) =>
    post r29 G28) z2 G
else if z5 = 104 then
  wpX9_passes (fun (r32 : Int32) (G31 : GS) =>
    post r32 G31) z2 G
else if z5 = 105 then
  wpX9_passes (fun (r35 : Int32) (G34 : GS) =>
    post r35 G34) z2 G
else if z5 = 106 then
  wpX9_passes (fun (r38 : Int32) (G37 : GS) =>
    post r38 G37) z2 G
else if z5 = 107 then
  wpX9_sticks (fun (r41 : Int32) (G40 : GS) =>
    post r41 G40) z2 z4 G
else if z5 = 108 then
  wpX9_passes (fun (r44 : Int32) (G43 : GS) =>
    post r44 G43) z2 G
else if z5 = 109 then
  wpX9_mints (fun (r47 : Int32) (G46 : GS) =>
    post r47 G46) z2 z4 G
else if z5 = 110 then
  wpX9_passes (fun (r50 : Int32) (G49 : GS) =>
    post r50 G49) z2 G
else if z5 = 111 then
  wpX9_passes (fun (r53 : Int32) (G52 : GS) =>
    post r53 G52) z2 G
else if z5 = 112 then
  vp_in 2 (ln 196) ∧
    wpX9_deposits (fun (r57 : Int32) (G56 : GS) =>
    post r57 G56) z2 z4 (G.1 196 (2 : Int32).toNatClampNeg) G
else if z5 = 113 then
  wpX9_passes (fun (r60 : Int32) (G59 : GS) =>
    post r60 G59) z2 G
else if z5 = 114 then
  wpX9_setsRate (fun (r63 : Int32) (G62 : GS) =>
    post r63 G62) z2 z4 G
else if z5 = 115 then
  vp_in 2 (ln 196) ∧
    vp_in 3 (ln 196) ∧
    wpX9_exchanges (fun (r68 : Int32) (G67 : GS) =>
    post r68 G67) z2 z4 (G.1 196 (2 : Int32).toNatClampNeg) (G.1 196 (3 : Int32).toNatClampNeg) G
else if z5 = 116 then
  vp_in 2 (ln 196) ∧
    wpX9_withdraws (fun (r72 : Int32) (G71 : GS) =>
    post r72 G71) z2 z4 (G.1 196 (2 : Int32).toNatClampNeg) G
else if z5 = 117 then
  wpX9_passes (fun (r75 : Int32) (G74 : GS) =>
    post r75 G74) z2 G
else if z5 = 118 then
  wpX9_addsVault (fun (r78 : Int32) (G77 : GS) =>
    post r78 G77) z2 G
else False
set_option maxHeartbeats 4000000 in
set_option maxRecDepth 100000 in
theorem okX9_doesNow (X : Cx) (l : Launch) (hfl : l.stackTraces = false) {post : Int32 → GS → Prop}  {G : GS}  (hw : wpX9_doesNow post G) : CT X l yX9_doesNow cX9_doesNow 3 (some FieldType.int) 6 0 0 [.ref (xa X 189)] G (Qi X post) := by
  refine mbegin (by decide) (Nat.le_of_ble_eq_true rfl) (fun p e s m below meth c hx hb hr hml hlk hown hE hz ls hl hP hD hS => ?_)
  have hl : lv_has ls 3 [(0, .ref (xa X 189))] := hl
  have hown : s.vm.findClass "FlyTreasuryModel" = some m.cls := hown
  unfold wpX9_doesNow at hw
  refine lv_aload_n hx hb dX9_doesNow_0 rfl (lv_at hl 0 rfl) ?_
  refine gf_X9_15 hx hb hE hP hown rfl (hE.w qw_1585 rfl _) dX9_doesNow_1 ?_
  refine lv_iconst (v := 0) hx hb dX9_doesNow_4 (by decide) ?_
  obtain ⟨y1, hw⟩ := hw
  refine ald_2 hx hb hE hP rfl y1 dX9_doesNow_5 ?_
  refine lv_topi (fun z2 ez2 => ?_)
  replace hw := hw z2 ez2
  refine lv_istore_n (lv' := [(1, .int z2), (0, .ref (xa X 189))]) hx hb dX9_doesNow_6 rfl hl (by decide) rfl (fun ls hl => ?_)
  refine lv_aload_n hx hb dX9_doesNow_7 rfl (lv_at hl 1 rfl) ?_
  refine gf_X9_15 hx hb hE hP hown rfl (hE.w qw_1585 rfl _) dX9_doesNow_8 ?_
  refine lv_iconst (v := 1) hx hb dX9_doesNow_11 (by decide) ?_
  obtain ⟨y3, hw⟩ := hw
  refine ald_2 hx hb hE hP rfl y3 dX9_doesNow_12 ?_
  refine lv_topi (fun z4 ez4 => ?_)
  replace hw := hw z4 ez4
  refine lv_istore_n (lv' := [(2, .int z4), (1, .int z2), (0, .ref (xa X 189))]) hx hb dX9_doesNow_13 rfl hl (by decide) rfl (fun ls hl => ?_)
  refine lv_aload_n hx hb dX9_doesNow_14 rfl (lv_at hl 2 rfl) ?_
  refine gf_X9_16 hx hb hE hP hown rfl (hE.w qw_1586 rfl _) dX9_doesNow_15 ?_
  refine lv_topi (fun z5 ez5 => ?_)
  replace hw := hw z5 ez5
  by_cases c8 : z5.toInt < 97 ∨ 118 < z5.toInt
  · replace hw := ite_t hw c8
    refine lv_tableOut (tgt := 205) hx hb dX9_doesNow_18 c8 (by decide) ?_
    refine lv_aload_n hx hb dX9_doesNow_205 rfl (lv_at hl 2 rfl) ?_
    refine lv_iload_n hx hb dX9_doesNow_206 rfl (lv_at hl 1 rfl) ?_
    refine call_i (run_V (cc := cX9_doesNow) (As := [.int z2]) (rest := []) hx hb hml hown hE hz (okX9_passes X l hfl  hw) qw_1797 qw_1799 qw_49 qw_86 qw_1800 (myX9_passes) ⟨Nat.le_of_ble_eq_true rfl, Nat.le_of_ble_eq_true rfl⟩ (rv_X9 hE hP rfl) hP hD hS rfl hl.1 rfl (Nat.le_of_ble_eq_true rfl) dX9_doesNow_207 ⟨Nat.le_of_ble_eq_true rfl, Nat.le_of_ble_eq_true rfl⟩) hS (fun r7 G6 H locs hw hP hD hS => ?_)
    exact end_i hx hb hr hlk rfl hw hP hD hS dX9_doesNow_210
  · replace hw := ite_f hw c8
    by_cases c9 : z5 = 97
    · replace hw := ite_t hw c9
      subst c9
      refine lv_tableIn (off := 174) (tgt := 192) hx hb dX9_doesNow_18 (by decide) (by decide) (by decide) (by decide) ?_
      refine lv_aload_n hx hb dX9_doesNow_192 rfl (lv_at hl 2 rfl) ?_
      refine lv_iload_n hx hb dX9_doesNow_193 rfl (lv_at hl 1 rfl) ?_
      refine call_i (run_V (cc := cX9_doesNow) (As := [.int z2]) (rest := []) hx hb hml hown hE hz (okX9_audits X l hfl  hw) qw_1763 qw_1765 qw_45 qw_86 qw_1766 (myX9_audits) ⟨Nat.le_of_ble_eq_true rfl, Nat.le_of_ble_eq_true rfl⟩ (rv_X9 hE hP rfl) hP hD hS rfl hl.1 rfl (Nat.le_of_ble_eq_true rfl) dX9_doesNow_194 ⟨Nat.le_of_ble_eq_true rfl, Nat.le_of_ble_eq_true rfl⟩) hS (fun r11 G10 H locs hw hP hD hS => ?_)
      exact end_i hx hb hr hlk rfl hw hP hD hS dX9_doesNow_197
    · replace hw := ite_f hw c9
      by_cases c12 : z5 = 98
      · replace hw := ite_t hw c12
        subst c12
        refine lv_tableIn (off := 187) (tgt := 205) hx hb dX9_doesNow_18 (by decide) (by decide) (by decide) (by decide) ?_
        refine lv_aload_n hx hb dX9_doesNow_205 rfl (lv_at hl 2 rfl) ?_
        refine lv_iload_n hx hb dX9_doesNow_206 rfl (lv_at hl 1 rfl) ?_
        refine call_i (run_V (cc := cX9_doesNow) (As := [.int z2]) (rest := []) hx hb hml hown hE hz (okX9_passes X l hfl  hw) qw_1797 qw_1799 qw_49 qw_86 qw_1800 (myX9_passes) ⟨Nat.le_of_ble_eq_true rfl, Nat.le_of_ble_eq_true rfl⟩ (rv_X9 hE hP rfl) hP hD hS rfl hl.1 rfl (Nat.le_of_ble_eq_true rfl) dX9_doesNow_207 ⟨Nat.le_of_ble_eq_true rfl, Nat.le_of_ble_eq_true rfl⟩) hS (fun r14 G13 H locs hw hP hD hS => ?_)
        exact end_i hx hb hr hlk rfl hw hP hD hS dX9_doesNow_210
      · replace hw := ite_f hw c12
        by_cases c15 : z5 = 99
        · replace hw := ite_t hw c15
          subst c15
          refine lv_tableIn (off := 187) (tgt := 205) hx hb dX9_doesNow_18 (by decide) (by decide) (by decide) (by decide) ?_
          refine lv_aload_n hx hb dX9_doesNow_205 rfl (lv_at hl 2 rfl) ?_
          refine lv_iload_n hx hb dX9_doesNow_206 rfl (lv_at hl 1 rfl) ?_
          refine call_i (run_V (cc := cX9_doesNow) (As := [.int z2]) (rest := []) hx hb hml hown hE hz (okX9_passes X l hfl  hw) qw_1797 qw_1799 qw_49 qw_86 qw_1800 (myX9_passes) ⟨Nat.le_of_ble_eq_true rfl, Nat.le_of_ble_eq_true rfl⟩ (rv_X9 hE hP rfl) hP hD hS rfl hl.1 rfl (Nat.le_of_ble_eq_true rfl) dX9_doesNow_207 ⟨Nat.le_of_ble_eq_true rfl, Nat.le_of_ble_eq_true rfl⟩) hS (fun r17 G16 H locs hw hP hD hS => ?_)
          exact end_i hx hb hr hlk rfl hw hP hD hS dX9_doesNow_210
        · replace hw := ite_f hw c15
          by_cases c18 : z5 = 100
          · replace hw := ite_t hw c18
            subst c18
            refine lv_tableIn (off := 187) (tgt := 205) hx hb dX9_doesNow_18 (by decide) (by decide) (by decide) (by decide) ?_
            refine lv_aload_n hx hb dX9_doesNow_205 rfl (lv_at hl 2 rfl) ?_
            refine lv_iload_n hx hb dX9_doesNow_206 rfl (lv_at hl 1 rfl) ?_
            refine call_i (run_V (cc := cX9_doesNow) (As := [.int z2]) (rest := []) hx hb hml hown hE hz (okX9_passes X l hfl  hw) qw_1797 qw_1799 qw_49 qw_86 qw_1800 (myX9_passes) ⟨Nat.le_of_ble_eq_true rfl, Nat.le_of_ble_eq_true rfl⟩ (rv_X9 hE hP rfl) hP hD hS rfl hl.1 rfl (Nat.le_of_ble_eq_true rfl) dX9_doesNow_207 ⟨Nat.le_of_ble_eq_true rfl, Nat.le_of_ble_eq_true rfl⟩) hS (fun r20 G19 H locs hw hP hD hS => ?_)
            exact end_i hx hb hr hlk rfl hw hP hD hS dX9_doesNow_210
          · replace hw := ite_f hw c18
            by_cases c21 : z5 = 101
            · replace hw := ite_t hw c21
              subst c21
              refine lv_tableIn (off := 167) (tgt := 185) hx hb dX9_doesNow_18 (by decide) (by decide) (by decide) (by decide) ?_
              refine lv_aload_n hx hb dX9_doesNow_185 rfl (lv_at hl 2 rfl) ?_
              refine lv_iload_n hx hb dX9_doesNow_186 rfl (lv_at hl 1 rfl) ?_
              refine lv_iload_n hx hb dX9_doesNow_187 rfl (lv_at hl 0 rfl) ?_
              refine call_i (run_V (cc := cX9_doesNow) (As := [.int z2, .int z4]) (rest := []) hx hb hml hown hE hz (okX9_redeems X l hfl  hw) qw_1751 qw_1753 qw_43 qw_86 qw_1754 (myX9_redeems) ⟨Nat.le_of_ble_eq_true rfl, Nat.le_of_ble_eq_true rfl⟩ (rv_X9 hE hP rfl) hP hD hS rfl hl.1 rfl (Nat.le_of_ble_eq_true rfl) dX9_doesNow_188 ⟨Nat.le_of_ble_eq_true rfl, Nat.le_of_ble_eq_true rfl⟩) hS (fun r23 G22 H locs hw hP hD hS => ?_)
              exact end_i hx hb hr hlk rfl hw hP hD hS dX9_doesNow_191
            · replace hw := ite_f hw c21
              by_cases c24 : z5 = 102
              · replace hw := ite_t hw c24
                subst c24
                refine lv_tableIn (off := 187) (tgt := 205) hx hb dX9_doesNow_18 (by decide) (by decide) (by decide) (by decide) ?_
                refine lv_aload_n hx hb dX9_doesNow_205 rfl (lv_at hl 2 rfl) ?_
                refine lv_iload_n hx hb dX9_doesNow_206 rfl (lv_at hl 1 rfl) ?_
                refine call_i (run_V (cc := cX9_doesNow) (As := [.int z2]) (rest := []) hx hb hml hown hE hz (okX9_passes X l hfl  hw) qw_1797 qw_1799 qw_49 qw_86 qw_1800 (myX9_passes) ⟨Nat.le_of_ble_eq_true rfl, Nat.le_of_ble_eq_true rfl⟩ (rv_X9 hE hP rfl) hP hD hS rfl hl.1 rfl (Nat.le_of_ble_eq_true rfl) dX9_doesNow_207 ⟨Nat.le_of_ble_eq_true rfl, Nat.le_of_ble_eq_true rfl⟩) hS (fun r26 G25 H locs hw hP hD hS => ?_)
                exact end_i hx hb hr hlk rfl hw hP hD hS dX9_doesNow_210
              · replace hw := ite_f hw c24
                by_cases c27 : z5 = 103
                · replace hw := ite_t hw c27
                  subst c27
                  refine lv_tableIn (off := 187) (tgt := 205) hx hb dX9_doesNow_18 (by decide) (by decide) (by decide) (by decide) ?_
                  refine lv_aload_n hx hb dX9_doesNow_205 rfl (lv_at hl 2 rfl) ?_
                  refine lv_iload_n hx hb dX9_doesNow_206 rfl (lv_at hl 1 rfl) ?_
                  refine call_i (run_V (cc := cX9_doesNow) (As := [.int z2]) (rest := []) hx hb hml hown hE hz (okX9_passes X l hfl  hw) qw_1797 qw_1799 qw_49 qw_86 qw_1800 (myX9_passes) ⟨Nat.le_of_ble_eq_true rfl, Nat.le_of_ble_eq_true rfl⟩ (rv_X9 hE hP rfl) hP hD hS rfl hl.1 rfl (Nat.le_of_ble_eq_true rfl) dX9_doesNow_207 ⟨Nat.le_of_ble_eq_true rfl, Nat.le_of_ble_eq_true rfl⟩) hS (fun r29 G28 H locs hw hP hD hS => ?_)
                  exact end_i hx hb hr hlk rfl hw hP hD hS dX9_doesNow_210
                · replace hw := ite_f hw c27
                  by_cases c30 : z5 = 104
                  · replace hw := ite_t hw c30
                    subst c30
                    refine lv_tableIn (off := 187) (tgt := 205) hx hb dX9_doesNow_18 (by decide) (by decide) (by decide) (by decide) ?_
                    refine lv_aload_n hx hb dX9_doesNow_205 rfl (lv_at hl 2 rfl) ?_
                    refine lv_iload_n hx hb dX9_doesNow_206 rfl (lv_at hl 1 rfl) ?_
                    refine call_i (run_V (cc := cX9_doesNow) (As := [.int z2]) (rest := []) hx hb hml hown hE hz (okX9_passes X l hfl  hw) qw_1797 qw_1799 qw_49 qw_86 qw_1800 (myX9_passes) ⟨Nat.le_of_ble_eq_true rfl, Nat.le_of_ble_eq_true rfl⟩ (rv_X9 hE hP rfl) hP hD hS rfl hl.1 rfl (Nat.le_of_ble_eq_true rfl) dX9_doesNow_207 ⟨Nat.le_of_ble_eq_true rfl, Nat.le_of_ble_eq_true rfl⟩) hS (fun r32 G31 H locs hw hP hD hS => ?_)
                    exact end_i hx hb hr hlk rfl hw hP hD hS dX9_doesNow_210
                  · replace hw := ite_f hw c30
                    by_cases c33 : z5 = 105
                    · replace hw := ite_t hw c33
                      subst c33
                      refine lv_tableIn (off := 187) (tgt := 205) hx hb dX9_doesNow_18 (by decide) (by decide) (by decide) (by decide) ?_
                      refine lv_aload_n hx hb dX9_doesNow_205 rfl (lv_at hl 2 rfl) ?_
                      refine lv_iload_n hx hb dX9_doesNow_206 rfl (lv_at hl 1 rfl) ?_
                      refine call_i (run_V (cc := cX9_doesNow) (As := [.int z2]) (rest := []) hx hb hml hown hE hz (okX9_passes X l hfl  hw) qw_1797 qw_1799 qw_49 qw_86 qw_1800 (myX9_passes) ⟨Nat.le_of_ble_eq_true rfl, Nat.le_of_ble_eq_true rfl⟩ (rv_X9 hE hP rfl) hP hD hS rfl hl.1 rfl (Nat.le_of_ble_eq_true rfl) dX9_doesNow_207 ⟨Nat.le_of_ble_eq_true rfl, Nat.le_of_ble_eq_true rfl⟩) hS (fun r35 G34 H locs hw hP hD hS => ?_)
                      exact end_i hx hb hr hlk rfl hw hP hD hS dX9_doesNow_210
                    · replace hw := ite_f hw c33
                      by_cases c36 : z5 = 106
                      · replace hw := ite_t hw c36
                        subst c36
                        refine lv_tableIn (off := 187) (tgt := 205) hx hb dX9_doesNow_18 (by decide) (by decide) (by decide) (by decide) ?_
                        refine lv_aload_n hx hb dX9_doesNow_205 rfl (lv_at hl 2 rfl) ?_
                        refine lv_iload_n hx hb dX9_doesNow_206 rfl (lv_at hl 1 rfl) ?_
                        refine call_i (run_V (cc := cX9_doesNow) (As := [.int z2]) (rest := []) hx hb hml hown hE hz (okX9_passes X l hfl  hw) qw_1797 qw_1799 qw_49 qw_86 qw_1800 (myX9_passes) ⟨Nat.le_of_ble_eq_true rfl, Nat.le_of_ble_eq_true rfl⟩ (rv_X9 hE hP rfl) hP hD hS rfl hl.1 rfl (Nat.le_of_ble_eq_true rfl) dX9_doesNow_207 ⟨Nat.le_of_ble_eq_true rfl, Nat.le_of_ble_eq_true rfl⟩) hS (fun r38 G37 H locs hw hP hD hS => ?_)
                        exact end_i hx hb hr hlk rfl hw hP hD hS dX9_doesNow_210
                      · replace hw := ite_f hw c36
                        by_cases c39 : z5 = 107
                        · replace hw := ite_t hw c39
                          subst c39
                          refine lv_tableIn (off := 153) (tgt := 171) hx hb dX9_doesNow_18 (by decide) (by decide) (by decide) (by decide) ?_
                          refine lv_aload_n hx hb dX9_doesNow_171 rfl (lv_at hl 2 rfl) ?_
                          refine lv_iload_n hx hb dX9_doesNow_172 rfl (lv_at hl 1 rfl) ?_
                          refine lv_iload_n hx hb dX9_doesNow_173 rfl (lv_at hl 0 rfl) ?_
                          refine call_i (run_V (cc := cX9_doesNow) (As := [.int z2, .int z4]) (rest := []) hx hb hml hown hE hz (okX9_sticks X l hfl  hw) qw_1786 qw_1788 qw_48 qw_86 qw_1789 (myX9_sticks) ⟨Nat.le_of_ble_eq_true rfl, Nat.le_of_ble_eq_true rfl⟩ (rv_X9 hE hP rfl) hP hD hS rfl hl.1 rfl (Nat.le_of_ble_eq_true rfl) dX9_doesNow_174 ⟨Nat.le_of_ble_eq_true rfl, Nat.le_of_ble_eq_true rfl⟩) hS (fun r41 G40 H locs hw hP hD hS => ?_)
                          exact end_i hx hb hr hlk rfl hw hP hD hS dX9_doesNow_177
                        · replace hw := ite_f hw c39
                          by_cases c42 : z5 = 108
                          · replace hw := ite_t hw c42
                            subst c42
                            refine lv_tableIn (off := 187) (tgt := 205) hx hb dX9_doesNow_18 (by decide) (by decide) (by decide) (by decide) ?_
                            refine lv_aload_n hx hb dX9_doesNow_205 rfl (lv_at hl 2 rfl) ?_
                            refine lv_iload_n hx hb dX9_doesNow_206 rfl (lv_at hl 1 rfl) ?_
                            refine call_i (run_V (cc := cX9_doesNow) (As := [.int z2]) (rest := []) hx hb hml hown hE hz (okX9_passes X l hfl  hw) qw_1797 qw_1799 qw_49 qw_86 qw_1800 (myX9_passes) ⟨Nat.le_of_ble_eq_true rfl, Nat.le_of_ble_eq_true rfl⟩ (rv_X9 hE hP rfl) hP hD hS rfl hl.1 rfl (Nat.le_of_ble_eq_true rfl) dX9_doesNow_207 ⟨Nat.le_of_ble_eq_true rfl, Nat.le_of_ble_eq_true rfl⟩) hS (fun r44 G43 H locs hw hP hD hS => ?_)
                            exact end_i hx hb hr hlk rfl hw hP hD hS dX9_doesNow_210
                          · replace hw := ite_f hw c42
                            by_cases c45 : z5 = 109
                            · replace hw := ite_t hw c45
                              subst c45
                              refine lv_tableIn (off := 160) (tgt := 178) hx hb dX9_doesNow_18 (by decide) (by decide) (by decide) (by decide) ?_
                              refine lv_aload_n hx hb dX9_doesNow_178 rfl (lv_at hl 2 rfl) ?_
                              refine lv_iload_n hx hb dX9_doesNow_179 rfl (lv_at hl 1 rfl) ?_
                              refine lv_iload_n hx hb dX9_doesNow_180 rfl (lv_at hl 0 rfl) ?_
                              refine call_i (run_V (cc := cX9_doesNow) (As := [.int z2, .int z4]) (rest := []) hx hb hml hown hE hz (okX9_mints X l hfl  hw) qw_1739 qw_1741 qw_41 qw_86 qw_1742 (myX9_mints) ⟨Nat.le_of_ble_eq_true rfl, Nat.le_of_ble_eq_true rfl⟩ (rv_X9 hE hP rfl) hP hD hS rfl hl.1 rfl (Nat.le_of_ble_eq_true rfl) dX9_doesNow_181 ⟨Nat.le_of_ble_eq_true rfl, Nat.le_of_ble_eq_true rfl⟩) hS (fun r47 G46 H locs hw hP hD hS => ?_)
                              exact end_i hx hb hr hlk rfl hw hP hD hS dX9_doesNow_184
                            · replace hw := ite_f hw c45
                              by_cases c48 : z5 = 110
                              · replace hw := ite_t hw c48
                                subst c48
                                refine lv_tableIn (off := 187) (tgt := 205) hx hb dX9_doesNow_18 (by decide) (by decide) (by decide) (by decide) ?_
                                refine lv_aload_n hx hb dX9_doesNow_205 rfl (lv_at hl 2 rfl) ?_
                                refine lv_iload_n hx hb dX9_doesNow_206 rfl (lv_at hl 1 rfl) ?_
                                refine call_i (run_V (cc := cX9_doesNow) (As := [.int z2]) (rest := []) hx hb hml hown hE hz (okX9_passes X l hfl  hw) qw_1797 qw_1799 qw_49 qw_86 qw_1800 (myX9_passes) ⟨Nat.le_of_ble_eq_true rfl, Nat.le_of_ble_eq_true rfl⟩ (rv_X9 hE hP rfl) hP hD hS rfl hl.1 rfl (Nat.le_of_ble_eq_true rfl) dX9_doesNow_207 ⟨Nat.le_of_ble_eq_true rfl, Nat.le_of_ble_eq_true rfl⟩) hS (fun r50 G49 H locs hw hP hD hS => ?_)
                                exact end_i hx hb hr hlk rfl hw hP hD hS dX9_doesNow_210
                              · replace hw := ite_f hw c48
                                by_cases c51 : z5 = 111
                                · replace hw := ite_t hw c51
                                  subst c51
                                  refine lv_tableIn (off := 187) (tgt := 205) hx hb dX9_doesNow_18 (by decide) (by decide) (by decide) (by decide) ?_
                                  refine lv_aload_n hx hb dX9_doesNow_205 rfl (lv_at hl 2 rfl) ?_
                                  refine lv_iload_n hx hb dX9_doesNow_206 rfl (lv_at hl 1 rfl) ?_
                                  refine call_i (run_V (cc := cX9_doesNow) (As := [.int z2]) (rest := []) hx hb hml hown hE hz (okX9_passes X l hfl  hw) qw_1797 qw_1799 qw_49 qw_86 qw_1800 (myX9_passes) ⟨Nat.le_of_ble_eq_true rfl, Nat.le_of_ble_eq_true rfl⟩ (rv_X9 hE hP rfl) hP hD hS rfl hl.1 rfl (Nat.le_of_ble_eq_true rfl) dX9_doesNow_207 ⟨Nat.le_of_ble_eq_true rfl, Nat.le_of_ble_eq_true rfl⟩) hS (fun r53 G52 H locs hw hP hD hS => ?_)
                                  exact end_i hx hb hr hlk rfl hw hP hD hS dX9_doesNow_210
                                · replace hw := ite_f hw c51
                                  by_cases c54 : z5 = 112
                                  · replace hw := ite_t hw c54
                                    subst c54
                                    refine lv_tableIn (off := 108) (tgt := 126) hx hb dX9_doesNow_18 (by decide) (by decide) (by decide) (by decide) ?_
                                    refine lv_aload_n hx hb dX9_doesNow_126 rfl (lv_at hl 2 rfl) ?_
                                    refine lv_iload_n hx hb dX9_doesNow_127 rfl (lv_at hl 1 rfl) ?_
                                    refine lv_iload_n hx hb dX9_doesNow_128 rfl (lv_at hl 0 rfl) ?_
                                    refine lv_aload_n hx hb dX9_doesNow_129 rfl (lv_at hl 2 rfl) ?_
                                    refine gf_X9_15 hx hb hE hP hown rfl (hE.w qw_1585 rfl _) dX9_doesNow_130 ?_
                                    refine lv_iconst (v := 2) hx hb dX9_doesNow_133 (by decide) ?_
                                    obtain ⟨y55, hw⟩ := hw
                                    refine ald_2 hx hb hE hP rfl y55 dX9_doesNow_134 ?_
                                    refine call_i (run_V (cc := cX9_doesNow) (As := [.int z2, .int z4, .int (G.1 196 (2 : Int32).toNatClampNeg)]) (rest := []) hx hb hml hown hE hz (okX9_deposits X l hfl  hw) qw_1679 qw_1681 qw_29 qw_86 qw_1682 (myX9_deposits) ⟨Nat.le_of_ble_eq_true rfl, Nat.le_of_ble_eq_true rfl⟩ (rv_X9 hE hP rfl) hP hD hS rfl hl.1 rfl (Nat.le_of_ble_eq_true rfl) dX9_doesNow_135 ⟨Nat.le_of_ble_eq_true rfl, Nat.le_of_ble_eq_true rfl⟩) hS (fun r57 G56 H locs hw hP hD hS => ?_)
                                    exact end_i hx hb hr hlk rfl hw hP hD hS dX9_doesNow_138
                                  · replace hw := ite_f hw c54
                                    by_cases c58 : z5 = 113
                                    · replace hw := ite_t hw c58
                                      subst c58
                                      refine lv_tableIn (off := 187) (tgt := 205) hx hb dX9_doesNow_18 (by decide) (by decide) (by decide) (by decide) ?_
                                      refine lv_aload_n hx hb dX9_doesNow_205 rfl (lv_at hl 2 rfl) ?_
                                      refine lv_iload_n hx hb dX9_doesNow_206 rfl (lv_at hl 1 rfl) ?_
                                      refine call_i (run_V (cc := cX9_doesNow) (As := [.int z2]) (rest := []) hx hb hml hown hE hz (okX9_passes X l hfl  hw) qw_1797 qw_1799 qw_49 qw_86 qw_1800 (myX9_passes) ⟨Nat.le_of_ble_eq_true rfl, Nat.le_of_ble_eq_true rfl⟩ (rv_X9 hE hP rfl) hP hD hS rfl hl.1 rfl (Nat.le_of_ble_eq_true rfl) dX9_doesNow_207 ⟨Nat.le_of_ble_eq_true rfl, Nat.le_of_ble_eq_true rfl⟩) hS (fun r60 G59 H locs hw hP hD hS => ?_)
                                      exact end_i hx hb hr hlk rfl hw hP hD hS dX9_doesNow_210
                                    · replace hw := ite_f hw c58
                                      by_cases c61 : z5 = 114
                                      · replace hw := ite_t hw c61
                                        subst c61
                                        refine lv_tableIn (off := 180) (tgt := 198) hx hb dX9_doesNow_18 (by decide) (by decide) (by decide) (by decide) ?_
                                        refine lv_aload_n hx hb dX9_doesNow_198 rfl (lv_at hl 2 rfl) ?_
                                        refine lv_iload_n hx hb dX9_doesNow_199 rfl (lv_at hl 1 rfl) ?_
                                        refine lv_iload_n hx hb dX9_doesNow_200 rfl (lv_at hl 0 rfl) ?_
                                        refine call_i (run_V (cc := cX9_doesNow) (As := [.int z2, .int z4]) (rest := []) hx hb hml hown hE hz (okX9_setsRate X l hfl  hw) qw_1774 qw_1776 qw_46 qw_86 qw_1777 (myX9_setsRate) ⟨Nat.le_of_ble_eq_true rfl, Nat.le_of_ble_eq_true rfl⟩ (rv_X9 hE hP rfl) hP hD hS rfl hl.1 rfl (Nat.le_of_ble_eq_true rfl) dX9_doesNow_201 ⟨Nat.le_of_ble_eq_true rfl, Nat.le_of_ble_eq_true rfl⟩) hS (fun r63 G62 H locs hw hP hD hS => ?_)
                                        exact end_i hx hb hr hlk rfl hw hP hD hS dX9_doesNow_204
                                      · replace hw := ite_f hw c61
                                        by_cases c64 : z5 = 115
                                        · replace hw := ite_t hw c64
                                          subst c64
                                          refine lv_tableIn (off := 134) (tgt := 152) hx hb dX9_doesNow_18 (by decide) (by decide) (by decide) (by decide) ?_
                                          refine lv_aload_n hx hb dX9_doesNow_152 rfl (lv_at hl 2 rfl) ?_
                                          refine lv_iload_n hx hb dX9_doesNow_153 rfl (lv_at hl 1 rfl) ?_
                                          refine lv_iload_n hx hb dX9_doesNow_154 rfl (lv_at hl 0 rfl) ?_
                                          refine lv_aload_n hx hb dX9_doesNow_155 rfl (lv_at hl 2 rfl) ?_
                                          refine gf_X9_15 hx hb hE hP hown rfl (hE.w qw_1585 rfl _) dX9_doesNow_156 ?_
                                          refine lv_iconst (v := 2) hx hb dX9_doesNow_159 (by decide) ?_
                                          obtain ⟨y65, hw⟩ := hw
                                          refine ald_2 hx hb hE hP rfl y65 dX9_doesNow_160 ?_
                                          refine lv_aload_n hx hb dX9_doesNow_161 rfl (lv_at hl 2 rfl) ?_
                                          refine gf_X9_15 hx hb hE hP hown rfl (hE.w qw_1585 rfl _) dX9_doesNow_162 ?_
                                          refine lv_iconst (v := 3) hx hb dX9_doesNow_165 (by decide) ?_
                                          obtain ⟨y66, hw⟩ := hw
                                          refine ald_2 hx hb hE hP rfl y66 dX9_doesNow_166 ?_
                                          refine call_i (run_V (cc := cX9_doesNow) (As := [.int z2, .int z4, .int (G.1 196 (2 : Int32).toNatClampNeg), .int (G.1 196 (3 : Int32).toNatClampNeg)]) (rest := []) hx hb hml hown hE hz (okX9_exchanges X l hfl  hw) qw_1727 qw_1729 qw_39 qw_86 qw_1730 (myX9_exchanges) ⟨Nat.le_of_ble_eq_true rfl, Nat.le_of_ble_eq_true rfl⟩ (rv_X9 hE hP rfl) hP hD hS rfl hl.1 rfl (Nat.le_of_ble_eq_true rfl) dX9_doesNow_167 ⟨Nat.le_of_ble_eq_true rfl, Nat.le_of_ble_eq_true rfl⟩) hS (fun r68 G67 H locs hw hP hD hS => ?_)
                                          exact end_i hx hb hr hlk rfl hw hP hD hS dX9_doesNow_170
                                        · replace hw := ite_f hw c64
                                          by_cases c69 : z5 = 116
                                          · replace hw := ite_t hw c69
                                            subst c69
                                            refine lv_tableIn (off := 121) (tgt := 139) hx hb dX9_doesNow_18 (by decide) (by decide) (by decide) (by decide) ?_
                                            refine lv_aload_n hx hb dX9_doesNow_139 rfl (lv_at hl 2 rfl) ?_
                                            refine lv_iload_n hx hb dX9_doesNow_140 rfl (lv_at hl 1 rfl) ?_
                                            refine lv_iload_n hx hb dX9_doesNow_141 rfl (lv_at hl 0 rfl) ?_
                                            refine lv_aload_n hx hb dX9_doesNow_142 rfl (lv_at hl 2 rfl) ?_
                                            refine gf_X9_15 hx hb hE hP hown rfl (hE.w qw_1585 rfl _) dX9_doesNow_143 ?_
                                            refine lv_iconst (v := 2) hx hb dX9_doesNow_146 (by decide) ?_
                                            obtain ⟨y70, hw⟩ := hw
                                            refine ald_2 hx hb hE hP rfl y70 dX9_doesNow_147 ?_
                                            refine call_i (run_V (cc := cX9_doesNow) (As := [.int z2, .int z4, .int (G.1 196 (2 : Int32).toNatClampNeg)]) (rest := []) hx hb hml hown hE hz (okX9_withdraws X l hfl  hw) qw_1711 qw_1713 qw_36 qw_86 qw_1714 (myX9_withdraws) ⟨Nat.le_of_ble_eq_true rfl, Nat.le_of_ble_eq_true rfl⟩ (rv_X9 hE hP rfl) hP hD hS rfl hl.1 rfl (Nat.le_of_ble_eq_true rfl) dX9_doesNow_148 ⟨Nat.le_of_ble_eq_true rfl, Nat.le_of_ble_eq_true rfl⟩) hS (fun r72 G71 H locs hw hP hD hS => ?_)
                                            exact end_i hx hb hr hlk rfl hw hP hD hS dX9_doesNow_151
                                          · replace hw := ite_f hw c69
                                            by_cases c73 : z5 = 117
                                            · replace hw := ite_t hw c73
                                              subst c73
                                              refine lv_tableIn (off := 187) (tgt := 205) hx hb dX9_doesNow_18 (by decide) (by decide) (by decide) (by decide) ?_
                                              refine lv_aload_n hx hb dX9_doesNow_205 rfl (lv_at hl 2 rfl) ?_
                                              refine lv_iload_n hx hb dX9_doesNow_206 rfl (lv_at hl 1 rfl) ?_
                                              refine call_i (run_V (cc := cX9_doesNow) (As := [.int z2]) (rest := []) hx hb hml hown hE hz (okX9_passes X l hfl  hw) qw_1797 qw_1799 qw_49 qw_86 qw_1800 (myX9_passes) ⟨Nat.le_of_ble_eq_true rfl, Nat.le_of_ble_eq_true rfl⟩ (rv_X9 hE hP rfl) hP hD hS rfl hl.1 rfl (Nat.le_of_ble_eq_true rfl) dX9_doesNow_207 ⟨Nat.le_of_ble_eq_true rfl, Nat.le_of_ble_eq_true rfl⟩) hS (fun r75 G74 H locs hw hP hD hS => ?_)
                                              exact end_i hx hb hr hlk rfl hw hP hD hS dX9_doesNow_210
                                            · replace hw := ite_f hw c73
                                              by_cases c76 : z5 = 118
                                              · replace hw := ite_t hw c76
                                                subst c76
                                                refine lv_tableIn (off := 102) (tgt := 120) hx hb dX9_doesNow_18 (by decide) (by decide) (by decide) (by decide) ?_
                                                refine lv_aload_n hx hb dX9_doesNow_120 rfl (lv_at hl 2 rfl) ?_
                                                refine lv_iload_n hx hb dX9_doesNow_121 rfl (lv_at hl 1 rfl) ?_
                                                refine call_i (run_V (cc := cX9_doesNow) (As := [.int z2]) (rest := []) hx hb hml hown hE hz (okX9_addsVault X l hfl  hw) qw_1652 qw_1654 qw_24 qw_86 qw_1655 (myX9_addsVault) ⟨Nat.le_of_ble_eq_true rfl, Nat.le_of_ble_eq_true rfl⟩ (rv_X9 hE hP rfl) hP hD hS rfl hl.1 rfl (Nat.le_of_ble_eq_true rfl) dX9_doesNow_122 ⟨Nat.le_of_ble_eq_true rfl, Nat.le_of_ble_eq_true rfl⟩) hS (fun r78 G77 H locs hw hP hD hS => ?_)
                                                exact end_i hx hb hr hlk rfl hw hP hD hS dX9_doesNow_125
                                              · replace hw := ite_f hw c76
                                                exact hw.elim
