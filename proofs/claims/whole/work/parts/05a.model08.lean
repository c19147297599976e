def wpX9_readsCommand (post : Int32 → GS → Prop) (G : GS) : Prop :=
  wpX9_nextChar (fun (r2 : Int32) (G1 : GS) =>
  ∀ G3 : GS, G3 = gI G1 189 16 r2 →
    wpX9_reads (fun (r5 : Int32) (G4 : GS) =>
    if r5 = 0 then
      wpX9_reads (fun (r8 : Int32) (G7 : GS) =>
        if r8 = 0 then
          wpX9_reads (fun (r11 : Int32) (G10 : GS) =>
            if r11 = 0 then
              wpX9_reads (fun (r14 : Int32) (G13 : GS) =>
                if r14 = 0 then
                  wpX9_reads (fun (r17 : Int32) (G16 : GS) =>
                    if r17 = 0 then
                      wpX9_reads (fun (r20 : Int32) (G19 : GS) =>
                        if r20 = 0 then
                          wpX9_reads (fun (r23 : Int32) (G22 : GS) =>
                            if r23 = 0 then
                              wpX9_reads (fun (r26 : Int32) (G25 : GS) =>
                                if r26 = 0 then
                                  post 0 G25
                                else
                                  wpX9_readsDay (fun (r29 : Int32) (G28 : GS) =>
                                    if r29 = 0 then
                                      post 0 G28
                                    else
                                      post 1 G28)  G25) 100 G22
                            else
                              wpX9_reads (fun (r32 : Int32) (G31 : GS) =>
                                if r32 = 0 then
                                  post 0 G31
                                else
                                  wpX9_reads (fun (r35 : Int32) (G34 : GS) =>
                                    if r35 = 0 then
                                      post 0 G34
                                    else
                                      wpX9_reads (fun (r38 : Int32) (G37 : GS) =>
                                        if r38 = 0 then
                                          post 0 G37
                                        else
                                          wpX9_reads (fun (r41 : Int32) (G40 : GS) =>
                                            if r41 = 0 then
                                              post 0 G40
                                            else
                                              wpX9_readsKind (fun (r44 : Int32) (G43 : GS) =>
                                                if r44 = 0 then
                                                  post 0 G43
                                                else
                                                  wpX9_readsNumber (fun (r47 : Int32) (G46 : GS) =>
                                                    if r47 = 0 then
                                                      post 0 G46
                                                    else
                                                      post 1 G46) 1 G43) 0 G40) 32 G37) 101 G34) 116 G31) 97 G22) 114 G19
                        else
                          wpX9_reads (fun (r50 : Int32) (G49 : GS) =>
                            if r50 = 0 then
                              post 0 G49
                            else
                              wpX9_reads (fun (r53 : Int32) (G52 : GS) =>
                                if r53 = 0 then
                                  post 0 G52
                                else
                                  wpX9_reads (fun (r56 : Int32) (G55 : GS) =>
                                    if r56 = 0 then
                                      post 0 G55
                                    else
                                      wpX9_reads (fun (r59 : Int32) (G58 : GS) =>
                                        if r59 = 0 then
                                          post 0 G58
                                        else
                                          wpX9_reads (fun (r62 : Int32) (G61 : GS) =>
                                            if r62 = 0 then
                                              post 0 G61
                                            else
                                              wpX9_readsDigit (fun (r65 : Int32) (G64 : GS) =>
                                                if r65 = 0 then
                                                  post 0 G64
                                                else
                                                  post 1 G64) 0 G61) 32 G58) 116 G55) 105 G52) 100 G49) 117 G19) 97 G16
                    else
                      wpX9_readsM (fun (r68 : Int32) (G67 : GS) =>
                        narrow .boolean (.int r68) = .int r68 ∧ post r68 G67)  G16) 109 G13
                else
                  wpX9_readsS (fun (r71 : Int32) (G70 : GS) =>
                    narrow .boolean (.int r71) = .int r71 ∧ post r71 G70)  G13) 115 G10
            else
              wpX9_reads (fun (r74 : Int32) (G73 : GS) =>
                if r74 = 0 then
                  post 0 G73
                else
                  wpX9_reads (fun (r77 : Int32) (G76 : GS) =>
                    if r77 = 0 then
                      post 0 G76
                    else
                      wpX9_reads (fun (r80 : Int32) (G79 : GS) =>
                        if r80 = 0 then
                          post 0 G79
                        else
                          wpX9_readsFlies (fun (r83 : Int32) (G82 : GS) =>
                            if r83 = 0 then
                              post 0 G82
                            else
                              post 1 G82)  G79) 101 G76) 107 G73) 97 G10) 116 G7
        else
          wpX9_reads (fun (r86 : Int32) (G85 : GS) =>
            if r86 = 0 then
              post 0 G85
            else
              wpX9_reads (fun (r89 : Int32) (G88 : GS) =>
                if r89 = 0 then
                  post 0 G88
                else
                  wpX9_readsFlies (fun (r92 : Int32) (G91 : GS) =>
                    if r92 = 0 then
                      post 0 G91
                    else
                      post 1 G91)  G88) 116 G85) 117 G7) 112 G4
    else
      wpX9_reads (fun (r95 : Int32) (G94 : GS) =>
        if r95 = 0 then
          post 0 G94
        else
          wpX9_reads (fun (r98 : Int32) (G97 : GS) =>
            if r98 = 0 then
              post 0 G97
            else
              wpX9_reads (fun (r101 : Int32) (G100 : GS) =>
                if r101 = 0 then
                  post 0 G100
                else
                  wpX9_reads (fun (r104 : Int32) (G103 : GS) =>
                    if r104 = 0 then
                      post 0 G103
                    else
                      wpX9_reads (fun (r107 : Int32) (G106 : GS) =>
                        if r107 = 0 then
                          post 0 G106
                        else
                          wpX9_readsDigit (fun (r110 : Int32) (G109 : GS) =>
                            if r110 = 0 then
                              post 0 G109
                            else
                              post 1 G109) 0 G106) 32 G103) 116 G100) 108 G97) 117 G94) 97 G4) 118 G3)  G
set_option maxHeartbeats 4000000 in
set_option maxRecDepth 100000 in
theorem okX9_readsCommand (X : Cx) (l : Launch) (hfl : l.stackTraces = false) {post : Int32 → GS → Prop}  {G : GS}  (hw : wpX9_readsCommand post G) : CT X l yX9_readsCommand cX9_readsCommand 1 (some FieldType.boolean) 5 0 0 [.ref (xa X 189)] G (Qi X post) := by
  refine mbegin (by decide) (Nat.le_of_ble_eq_true rfl) (fun p e s m below meth c hx hb hr hml hlk hown hE hz ls hl hP hD hS => ?_)
  have hl : lv_has ls 1 [(0, .ref (xa X 189))] := hl
  have hown : s.vm.findClass "FlyTreasuryModel" = some m.cls := hown
  unfold wpX9_readsCommand at hw
  refine lv_aload_n hx hb dX9_readsCommand_0 rfl (lv_at hl 0 rfl) ?_
  refine lv_aload_n hx hb dX9_readsCommand_1 rfl (lv_at hl 0 rfl) ?_
  refine call_i (run_V (cc := cX9_readsCommand) (As := []) (rest := [.ref (xa X 189)]) hx hb hml hown hE hz (okX9_nextChar X l hfl  hw) qw_1995 qw_1997 qw_60 qw_86 qw_1998 (myX9_nextChar) ⟨Nat.le_of_ble_eq_true rfl, Nat.le_of_ble_eq_true rfl⟩ (rv_X9 hE hP rfl) hP hD hS rfl hl.1 rfl (Nat.le_of_ble_eq_true rfl) dX9_readsCommand_2 ⟨Nat.le_of_ble_eq_true rfl, Nat.le_of_ble_eq_true rfl⟩) hS (fun r2 G1 H locs hw hP hD hS => ?_)
  refine pf_X9_16 hx hb hE hP hD hS hown rfl (hE.w qw_1586 rfl _) dX9_readsCommand_5 (fun G3 H locs eG3 hP hD hS => ?_)
  replace hw := hw G3 eG3
  refine lv_aload_n hx hb dX9_readsCommand_8 rfl (lv_at hl 0 rfl) ?_
  refine lv_bipush (v := 118) hx hb dX9_readsCommand_9 (by decide) ?_
  refine call_i (run_V (cc := cX9_readsCommand) (As := [.int 118]) (rest := []) hx hb hml hown hE hz (okX9_reads X l hfl  hw) qw_1999 qw_2001 qw_61 qw_86 qw_2002 (myX9_reads) ⟨Nat.le_of_ble_eq_true rfl, Nat.le_of_ble_eq_true rfl⟩ (rv_X9 hE hP rfl) hP hD hS rfl hl.1 rfl (Nat.le_of_ble_eq_true rfl) dX9_readsCommand_11 ⟨Nat.le_of_ble_eq_true rfl, Nat.le_of_ble_eq_true rfl⟩) hS (fun r5 G4 H locs hw hP hD hS => ?_)
  refine lv_if_eq (tgt := 76) hx hb dX9_readsCommand_14 (by decide) (fun c6 => ?_) (fun c6 => ?_)
  · replace hw := ite_t hw c6
    refine lv_aload_n hx hb dX9_readsCommand_76 rfl (lv_at hl 0 rfl) ?_
    refine lv_bipush (v := 112) hx hb dX9_readsCommand_77 (by decide) ?_
    refine call_i (run_V (cc := cX9_readsCommand) (As := [.int 112]) (rest := []) hx hb hml hown hE hz (okX9_reads X l hfl  hw) qw_1999 qw_2001 qw_61 qw_86 qw_2002 (myX9_reads) ⟨Nat.le_of_ble_eq_true rfl, Nat.le_of_ble_eq_true rfl⟩ (rv_X9 hE hP rfl) hP hD hS rfl hl.1 rfl (Nat.le_of_ble_eq_true rfl) dX9_readsCommand_79 ⟨Nat.le_of_ble_eq_true rfl, Nat.le_of_ble_eq_true rfl⟩) hS (fun r8 G7 H locs hw hP hD hS => ?_)
    refine lv_if_eq (tgt := 116) hx hb dX9_readsCommand_82 (by decide) (fun c9 => ?_) (fun c9 => ?_)
    · replace hw := ite_t hw c9
      refine lv_aload_n hx hb dX9_readsCommand_116 rfl (lv_at hl 0 rfl) ?_
      refine lv_bipush (v := 116) hx hb dX9_readsCommand_117 (by decide) ?_
      refine call_i (run_V (cc := cX9_readsCommand) (As := [.int 116]) (rest := []) hx hb hml hown hE hz (okX9_reads X l hfl  hw) qw_1999 qw_2001 qw_61 qw_86 qw_2002 (myX9_reads) ⟨Nat.le_of_ble_eq_true rfl, Nat.le_of_ble_eq_true rfl⟩ (rv_X9 hE hP rfl) hP hD hS rfl hl.1 rfl (Nat.le_of_ble_eq_true rfl) dX9_readsCommand_119 ⟨Nat.le_of_ble_eq_true rfl, Nat.le_of_ble_eq_true rfl⟩) hS (fun r11 G10 H locs hw hP hD hS => ?_)
      refine lv_if_eq (tgt := 165) hx hb dX9_readsCommand_122 (by decide) (fun c12 => ?_) (fun c12 => ?_)
      · replace hw := ite_t hw c12
        refine lv_aload_n hx hb dX9_readsCommand_165 rfl (lv_at hl 0 rfl) ?_
        refine lv_bipush (v := 115) hx hb dX9_readsCommand_166 (by decide) ?_
        refine call_i (run_V (cc := cX9_readsCommand) (As := [.int 115]) (rest := []) hx hb hml hown hE hz (okX9_reads X l hfl  hw) qw_1999 qw_2001 qw_61 qw_86 qw_2002 (myX9_reads) ⟨Nat.le_of_ble_eq_true rfl, Nat.le_of_ble_eq_true rfl⟩ (rv_X9 hE hP rfl) hP hD hS rfl hl.1 rfl (Nat.le_of_ble_eq_true rfl) dX9_readsCommand_168 ⟨Nat.le_of_ble_eq_true rfl, Nat.le_of_ble_eq_true rfl⟩) hS (fun r14 G13 H locs hw hP hD hS => ?_)
        refine lv_if_eq (tgt := 179) hx hb dX9_readsCommand_171 (by decide) (fun c15 => ?_) (fun c15 => ?_)
        · replace hw := ite_t hw c15
          refine lv_aload_n hx hb dX9_readsCommand_179 rfl (lv_at hl 0 rfl) ?_
          refine lv_bipush (v := 109) hx hb dX9_readsCommand_180 (by decide) ?_
          refine call_i (run_V (cc := cX9_readsCommand) (As := [.int 109]) (rest := []) hx hb hml hown hE hz (okX9_reads X l hfl  hw) qw_1999 qw_2001 qw_61 qw_86 qw_2002 (myX9_reads) ⟨Nat.le_of_ble_eq_true rfl, Nat.le_of_ble_eq_true rfl⟩ (rv_X9 hE hP rfl) hP hD hS rfl hl.1 rfl (Nat.le_of_ble_eq_true rfl) dX9_readsCommand_182 ⟨Nat.le_of_ble_eq_true rfl, Nat.le_of_ble_eq_true rfl⟩) hS (fun r17 G16 H locs hw hP hD hS => ?_)
          refine lv_if_eq (tgt := 193) hx hb dX9_readsCommand_185 (by decide) (fun c18 => ?_) (fun c18 => ?_)
          · replace hw := ite_t hw c18
            refine lv_aload_n hx hb dX9_readsCommand_193 rfl (lv_at hl 0 rfl) ?_
            refine lv_bipush (v := 97) hx hb dX9_readsCommand_194 (by decide) ?_
            refine call_i (run_V (cc := cX9_readsCommand) (As := [.int 97]) (rest := []) hx hb hml hown hE hz (okX9_reads X l hfl  hw) qw_1999 qw_2001 qw_61 qw_86 qw_2002 (myX9_reads) ⟨Nat.le_of_ble_eq_true rfl, Nat.le_of_ble_eq_true rfl⟩ (rv_X9 hE hP rfl) hP hD hS rfl hl.1 rfl (Nat.le_of_ble_eq_true rfl) dX9_readsCommand_196 ⟨Nat.le_of_ble_eq_true rfl, Nat.le_of_ble_eq_true rfl⟩) hS (fun r20 G19 H locs hw hP hD hS => ?_)
            refine lv_if_eq (tgt := 261) hx hb dX9_readsCommand_199 (by decide) (fun c21 => ?_) (fun c21 => ?_)
            · replace hw := ite_t hw c21
              refine lv_aload_n hx hb dX9_readsCommand_261 rfl (lv_at hl 0 rfl) ?_
              refine lv_bipush (v := 114) hx hb dX9_readsCommand_262 (by decide) ?_
              refine call_i (run_V (cc := cX9_readsCommand) (As := [.int 114]) (rest := []) hx hb hml hown hE hz (okX9_reads X l hfl  hw) qw_1999 qw_2001 qw_61 qw_86 qw_2002 (myX9_reads) ⟨Nat.le_of_ble_eq_true rfl, Nat.le_of_ble_eq_true rfl⟩ (rv_X9 hE hP rfl) hP hD hS rfl hl.1 rfl (Nat.le_of_ble_eq_true rfl) dX9_readsCommand_264 ⟨Nat.le_of_ble_eq_true rfl, Nat.le_of_ble_eq_true rfl⟩) hS (fun r23 G22 H locs hw hP hD hS => ?_)
              refine lv_if_eq (tgt := 328) hx hb dX9_readsCommand_267 (by decide) (fun c24 => ?_) (fun c24 => ?_)
              · replace hw := ite_t hw c24
                refine lv_aload_n hx hb dX9_readsCommand_328 rfl (lv_at hl 0 rfl) ?_
                refine lv_bipush (v := 100) hx hb dX9_readsCommand_329 (by decide) ?_
                refine call_i (run_V (cc := cX9_readsCommand) (As := [.int 100]) (rest := []) hx hb hml hown hE hz (okX9_reads X l hfl  hw) qw_1999 qw_2001 qw_61 qw_86 qw_2002 (myX9_reads) ⟨Nat.le_of_ble_eq_true rfl, Nat.le_of_ble_eq_true rfl⟩ (rv_X9 hE hP rfl) hP hD hS rfl hl.1 rfl (Nat.le_of_ble_eq_true rfl) dX9_readsCommand_331 ⟨Nat.le_of_ble_eq_true rfl, Nat.le_of_ble_eq_true rfl⟩) hS (fun r26 G25 H locs hw hP hD hS => ?_)
                refine lv_if_eq (tgt := 348) hx hb dX9_readsCommand_334 (by decide) (fun c27 => ?_) (fun c27 => ?_)
                · replace hw := ite_t hw c27
                  refine lv_iconst (v := 0) hx hb dX9_readsCommand_348 (by decide) ?_
                  exact end_i hx hb hr hlk (by decide) hw hP hD hS dX9_readsCommand_349
                · replace hw := ite_f hw c27
                  refine lv_aload_n hx hb dX9_readsCommand_337 rfl (lv_at hl 0 rfl) ?_
                  refine call_i (run_V (cc := cX9_readsCommand) (As := []) (rest := []) hx hb hml hown hE hz (okX9_readsDay X l hfl  hw) qw_2027 qw_2029 qw_68 qw_86 qw_2030 (myX9_readsDay) ⟨Nat.le_of_ble_eq_true rfl, Nat.le_of_ble_eq_true rfl⟩ (rv_X9 hE hP rfl) hP hD hS rfl hl.1 rfl (Nat.le_of_ble_eq_true rfl) dX9_readsCommand_338 ⟨Nat.le_of_ble_eq_true rfl, Nat.le_of_ble_eq_true rfl⟩) hS (fun r29 G28 H locs hw hP hD hS => ?_)
                  refine lv_if_eq (tgt := 348) hx hb dX9_readsCommand_341 (by decide) (fun c30 => ?_) (fun c30 => ?_)
                  · replace hw := ite_t hw c30
                    refine lv_iconst (v := 0) hx hb dX9_readsCommand_348 (by decide) ?_
                    exact end_i hx hb hr hlk (by decide) hw hP hD hS dX9_readsCommand_349
                  · replace hw := ite_f hw c30
                    refine lv_iconst (v := 1) hx hb dX9_readsCommand_344 (by decide) ?_
                    refine lv_goto (tgt := 349) hx hb dX9_readsCommand_345 (by decide) ?_
                    exact end_i hx hb hr hlk (by decide) hw hP hD hS dX9_readsCommand_349
              · replace hw := ite_f hw c24
                refine lv_aload_n hx hb dX9_readsCommand_270 rfl (lv_at hl 0 rfl) ?_
                refine lv_bipush (v := 97) hx hb dX9_readsCommand_271 (by decide) ?_
                refine call_i (run_V (cc := cX9_readsCommand) (As := [.int 97]) (rest := []) hx hb hml hown hE hz (okX9_reads X l hfl  hw) qw_1999 qw_2001 qw_61 qw_86 qw_2002 (myX9_reads) ⟨Nat.le_of_ble_eq_true rfl, Nat.le_of_ble_eq_true rfl⟩ (rv_X9 hE hP rfl) hP hD hS rfl hl.1 rfl (Nat.le_of_ble_eq_true rfl) dX9_readsCommand_273 ⟨Nat.le_of_ble_eq_true rfl, Nat.le_of_ble_eq_true rfl⟩) hS (fun r32 G31 H locs hw hP hD hS => ?_)
                refine lv_if_eq (tgt := 326) hx hb dX9_readsCommand_276 (by decide) (fun c33 => ?_) (fun c33 => ?_)
                · replace hw := ite_t hw c33
                  refine lv_iconst (v := 0) hx hb dX9_readsCommand_326 (by decide) ?_
                  exact end_i hx hb hr hlk (by decide) hw hP hD hS dX9_readsCommand_327
                · replace hw := ite_f hw c33
                  refine lv_aload_n hx hb dX9_readsCommand_279 rfl (lv_at hl 0 rfl) ?_
                  refine lv_bipush (v := 116) hx hb dX9_readsCommand_280 (by decide) ?_
                  refine call_i (run_V (cc := cX9_readsCommand) (As := [.int 116]) (rest := []) hx hb hml hown hE hz (okX9_reads X l hfl  hw) qw_1999 qw_2001 qw_61 qw_86 qw_2002 (myX9_reads) ⟨Nat.le_of_ble_eq_true rfl, Nat.le_of_ble_eq_true rfl⟩ (rv_X9 hE hP rfl) hP hD hS rfl hl.1 rfl (Nat.le_of_ble_eq_true rfl) dX9_readsCommand_282 ⟨Nat.le_of_ble_eq_true rfl, Nat.le_of_ble_eq_true rfl⟩) hS (fun r35 G34 H locs hw hP hD hS => ?_)
                  refine lv_if_eq (tgt := 326) hx hb dX9_readsCommand_285 (by decide) (fun c36 => ?_) (fun c36 => ?_)
                  · replace hw := ite_t hw c36
                    refine lv_iconst (v := 0) hx hb dX9_readsCommand_326 (by decide) ?_
                    exact end_i hx hb hr hlk (by decide) hw hP hD hS dX9_readsCommand_327
                  · replace hw := ite_f hw c36
                    refine lv_aload_n hx hb dX9_readsCommand_288 rfl (lv_at hl 0 rfl) ?_
                    refine lv_bipush (v := 101) hx hb dX9_readsCommand_289 (by decide) ?_
                    refine call_i (run_V (cc := cX9_readsCommand) (As := [.int 101]) (rest := []) hx hb hml hown hE hz (okX9_reads X l hfl  hw) qw_1999 qw_2001 qw_61 qw_86 qw_2002 (myX9_reads) ⟨Nat.le_of_ble_eq_true rfl, Nat.le_of_ble_eq_true rfl⟩ (rv_X9 hE hP rfl) hP hD hS rfl hl.1 rfl (Nat.le_of_ble_eq_true rfl) dX9_readsCommand_291 ⟨Nat.le_of_ble_eq_true rfl, Nat.le_of_ble_eq_true rfl⟩) hS (fun r38 G37 H locs hw hP hD hS => ?_)
                    refine lv_if_eq (tgt := 326) hx hb dX9_readsCommand_294 (by decide) (fun c39 => ?_) (fun c39 => ?_)
                    · replace hw := ite_t hw c39
                      refine lv_iconst (v := 0) hx hb dX9_readsCommand_326 (by decide) ?_
                      exact end_i hx hb hr hlk (by decide) hw hP hD hS dX9_readsCommand_327
                    · replace hw := ite_f hw c39
                      refine lv_aload_n hx hb dX9_readsCommand_297 rfl (lv_at hl 0 rfl) ?_
                      refine lv_bipush (v := 32) hx hb dX9_readsCommand_298 (by decide) ?_
                      refine call_i (run_V (cc := cX9_readsCommand) (As := [.int 32]) (rest := []) hx hb hml hown hE hz (okX9_reads X l hfl  hw) qw_1999 qw_2001 qw_61 qw_86 qw_2002 (myX9_reads) ⟨Nat.le_of_ble_eq_true rfl, Nat.le_of_ble_eq_true rfl⟩ (rv_X9 hE hP rfl) hP hD hS rfl hl.1 rfl (Nat.le_of_ble_eq_true rfl) dX9_readsCommand_300 ⟨Nat.le_of_ble_eq_true rfl, Nat.le_of_ble_eq_true rfl⟩) hS (fun r41 G40 H locs hw hP hD hS => ?_)
                      refine lv_if_eq (tgt := 326) hx hb dX9_readsCommand_303 (by decide) (fun c42 => ?_) (fun c42 => ?_)
                      · replace hw := ite_t hw c42
                        refine lv_iconst (v := 0) hx hb dX9_readsCommand_326 (by decide) ?_
                        exact end_i hx hb hr hlk (by decide) hw hP hD hS dX9_readsCommand_327
                      · replace hw := ite_f hw c42
                        refine lv_aload_n hx hb dX9_readsCommand_306 rfl (lv_at hl 0 rfl) ?_
                        refine lv_iconst (v := 0) hx hb dX9_readsCommand_307 (by decide) ?_
                        refine call_i (run_V (cc := cX9_readsCommand) (As := [.int 0]) (rest := []) hx hb hml hown hE hz (okX9_readsKind X l hfl  hw) qw_2011 qw_2013 qw_64 qw_86 qw_2014 (myX9_readsKind) ⟨Nat.le_of_ble_eq_true rfl, Nat.le_of_ble_eq_true rfl⟩ (rv_X9 hE hP rfl) hP hD hS rfl hl.1 rfl (Nat.le_of_ble_eq_true rfl) dX9_readsCommand_308 ⟨Nat.le_of_ble_eq_true rfl, Nat.le_of_ble_eq_true rfl⟩) hS (fun r44 G43 H locs hw hP hD hS => ?_)
                        refine lv_if_eq (tgt := 326) hx hb dX9_readsCommand_311 (by decide) (fun c45 => ?_) (fun c45 => ?_)
                        · replace hw := ite_t hw c45
                          refine lv_iconst (v := 0) hx hb dX9_readsCommand_326 (by decide) ?_
                          exact end_i hx hb hr hlk (by decide) hw hP hD hS dX9_readsCommand_327
                        · replace hw := ite_f hw c45
                          refine lv_aload_n hx hb dX9_readsCommand_314 rfl (lv_at hl 0 rfl) ?_
                          refine lv_iconst (v := 1) hx hb dX9_readsCommand_315 (by decide) ?_
                          refine call_i (run_V (cc := cX9_readsCommand) (As := [.int 1]) (rest := []) hx hb hml hown hE hz (okX9_readsNumber X l hfl  hw) qw_2015 qw_2017 qw_65 qw_86 qw_2018 (myX9_readsNumber) ⟨Nat.le_of_ble_eq_true rfl, Nat.le_of_ble_eq_true rfl⟩ (rv_X9 hE hP rfl) hP hD hS rfl hl.1 rfl (Nat.le_of_ble_eq_true rfl) dX9_readsCommand_316 ⟨Nat.le_of_ble_eq_true rfl, Nat.le_of_ble_eq_true rfl⟩) hS (fun r47 G46 H locs hw hP hD hS => ?_)
                          refine lv_if_eq (tgt := 326) hx hb dX9_readsCommand_319 (by decide) (fun c48 => ?_) (fun c48 => ?_)
                          · replace hw := ite_t hw c48
                            refine lv_iconst (v := 0) hx hb dX9_readsCommand_326 (by decide) ?_
                            exact end_i hx hb hr hlk (by decide) hw hP hD hS dX9_readsCommand_327
                          · replace hw := ite_f hw c48
                            refine lv_iconst (v := 1) hx hb dX9_readsCommand_322 (by decide) ?_
                            refine lv_goto (tgt := 327) hx hb dX9_readsCommand_323 (by decide) ?_
                            exact end_i hx hb hr hlk (by decide) hw hP hD hS dX9_readsCommand_327
            · replace hw := ite_f hw c21
              refine lv_aload_n hx hb dX9_readsCommand_202 rfl (lv_at hl 0 rfl) ?_
              refine lv_bipush (v := 117) hx hb dX9_readsCommand_203 (by decide) ?_
              refine call_i (run_V (cc := cX9_readsCommand) (As := [.int 117]) (rest := []) hx hb hml hown hE hz (okX9_reads X l hfl  hw) qw_1999 qw_2001 qw_61 qw_86 qw_2002 (myX9_reads) ⟨Nat.le_of_ble_eq_true rfl, Nat.le_of_ble_eq_true rfl⟩ (rv_X9 hE hP rfl) hP hD hS rfl hl.1 rfl (Nat.le_of_ble_eq_true rfl) dX9_readsCommand_205 ⟨Nat.le_of_ble_eq_true rfl, Nat.le_of_ble_eq_true rfl⟩) hS (fun r50 G49 H locs hw hP hD hS => ?_)
              refine lv_if_eq (tgt := 259) hx hb dX9_readsCommand_208 (by decide) (fun c51 => ?_) (fun c51 => ?_)
              · replace hw := ite_t hw c51
                refine lv_iconst (v := 0) hx hb dX9_readsCommand_259 (by decide) ?_
                exact end_i hx hb hr hlk (by decide) hw hP hD hS dX9_readsCommand_260
              · replace hw := ite_f hw c51
                refine lv_aload_n hx hb dX9_readsCommand_211 rfl (lv_at hl 0 rfl) ?_
                refine lv_bipush (v := 100) hx hb dX9_readsCommand_212 (by decide) ?_
                refine call_i (run_V (cc := cX9_readsCommand) (As := [.int 100]) (rest := []) hx hb hml hown hE hz (okX9_reads X l hfl  hw) qw_1999 qw_2001 qw_61 qw_86 qw_2002 (myX9_reads) ⟨Nat.le_of_ble_eq_true rfl, Nat.le_of_ble_eq_true rfl⟩ (rv_X9 hE hP rfl) hP hD hS rfl hl.1 rfl (Nat.le_of_ble_eq_true rfl) dX9_readsCommand_214 ⟨Nat.le_of_ble_eq_true rfl, Nat.le_of_ble_eq_true rfl⟩) hS (fun r53 G52 H locs hw hP hD hS => ?_)
                refine lv_if_eq (tgt := 259) hx hb dX9_readsCommand_217 (by decide) (fun c54 => ?_) (fun c54 => ?_)
                · replace hw := ite_t hw c54
                  refine lv_iconst (v := 0) hx hb dX9_readsCommand_259 (by decide) ?_
                  exact end_i hx hb hr hlk (by decide) hw hP hD hS dX9_readsCommand_260
                · replace hw := ite_f hw c54
                  refine lv_aload_n hx hb dX9_readsCommand_220 rfl (lv_at hl 0 rfl) ?_
                  refine lv_bipush (v := 105) hx hb dX9_readsCommand_221 (by decide) ?_
                  refine call_i (run_V (cc := cX9_readsCommand) (As := [.int 105]) (rest := []) hx hb hml hown hE hz (okX9_reads X l hfl  hw) qw_1999 qw_2001 qw_61 qw_86 qw_2002 (myX9_reads) ⟨Nat.le_of_ble_eq_true rfl, Nat.le_of_ble_eq_true rfl⟩ (rv_X9 hE hP rfl) hP hD hS rfl hl.1 rfl (Nat.le_of_ble_eq_true rfl) dX9_readsCommand_223 ⟨Nat.le_of_ble_eq_true rfl, Nat.le_of_ble_eq_true rfl⟩) hS (fun r56 G55 H locs hw hP hD hS => ?_)
                  refine lv_if_eq (tgt := 259) hx hb dX9_readsCommand_226 (by decide) (fun c57 => ?_) (fun c57 => ?_)
                  · replace hw := ite_t hw c57
                    refine lv_iconst (v := 0) hx hb dX9_readsCommand_259 (by decide) ?_
                    exact end_i hx hb hr hlk (by decide) hw hP hD hS dX9_readsCommand_260
                  · replace hw := ite_f hw c57
                    refine lv_aload_n hx hb dX9_readsCommand_229 rfl (lv_at hl 0 rfl) ?_
                    refine lv_bipush (v := 116) hx hb dX9_readsCommand_230 (by decide) ?_
                    refine call_i (run_V (cc := cX9_readsCommand) (As := [.int 116]) (rest := []) hx hb hml hown hE hz (okX9_reads X l hfl  hw) qw_1999 qw_2001 qw_61 qw_86 qw_2002 (myX9_reads) ⟨Nat.le_of_ble_eq_true rfl, Nat.le_of_ble_eq_true rfl⟩ (rv_X9 hE hP rfl) hP hD hS rfl hl.1 rfl (Nat.le_of_ble_eq_true rfl) dX9_readsCommand_232 ⟨Nat.le_of_ble_eq_true rfl, Nat.le_of_ble_eq_true rfl⟩) hS (fun r59 G58 H locs hw hP hD hS => ?_)
                    refine lv_if_eq (tgt := 259) hx hb dX9_readsCommand_235 (by decide) (fun c60 => ?_) (fun c60 => ?_)
                    · replace hw := ite_t hw c60
                      refine lv_iconst (v := 0) hx hb dX9_readsCommand_259 (by decide) ?_
                      exact end_i hx hb hr hlk (by decide) hw hP hD hS dX9_readsCommand_260
                    · replace hw := ite_f hw c60
                      refine lv_aload_n hx hb dX9_readsCommand_238 rfl (lv_at hl 0 rfl) ?_
                      refine lv_bipush (v := 32) hx hb dX9_readsCommand_239 (by decide) ?_
                      refine call_i (run_V (cc := cX9_readsCommand) (As := [.int 32]) (rest := []) hx hb hml hown hE hz (okX9_reads X l hfl  hw) qw_1999 qw_2001 qw_61 qw_86 qw_2002 (myX9_reads) ⟨Nat.le_of_ble_eq_true rfl, Nat.le_of_ble_eq_true rfl⟩ (rv_X9 hE hP rfl) hP hD hS rfl hl.1 rfl (Nat.le_of_ble_eq_true rfl) dX9_readsCommand_241 ⟨Nat.le_of_ble_eq_true rfl, Nat.le_of_ble_eq_true rfl⟩) hS (fun r62 G61 H locs hw hP hD hS => ?_)
                      refine lv_if_eq (tgt := 259) hx hb dX9_readsCommand_244 (by decide) (fun c63 => ?_) (fun c63 => ?_)
                      · replace hw := ite_t hw c63
                        refine lv_iconst (v := 0) hx hb dX9_readsCommand_259 (by decide) ?_
                        exact end_i hx hb hr hlk (by decide) hw hP hD hS dX9_readsCommand_260
                      · replace hw := ite_f hw c63
                        refine lv_aload_n hx hb dX9_readsCommand_247 rfl (lv_at hl 0 rfl) ?_
                        refine lv_iconst (v := 0) hx hb dX9_readsCommand_248 (by decide) ?_
                        refine call_i (run_V (cc := cX9_readsCommand) (As := [.int 0]) (rest := []) hx hb hml hown hE hz (okX9_readsDigit X l hfl  hw) qw_2003 qw_2005 qw_62 qw_86 qw_2006 (myX9_readsDigit) ⟨Nat.le_of_ble_eq_true rfl, Nat.le_of_ble_eq_true rfl⟩ (rv_X9 hE hP rfl) hP hD hS rfl hl.1 rfl (Nat.le_of_ble_eq_true rfl) dX9_readsCommand_249 ⟨Nat.le_of_ble_eq_true rfl, Nat.le_of_ble_eq_true rfl⟩) hS (fun r65 G64 H locs hw hP hD hS => ?_)
                        refine lv_if_eq (tgt := 259) hx hb dX9_readsCommand_252 (by decide) (fun c66 => ?_) (fun c66 => ?_)
                        · replace hw := ite_t hw c66
                          refine lv_iconst (v := 0) hx hb dX9_readsCommand_259 (by decide) ?_
                          exact end_i hx hb hr hlk (by decide) hw hP hD hS dX9_readsCommand_260
                        · replace hw := ite_f hw c66
                          refine lv_iconst (v := 1) hx hb dX9_readsCommand_255 (by decide) ?_
                          refine lv_goto (tgt := 260) hx hb dX9_readsCommand_256 (by decide) ?_
                          exact end_i hx hb hr hlk (by decide) hw hP hD hS dX9_readsCommand_260
          · replace hw := ite_f hw c18
            refine lv_aload_n hx hb dX9_readsCommand_188 rfl (lv_at hl 0 rfl) ?_
            refine call_i (run_V (cc := cX9_readsCommand) (As := []) (rest := []) hx hb hml hown hE hz (okX9_readsM X l hfl  hw) qw_2023 qw_2025 qw_67 qw_86 qw_2026 (myX9_readsM) ⟨Nat.le_of_ble_eq_true rfl, Nat.le_of_ble_eq_true rfl⟩ (rv_X9 hE hP rfl) hP hD hS rfl hl.1 rfl (Nat.le_of_ble_eq_true rfl) dX9_readsCommand_189 ⟨Nat.le_of_ble_eq_true rfl, Nat.le_of_ble_eq_true rfl⟩) hS (fun r68 G67 H locs hw hP hD hS => ?_)
            obtain ⟨y69, hw⟩ := hw
            exact end_i hx hb hr hlk y69 hw hP hD hS dX9_readsCommand_192
        · replace hw := ite_f hw c15
          refine lv_aload_n hx hb dX9_readsCommand_174 rfl (lv_at hl 0 rfl) ?_
          refine call_i (run_V (cc := cX9_readsCommand) (As := []) (rest := []) hx hb hml hown hE hz (okX9_readsS X l hfl  hw) qw_2019 qw_2021 qw_66 qw_86 qw_2022 (myX9_readsS) ⟨Nat.le_of_ble_eq_true rfl, Nat.le_of_ble_eq_true rfl⟩ (rv_X9 hE hP rfl) hP hD hS rfl hl.1 rfl (Nat.le_of_ble_eq_true rfl) dX9_readsCommand_175 ⟨Nat.le_of_ble_eq_true rfl, Nat.le_of_ble_eq_true rfl⟩) hS (fun r71 G70 H locs hw hP hD hS => ?_)
          obtain ⟨y72, hw⟩ := hw
          exact end_i hx hb hr hlk y72 hw hP hD hS dX9_readsCommand_178
      · replace hw := ite_f hw c12
        refine lv_aload_n hx hb dX9_readsCommand_125 rfl (lv_at hl 0 rfl) ?_
        refine lv_bipush (v := 97) hx hb dX9_readsCommand_126 (by decide) ?_
        refine call_i (run_V (cc := cX9_readsCommand) (As := [.int 97]) (rest := []) hx hb hml hown hE hz (okX9_reads X l hfl  hw) qw_1999 qw_2001 qw_61 qw_86 qw_2002 (myX9_reads) ⟨Nat.le_of_ble_eq_true rfl, Nat.le_of_ble_eq_true rfl⟩ (rv_X9 hE hP rfl) hP hD hS rfl hl.1 rfl (Nat.le_of_ble_eq_true rfl) dX9_readsCommand_128 ⟨Nat.le_of_ble_eq_true rfl, Nat.le_of_ble_eq_true rfl⟩) hS (fun r74 G73 H locs hw hP hD hS => ?_)
        refine lv_if_eq (tgt := 163) hx hb dX9_readsCommand_131 (by decide) (fun c75 => ?_) (fun c75 => ?_)
        · replace hw := ite_t hw c75
          refine lv_iconst (v := 0) hx hb dX9_readsCommand_163 (by decide) ?_
          exact end_i hx hb hr hlk (by decide) hw hP hD hS dX9_readsCommand_164
        · replace hw := ite_f hw c75
          refine lv_aload_n hx hb dX9_readsCommand_134 rfl (lv_at hl 0 rfl) ?_
          refine lv_bipush (v := 107) hx hb dX9_readsCommand_135 (by decide) ?_
          refine call_i (run_V (cc := cX9_readsCommand) (As := [.int 107]) (rest := []) hx hb hml hown hE hz (okX9_reads X l hfl  hw) qw_1999 qw_2001 qw_61 qw_86 qw_2002 (myX9_reads) ⟨Nat.le_of_ble_eq_true rfl, Nat.le_of_ble_eq_true rfl⟩ (rv_X9 hE hP rfl) hP hD hS rfl hl.1 rfl (Nat.le_of_ble_eq_true rfl) dX9_readsCommand_137 ⟨Nat.le_of_ble_eq_true rfl, Nat.le_of_ble_eq_true rfl⟩) hS (fun r77 G76 H locs hw hP hD hS => ?_)
          refine lv_if_eq (tgt := 163) hx hb dX9_readsCommand_140 (by decide) (fun c78 => ?_) (fun c78 => ?_)
          · replace hw := ite_t hw c78
            refine lv_iconst (v := 0) hx hb dX9_readsCommand_163 (by decide) ?_
            exact end_i hx hb hr hlk (by decide) hw hP hD hS dX9_readsCommand_164
          · replace hw := ite_f hw c78
            refine lv_aload_n hx hb dX9_readsCommand_143 rfl (lv_at hl 0 rfl) ?_
            refine lv_bipush (v := 101) hx hb dX9_readsCommand_144 (by decide) ?_
            refine call_i (run_V (cc := cX9_readsCommand) (As := [.int 101]) (rest := []) hx hb hml hown hE hz (okX9_reads X l hfl  hw) qw_1999 qw_2001 qw_61 qw_86 qw_2002 (myX9_reads) ⟨Nat.le_of_ble_eq_true rfl, Nat.le_of_ble_eq_true rfl⟩ (rv_X9 hE hP rfl) hP hD hS rfl hl.1 rfl (Nat.le_of_ble_eq_true rfl) dX9_readsCommand_146 ⟨Nat.le_of_ble_eq_true rfl, Nat.le_of_ble_eq_true rfl⟩) hS (fun r80 G79 H locs hw hP hD hS => ?_)
            refine lv_if_eq (tgt := 163) hx hb dX9_readsCommand_149 (by decide) (fun c81 => ?_) (fun c81 => ?_)
            · replace hw := ite_t hw c81
              refine lv_iconst (v := 0) hx hb dX9_readsCommand_163 (by decide) ?_
              exact end_i hx hb hr hlk (by decide) hw hP hD hS dX9_readsCommand_164
            · replace hw := ite_f hw c81
              refine lv_aload_n hx hb dX9_readsCommand_152 rfl (lv_at hl 0 rfl) ?_
              refine call_i (run_V (cc := cX9_readsCommand) (As := []) (rest := []) hx hb hml hown hE hz (okX9_readsFlies X l hfl  hw) qw_2007 qw_2009 qw_63 qw_86 qw_2010 (myX9_readsFlies) ⟨Nat.le_of_ble_eq_true rfl, Nat.le_of_ble_eq_true rfl⟩ (rv_X9 hE hP rfl) hP hD hS rfl hl.1 rfl (Nat.le_of_ble_eq_true rfl) dX9_readsCommand_153 ⟨Nat.le_of_ble_eq_true rfl, Nat.le_of_ble_eq_true rfl⟩) hS (fun r83 G82 H locs hw hP hD hS => ?_)
              refine lv_if_eq (tgt := 163) hx hb dX9_readsCommand_156 (by decide) (fun c84 => ?_) (fun c84 => ?_)
              · replace hw := ite_t hw c84
                refine lv_iconst (v := 0) hx hb dX9_readsCommand_163 (by decide) ?_
                exact end_i hx hb hr hlk (by decide) hw hP hD hS dX9_readsCommand_164
              · replace hw := ite_f hw c84
                refine lv_iconst (v := 1) hx hb dX9_readsCommand_159 (by decide) ?_
                refine lv_goto (tgt := 164) hx hb dX9_readsCommand_160 (by decide) ?_
                exact end_i hx hb hr hlk (by decide) hw hP hD hS dX9_readsCommand_164
    · replace hw := ite_f hw c9
      refine lv_aload_n hx hb dX9_readsCommand_85 rfl (lv_at hl 0 rfl) ?_
      refine lv_bipush (v := 117) hx hb dX9_readsCommand_86 (by decide) ?_
      refine call_i (run_V (cc := cX9_readsCommand) (As := [.int 117]) (rest := []) hx hb hml hown hE hz (okX9_reads X l hfl  hw) qw_1999 qw_2001 qw_61 qw_86 qw_2002 (myX9_reads) ⟨Nat.le_of_ble_eq_true rfl, Nat.le_of_ble_eq_true rfl⟩ (rv_X9 hE hP rfl) hP hD hS rfl hl.1 rfl (Nat.le_of_ble_eq_true rfl) dX9_readsCommand_88 ⟨Nat.le_of_ble_eq_true rfl, Nat.le_of_ble_eq_true rfl⟩) hS (fun r86 G85 H locs hw hP hD hS => ?_)
      refine lv_if_eq (tgt := 114) hx hb dX9_readsCommand_91 (by decide) (fun c87 => ?_) (fun c87 => ?_)
      · replace hw := ite_t hw c87
        refine lv_iconst (v := 0) hx hb dX9_readsCommand_114 (by decide) ?_
        exact end_i hx hb hr hlk (by decide) hw hP hD hS dX9_readsCommand_115
      · replace hw := ite_f hw c87
        refine lv_aload_n hx hb dX9_readsCommand_94 rfl (lv_at hl 0 rfl) ?_
        refine lv_bipush (v := 116) hx hb dX9_readsCommand_95 (by decide) ?_
        refine call_i (run_V (cc := cX9_readsCommand) (As := [.int 116]) (rest := []) hx hb hml hown hE hz (okX9_reads X l hfl  hw) qw_1999 qw_2001 qw_61 qw_86 qw_2002 (myX9_reads) ⟨Nat.le_of_ble_eq_true rfl, Nat.le_of_ble_eq_true rfl⟩ (rv_X9 hE hP rfl) hP hD hS rfl hl.1 rfl (Nat.le_of_ble_eq_true rfl) dX9_readsCommand_97 ⟨Nat.le_of_ble_eq_true rfl, Nat.le_of_ble_eq_true rfl⟩) hS (fun r89 G88 H locs hw hP hD hS => ?_)
        refine lv_if_eq (tgt := 114) hx hb dX9_readsCommand_100 (by decide) (fun c90 => ?_) (fun c90 => ?_)
        · replace hw := ite_t hw c90
          refine lv_iconst (v := 0) hx hb dX9_readsCommand_114 (by decide) ?_
          exact end_i hx hb hr hlk (by decide) hw hP hD hS dX9_readsCommand_115
        · replace hw := ite_f hw c90
          refine lv_aload_n hx hb dX9_readsCommand_103 rfl (lv_at hl 0 rfl) ?_
          refine call_i (run_V (cc := cX9_readsCommand) (As := []) (rest := []) hx hb hml hown hE hz (okX9_readsFlies X l hfl  hw) qw_2007 qw_2009 qw_63 qw_86 qw_2010 (myX9_readsFlies) ⟨Nat.le_of_ble_eq_true rfl, Nat.le_of_ble_eq_true rfl⟩ (rv_X9 hE hP rfl) hP hD hS rfl hl.1 rfl (Nat.le_of_ble_eq_true rfl) dX9_readsCommand_104 ⟨Nat.le_of_ble_eq_true rfl, Nat.le_of_ble_eq_true rfl⟩) hS (fun r92 G91 H locs hw hP hD hS => ?_)
          refine lv_if_eq (tgt := 114) hx hb dX9_readsCommand_107 (by decide) (fun c93 => ?_) (fun c93 => ?_)
          · replace hw := ite_t hw c93
            refine lv_iconst (v := 0) hx hb dX9_readsCommand_114 (by decide) ?_
            exact end_i hx hb hr hlk (by decide) hw hP hD hS dX9_readsCommand_115
          · replace hw := ite_f hw c93
            refine lv_iconst (v := 1) hx hb dX9_readsCommand_110 (by decide) ?_
            refine lv_goto (tgt := 115) hx hb dX9_readsCommand_111 (by decide) ?_
            exact end_i hx hb hr hlk (by decide) hw hP hD hS dX9_readsCommand_115
  · replace hw := ite_f hw c6
    refine lv_aload_n hx hb dX9_readsCommand_17 rfl (lv_at hl 0 rfl) ?_
    refine lv_bipush (v := 97) hx hb dX9_readsCommand_18 (by decide) ?_
    refine call_i (run_V (cc := cX9_readsCommand) (As := [.int 97]) (rest := []) hx hb hml hown hE hz (okX9_reads X l hfl  hw) qw_1999 qw_2001 qw_61 qw_86 qw_2002 (myX9_reads) ⟨Nat.le_of_ble_eq_true rfl, Nat.le_of_ble_eq_true rfl⟩ (rv_X9 hE hP rfl) hP hD hS rfl hl.1 rfl (Nat.le_of_ble_eq_true rfl) dX9_readsCommand_20 ⟨Nat.le_of_ble_eq_true rfl, Nat.le_of_ble_eq_true rfl⟩) hS (fun r95 G94 H locs hw hP hD hS => ?_)
    refine lv_if_eq (tgt := 74) hx hb dX9_readsCommand_23 (by decide) (fun c96 => ?_) (fun c96 => ?_)
    · replace hw := ite_t hw c96
      refine lv_iconst (v := 0) hx hb dX9_readsCommand_74 (by decide) ?_
      exact end_i hx hb hr hlk (by decide) hw hP hD hS dX9_readsCommand_75
    · replace hw := ite_f hw c96
      refine lv_aload_n hx hb dX9_readsCommand_26 rfl (lv_at hl 0 rfl) ?_
      refine lv_bipush (v := 117) hx hb dX9_readsCommand_27 (by decide) ?_
      refine call_i (run_V (cc := cX9_readsCommand) (As := [.int 117]) (rest := []) hx hb hml hown hE hz (okX9_reads X l hfl  hw) qw_1999 qw_2001 qw_61 qw_86 qw_2002 (myX9_reads) ⟨Nat.le_of_ble_eq_true rfl, Nat.le_of_ble_eq_true rfl⟩ (rv_X9 hE hP rfl) hP hD hS rfl hl.1 rfl (Nat.le_of_ble_eq_true rfl) dX9_readsCommand_29 ⟨Nat.le_of_ble_eq_true rfl, Nat.le_of_ble_eq_true rfl⟩) hS (fun r98 G97 H locs hw hP hD hS => ?_)
      refine lv_if_eq (tgt := 74) hx hb dX9_readsCommand_32 (by decide) (fun c99 => ?_) (fun c99 => ?_)
      · replace hw := ite_t hw c99
        refine lv_iconst (v := 0) hx hb dX9_readsCommand_74 (by decide) ?_
        exact end_i hx hb hr hlk (by decide) hw hP hD hS dX9_readsCommand_75
      · replace hw := ite_f hw c99
        refine lv_aload_n hx hb dX9_readsCommand_35 rfl (lv_at hl 0 rfl) ?_
        refine lv_bipush (v := 108) hx hb dX9_readsCommand_36 (by decide) ?_
        refine call_i (run_V (cc := cX9_readsCommand) (As := [.int 108]) (rest := []) hx hb hml hown hE hz (okX9_reads X l hfl  hw) qw_1999 qw_2001 qw_61 qw_86 qw_2002 (myX9_reads) ⟨Nat.le_of_ble_eq_true rfl, Nat.le_of_ble_eq_true rfl⟩ (rv_X9 hE hP rfl) hP hD hS rfl hl.1 rfl (Nat.le_of_ble_eq_true rfl) dX9_readsCommand_38 ⟨Nat.le_of_ble_eq_true rfl, Nat.le_of_ble_eq_true rfl⟩) hS (fun r101 G100 H locs hw hP hD hS => ?_)
        refine lv_if_eq (tgt := 74) hx hb dX9_readsCommand_41 (by decide) (fun c102 => ?_) (fun c102 => ?_)
        · replace hw := ite_t hw c102
          refine lv_iconst (v := 0) hx hb dX9_readsCommand_74 (by decide) ?_
          exact end_i hx hb hr hlk (by decide) hw hP hD hS dX9_readsCommand_75
        · replace hw := ite_f hw c102
          refine lv_aload_n hx hb dX9_readsCommand_44 rfl (lv_at hl 0 rfl) ?_
          refine lv_bipush (v := 116) hx hb dX9_readsCommand_45 (by decide) ?_
          refine call_i (run_V (cc := cX9_readsCommand) (As := [.int 116]) (rest := []) hx hb hml hown hE hz (okX9_reads X l hfl  hw) qw_1999 qw_2001 qw_61 qw_86 qw_2002 (myX9_reads) ⟨Nat.le_of_ble_eq_true rfl, Nat.le_of_ble_eq_true rfl⟩ (rv_X9 hE hP rfl) hP hD hS rfl hl.1 rfl (Nat.le_of_ble_eq_true rfl) dX9_readsCommand_47 ⟨Nat.le_of_ble_eq_true rfl, Nat.le_of_ble_eq_true rfl⟩) hS (fun r104 G103 H locs hw hP hD hS => ?_)
          refine lv_if_eq (tgt := 74) hx hb dX9_readsCommand_50 (by decide) (fun c105 => ?_) (fun c105 => ?_)
          · replace hw := ite_t hw c105
            refine lv_iconst (v := 0) hx hb dX9_readsCommand_74 (by decide) ?_
            exact end_i hx hb hr hlk (by decide) hw hP hD hS dX9_readsCommand_75
          · replace hw := ite_f hw c105
            refine lv_aload_n hx hb dX9_readsCommand_53 rfl (lv_at hl 0 rfl) ?_
            refine lv_bipush (v := 32) hx hb dX9_readsCommand_54 (by decide) ?_
            refine call_i (run_V (cc := cX9_readsCommand) (As := [.int 32]) (rest := []) hx hb hml hown hE hz (okX9_reads X l hfl  hw) qw_1999 qw_2001 qw_61 qw_86 qw_2002 (myX9_reads) ⟨Nat.le_of_ble_eq_true rfl, Nat.le_of_ble_eq_true rfl⟩ (rv_X9 hE hP rfl) hP hD hS rfl hl.1 rfl (Nat.le_of_ble_eq_true rfl) dX9_readsCommand_56 ⟨Nat.le_of_ble_eq_true rfl, Nat.le_of_ble_eq_true rfl⟩) hS (fun r107 G106 H locs hw hP hD hS => ?_)
            refine lv_if_eq (tgt := 74) hx hb dX9_readsCommand_59 (by decide) (fun c108 => ?_) (fun c108 => ?_)
            · replace hw := ite_t hw c108
              refine lv_iconst (v := 0) hx hb dX9_readsCommand_74 (by decide) ?_
              exact end_i hx hb hr hlk (by decide) hw hP hD hS dX9_readsCommand_75
            · replace hw := ite_f hw c108
              refine lv_aload_n hx hb dX9_readsCommand_62 rfl (lv_at hl 0 rfl) ?_
              refine lv_iconst (v := 0) hx hb dX9_readsCommand_63 (by decide) ?_
              refine call_i (run_V (cc := cX9_readsCommand) (As := [.int 0]) (rest := []) hx hb hml hown hE hz (okX9_readsDigit X l hfl  hw) qw_2003 qw_2005 qw_62 qw_86 qw_2006 (myX9_readsDigit) ⟨Nat.le_of_ble_eq_true rfl, Nat.le_of_ble_eq_true rfl⟩ (rv_X9 hE hP rfl) hP hD hS rfl hl.1 rfl (Nat.le_of_ble_eq_true rfl) dX9_readsCommand_64 ⟨Nat.le_of_ble_eq_true rfl, Nat.le_of_ble_eq_true rfl⟩) hS (fun r110 G109 H locs hw hP hD hS => ?_)
              refine lv_if_eq (tgt := 74) hx hb dX9_readsCommand_67 (by decide) (fun c111 => ?_) (fun c111 => ?_)
              · replace hw := ite_t hw c111
                refine lv_iconst (v := 0) hx hb dX9_readsCommand_74 (by decide) ?_
                exact end_i hx hb hr hlk (by decide) hw hP hD hS dX9_readsCommand_75
              · replace hw := ite_f hw c111
                refine lv_iconst (v := 1) hx hb dX9_readsCommand_70 (by decide) ?_
                refine lv_goto (tgt := 75) hx hb dX9_readsCommand_71 (by decide) ?_
                exact end_i hx hb hr hlk (by decide) hw hP hD hS dX9_readsCommand_75
def wlX9_readsAll_7 (post : Int32 → GS → Prop) : Nat → GS → Int32 → Prop
  | 0, _, _ => False
  | n + 1, G, v1 =>
    if v1 = 0 then
  if (G.1 189 12) = (G.1 189 11) then
    post 1 G
  else
    post 0 G
else
  wpX9_readsCommand (fun (r5 : Int32) (G4 : GS) =>
    if r5 = 0 then
      post 0 G4
    else
      wpX9_reads (fun (r8 : Int32) (G7 : GS) =>
        wlX9_readsAll_7 post n G7 r8) 59 G4)  G
def wpX9_readsAll (post : Int32 → GS → Prop) (G : GS) : Prop :=
  ∀ G1 : GS, G1 = gI G 189 12 0 →
  ∃ nn, wlX9_readsAll_7 post nn G1 1
set_option maxHeartbeats 4000000 in
set_option maxRecDepth 100000 in
theorem okX9_readsAll (X : Cx) (l : Launch) (hfl : l.stackTraces = false) {post : Int32 → GS → Prop}  {G : GS}  (hw : wpX9_readsAll post G) : CT X l yX9_readsAll cX9_readsAll 2 (some FieldType.boolean) 6 0 0 [.ref (xa X 189)] G (Qi X post) := by
  refine mbegin (by decide) (Nat.le_of_ble_eq_true rfl) (fun p e s m below meth c hx hb hr hml hlk hown hE hz ls hl hP hD hS => ?_)
  have hl : lv_has ls 2 [(0, .ref (xa X 189))] := hl
  have hown : s.vm.findClass "FlyTreasuryModel" = some m.cls := hown
  have L7 : ∀ (n7 : Nat) (G : GS) (v1 : Int32) (H : Heap) (locs : List Loc) (ls : Array Slot), wlX9_readsAll_7 post n7 G v1 → va_P (xD X) vwCl (pool X G) H → va_D (xA X) (pool X G) → va_S (xA X) s.heap H locs → lv_has ls 2 [(0, .ref (xa X 189)), (1, .int v1)] → W p l e (rmL 6 0 0) s m [.ref (xa X 189)].toArray below meth c H locs 0 0 (MQ below (Qi X post) [.ref (xa X 189)].toArray s 0 0 (xA X)) (F0 m 7 ls []) := by
    intro n7
    induction n7 with
    | zero => intro G v1  H locs ls hw; exact hw.elim
    | succ n7 ih7 =>
      intro G v1  H locs ls hw hP hD hS hl
      rw [wlX9_readsAll_7] at hw
      refine lv_iload_n hx hb dX9_readsAll_7 rfl (lv_at hl 1 rfl) ?_
      refine lv_if_eq (tgt := 30) hx hb dX9_readsAll_8 (by decide) (fun c9 => ?_) (fun c9 => ?_)
      · replace hw := ite_t hw c9
        refine lv_aload_n hx hb dX9_readsAll_30 rfl (lv_at hl 0 rfl) ?_
        refine gf_X9_12 hx hb hE hP hown rfl (hE.w qw_1582 rfl _) dX9_readsAll_31 ?_
        refine lv_aload_n hx hb dX9_readsAll_34 rfl (lv_at hl 0 rfl) ?_
        refine gf_X9_11 hx hb hE hP hown rfl (hE.w qw_1581 rfl _) dX9_readsAll_35 ?_
        refine lv_icmp_ne (tgt := 45) hx hb dX9_readsAll_38 (by decide) (fun c10 => ?_) (fun c10 => ?_)
        · replace hw := ite_f hw c10
          refine lv_iconst (v := 0) hx hb dX9_readsAll_45 (by decide) ?_
          exact end_i hx hb hr hlk (by decide) hw hP hD hS dX9_readsAll_46
        · replace hw := ite_t hw c10
          refine lv_iconst (v := 1) hx hb dX9_readsAll_41 (by decide) ?_
          refine lv_goto (tgt := 46) hx hb dX9_readsAll_42 (by decide) ?_
          exact end_i hx hb hr hlk (by decide) hw hP hD hS dX9_readsAll_46
      · replace hw := ite_f hw c9
        refine lv_aload_n hx hb dX9_readsAll_11 rfl (lv_at hl 0 rfl) ?_
        refine call_i (run_V (cc := cX9_readsAll) (As := []) (rest := []) hx hb hml hown hE hz (okX9_readsCommand X l hfl  hw) qw_1991 qw_1993 qw_59 qw_86 qw_1994 (myX9_readsCommand) ⟨Nat.le_of_ble_eq_true rfl, Nat.le_of_ble_eq_true rfl⟩ (rv_X9 hE hP rfl) hP hD hS rfl hl.1 rfl (Nat.le_of_ble_eq_true rfl) dX9_readsAll_12 ⟨Nat.le_of_ble_eq_true rfl, Nat.le_of_ble_eq_true rfl⟩) hS (fun r12 G11 H locs hw hP hD hS => ?_)
        refine lv_if_ne (tgt := 20) hx hb dX9_readsAll_15 (by decide) (fun c13 => ?_) (fun c13 => ?_)
        · replace hw := ite_f hw c13
          refine lv_aload_n hx hb dX9_readsAll_20 rfl (lv_at hl 0 rfl) ?_
          refine lv_bipush (v := 59) hx hb dX9_readsAll_21 (by decide) ?_
          refine call_i (run_V (cc := cX9_readsAll) (As := [.int 59]) (rest := []) hx hb hml hown hE hz (okX9_reads X l hfl  hw) qw_1999 qw_2001 qw_61 qw_86 qw_2002 (myX9_reads) ⟨Nat.le_of_ble_eq_true rfl, Nat.le_of_ble_eq_true rfl⟩ (rv_X9 hE hP rfl) hP hD hS rfl hl.1 rfl (Nat.le_of_ble_eq_true rfl) dX9_readsAll_23 ⟨Nat.le_of_ble_eq_true rfl, Nat.le_of_ble_eq_true rfl⟩) hS (fun r15 G14 H locs hw hP hD hS => ?_)
          refine lv_istore_n (lv' := [(1, .int r15), (0, .ref (xa X 189))]) hx hb dX9_readsAll_26 rfl hl (by decide) rfl (fun ls hl => ?_)
          refine lv_goto (tgt := 7) hx hb dX9_readsAll_27 (by decide) ?_
          exact ih7 G14 r15  _ _ _ hw hP hD hS (lv_sub hl [1, 0] rfl)
        · replace hw := ite_t hw c13
          refine lv_iconst (v := 0) hx hb dX9_readsAll_18 (by decide) ?_
          exact end_i hx hb hr hlk (by decide) hw hP hD hS dX9_readsAll_19
  unfold wpX9_readsAll at hw
  refine lv_aload_n hx hb dX9_readsAll_0 rfl (lv_at hl 0 rfl) ?_
  refine lv_iconst (v := 0) hx hb dX9_readsAll_1 (by decide) ?_
  refine pf_X9_12 hx hb hE hP hD hS hown rfl (hE.w qw_1582 rfl _) dX9_readsAll_2 (fun G1 H locs eG1 hP hD hS => ?_)
  replace hw := hw G1 eG1
  refine lv_iconst (v := 1) hx hb dX9_readsAll_5 (by decide) ?_
  refine lv_istore_n (lv' := [(1, .int 1), (0, .ref (xa X 189))]) hx hb dX9_readsAll_6 rfl hl (by decide) rfl (fun ls hl => ?_)
  obtain ⟨nn, hw⟩ := hw
  exact L7 nn G1 1  _ _ _ hw hP hD hS (lv_sub hl [1, 0] rfl)
