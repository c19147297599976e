def wpX9_readsS (post : Int32 → GS → Prop) (G : GS) : Prop :=
  wpX9_reads (fun (r2 : Int32) (G1 : GS) =>
  if r2 = 0 then
    ∀ G4 : GS, G4 = gI G1 189 16 107 →
      wpX9_reads (fun (r6 : Int32) (G5 : GS) =>
      if r6 = 0 then
        post 0 G5
      else
        wpX9_reads (fun (r9 : Int32) (G8 : GS) =>
          if r9 = 0 then
            post 0 G8
          else
            wpX9_reads (fun (r12 : Int32) (G11 : GS) =>
              if r12 = 0 then
                post 0 G11
              else
                wpX9_reads (fun (r15 : Int32) (G14 : GS) =>
                  if r15 = 0 then
                    post 0 G14
                  else
                    wpX9_reads (fun (r18 : Int32) (G17 : GS) =>
                      if r18 = 0 then
                        post 0 G17
                      else
                        wpX9_readsDigit (fun (r21 : Int32) (G20 : GS) =>
                          if r21 = 0 then
                            post 0 G20
                          else
                            wpX9_reads (fun (r24 : Int32) (G23 : GS) =>
                              if r24 = 0 then
                                post 0 G23
                              else
                                wpX9_readsDigit (fun (r27 : Int32) (G26 : GS) =>
                                  if r27 = 0 then
                                    post 0 G26
                                  else
                                    post 1 G26) 1 G23) 32 G20) 0 G17) 32 G14) 107 G11) 99 G8) 105 G5) 116 G4
  else
    wpX9_reads (fun (r30 : Int32) (G29 : GS) =>
      if r30 = 0 then
        post 0 G29
      else
        wpX9_reads (fun (r33 : Int32) (G32 : GS) =>
          if r33 = 0 then
            post 0 G32
          else
            wpX9_reads (fun (r36 : Int32) (G35 : GS) =>
              if r36 = 0 then
                post 0 G35
              else
                wpX9_readsDigit (fun (r39 : Int32) (G38 : GS) =>
                  if r39 = 0 then
                    post 0 G38
                  else
                    wpX9_reads (fun (r42 : Int32) (G41 : GS) =>
                      if r42 = 0 then
                        post 0 G41
                      else
                        wpX9_readsKind (fun (r45 : Int32) (G44 : GS) =>
                          if r45 = 0 then
                            post 0 G44
                          else
                            wpX9_readsKind (fun (r48 : Int32) (G47 : GS) =>
                              if r48 = 0 then
                                post 0 G47
                              else
                                wpX9_readsNumber (fun (r51 : Int32) (G50 : GS) =>
                                  if r51 = 0 then
                                    post 0 G50
                                  else
                                    post 1 G50) 3 G47) 2 G44) 1 G41) 32 G38) 0 G35) 32 G32) 112 G29) 97 G1) 119 G
set_option maxHeartbeats 4000000 in
set_option maxRecDepth 100000 in
theorem okX9_readsS (X : Cx) (l : Launch) (hfl : l.stackTraces = false) {post : Int32 → GS → Prop}  {G : GS}  (hw : wpX9_readsS post G) : CT X l yX9_readsS cX9_readsS 1 (some FieldType.boolean) 4 0 0 [.ref (xa X 189)] G (Qi X post) := by
  refine mbegin (by decide) (Nat.le_of_ble_eq_true rfl) (fun p e s m below meth c hx hb hr hml hlk hown hE hz ls hl hP hD hS => ?_)
  have hl : lv_has ls 1 [(0, .ref (xa X 189))] := hl
  have hown : s.vm.findClass "FlyTreasuryModel" = some m.cls := hown
  unfold wpX9_readsS at hw
  refine lv_aload_n hx hb dX9_readsS_0 rfl (lv_at hl 0 rfl) ?_
  refine lv_bipush (v := 119) hx hb dX9_readsS_1 (by decide) ?_
  refine call_i (run_V (cc := cX9_readsS) (As := [.int 119]) (rest := []) hx hb hml hown hE hz (okX9_reads X l hfl  hw) qw_1999 qw_2001 qw_61 qw_86 qw_2002 (myX9_reads) ⟨Nat.le_of_ble_eq_true rfl, Nat.le_of_ble_eq_true rfl⟩ (rv_X9 hE hP rfl) hP hD hS rfl hl.1 rfl (Nat.le_of_ble_eq_true rfl) dX9_readsS_3 ⟨Nat.le_of_ble_eq_true rfl, Nat.le_of_ble_eq_true rfl⟩) hS (fun r2 G1 H locs hw hP hD hS => ?_)
  refine lv_if_eq (tgt := 83) hx hb dX9_readsS_6 (by decide) (fun c3 => ?_) (fun c3 => ?_)
  · replace hw := ite_t hw c3
    refine lv_aload_n hx hb dX9_readsS_83 rfl (lv_at hl 0 rfl) ?_
    refine lv_bipush (v := 107) hx hb dX9_readsS_84 (by decide) ?_
    refine pf_X9_16 hx hb hE hP hD hS hown rfl (hE.w qw_1586 rfl _) dX9_readsS_86 (fun G4 H locs eG4 hP hD hS => ?_)
    replace hw := hw G4 eG4
    refine lv_aload_n hx hb dX9_readsS_89 rfl (lv_at hl 0 rfl) ?_
    refine lv_bipush (v := 116) hx hb dX9_readsS_90 (by decide) ?_
    refine call_i (run_V (cc := cX9_readsS) (As := [.int 116]) (rest := []) hx hb hml hown hE hz (okX9_reads X l hfl  hw) qw_1999 qw_2001 qw_61 qw_86 qw_2002 (myX9_reads) ⟨Nat.le_of_ble_eq_true rfl, Nat.le_of_ble_eq_true rfl⟩ (rv_X9 hE hP rfl) hP hD hS rfl hl.1 rfl (Nat.le_of_ble_eq_true rfl) dX9_readsS_92 ⟨Nat.le_of_ble_eq_true rfl, Nat.le_of_ble_eq_true rfl⟩) hS (fun r6 G5 H locs hw hP hD hS => ?_)
    refine lv_if_eq (tgt := 163) hx hb dX9_readsS_95 (by decide) (fun c7 => ?_) (fun c7 => ?_)
    · replace hw := ite_t hw c7
      refine lv_iconst (v := 0) hx hb dX9_readsS_163 (by decide) ?_
      exact end_i hx hb hr hlk (by decide) hw hP hD hS dX9_readsS_164
    · replace hw := ite_f hw c7
      refine lv_aload_n hx hb dX9_readsS_98 rfl (lv_at hl 0 rfl) ?_
      refine lv_bipush (v := 105) hx hb dX9_readsS_99 (by decide) ?_
      refine call_i (run_V (cc := cX9_readsS) (As := [.int 105]) (rest := []) hx hb hml hown hE hz (okX9_reads X l hfl  hw) qw_1999 qw_2001 qw_61 qw_86 qw_2002 (myX9_reads) ⟨Nat.le_of_ble_eq_true rfl, Nat.le_of_ble_eq_true rfl⟩ (rv_X9 hE hP rfl) hP hD hS rfl hl.1 rfl (Nat.le_of_ble_eq_true rfl) dX9_readsS_101 ⟨Nat.le_of_ble_eq_true rfl, Nat.le_of_ble_eq_true rfl⟩) hS (fun r9 G8 H locs hw hP hD hS => ?_)
      refine lv_if_eq (tgt := 163) hx hb dX9_readsS_104 (by decide) (fun c10 => ?_) (fun c10 => ?_)
      · replace hw := ite_t hw c10
        refine lv_iconst (v := 0) hx hb dX9_readsS_163 (by decide) ?_
        exact end_i hx hb hr hlk (by decide) hw hP hD hS dX9_readsS_164
      · replace hw := ite_f hw c10
        refine lv_aload_n hx hb dX9_readsS_107 rfl (lv_at hl 0 rfl) ?_
        refine lv_bipush (v := 99) hx hb dX9_readsS_108 (by decide) ?_
        refine call_i (run_V (cc := cX9_readsS) (As := [.int 99]) (rest := []) hx hb hml hown hE hz (okX9_reads X l hfl  hw) qw_1999 qw_2001 qw_61 qw_86 qw_2002 (myX9_reads) ⟨Nat.le_of_ble_eq_true rfl, Nat.le_of_ble_eq_true rfl⟩ (rv_X9 hE hP rfl) hP hD hS rfl hl.1 rfl (Nat.le_of_ble_eq_true rfl) dX9_readsS_110 ⟨Nat.le_of_ble_eq_true rfl, Nat.le_of_ble_eq_true rfl⟩) hS (fun r12 G11 H locs hw hP hD hS => ?_)
        refine lv_if_eq (tgt := 163) hx hb dX9_readsS_113 (by decide) (fun c13 => ?_) (fun c13 => ?_)
        · replace hw := ite_t hw c13
          refine lv_iconst (v := 0) hx hb dX9_readsS_163 (by decide) ?_
          exact end_i hx hb hr hlk (by decide) hw hP hD hS dX9_readsS_164
        · replace hw := ite_f hw c13
          refine lv_aload_n hx hb dX9_readsS_116 rfl (lv_at hl 0 rfl) ?_
          refine lv_bipush (v := 107) hx hb dX9_readsS_117 (by decide) ?_
          refine call_i (run_V (cc := cX9_readsS) (As := [.int 107]) (rest := []) hx hb hml hown hE hz (okX9_reads X l hfl  hw) qw_1999 qw_2001 qw_61 qw_86 qw_2002 (myX9_reads) ⟨Nat.le_of_ble_eq_true rfl, Nat.le_of_ble_eq_true rfl⟩ (rv_X9 hE hP rfl) hP hD hS rfl hl.1 rfl (Nat.le_of_ble_eq_true rfl) dX9_readsS_119 ⟨Nat.le_of_ble_eq_true rfl, Nat.le_of_ble_eq_true rfl⟩) hS (fun r15 G14 H locs hw hP hD hS => ?_)
          refine lv_if_eq (tgt := 163) hx hb dX9_readsS_122 (by decide) (fun c16 => ?_) (fun c16 => ?_)
          · replace hw := ite_t hw c16
            refine lv_iconst (v := 0) hx hb dX9_readsS_163 (by decide) ?_
            exact end_i hx hb hr hlk (by decide) hw hP hD hS dX9_readsS_164
          · replace hw := ite_f hw c16
            refine lv_aload_n hx hb dX9_readsS_125 rfl (lv_at hl 0 rfl) ?_
            refine lv_bipush (v := 32) hx hb dX9_readsS_126 (by decide) ?_
            refine call_i (run_V (cc := cX9_readsS) (As := [.int 32]) (rest := []) hx hb hml hown hE hz (okX9_reads X l hfl  hw) qw_1999 qw_2001 qw_61 qw_86 qw_2002 (myX9_reads) ⟨Nat.le_of_ble_eq_true rfl, Nat.le_of_ble_eq_true rfl⟩ (rv_X9 hE hP rfl) hP hD hS rfl hl.1 rfl (Nat.le_of_ble_eq_true rfl) dX9_readsS_128 ⟨Nat.le_of_ble_eq_true rfl, Nat.le_of_ble_eq_true rfl⟩) hS (fun r18 G17 H locs hw hP hD hS => ?_)
            refine lv_if_eq (tgt := 163) hx hb dX9_readsS_131 (by decide) (fun c19 => ?_) (fun c19 => ?_)
            · replace hw := ite_t hw c19
              refine lv_iconst (v := 0) hx hb dX9_readsS_163 (by decide) ?_
              exact end_i hx hb hr hlk (by decide) hw hP hD hS dX9_readsS_164
            · replace hw := ite_f hw c19
              refine lv_aload_n hx hb dX9_readsS_134 rfl (lv_at hl 0 rfl) ?_
              refine lv_iconst (v := 0) hx hb dX9_readsS_135 (by decide) ?_
              refine call_i (run_V (cc := cX9_readsS) (As := [.int 0]) (rest := []) hx hb hml hown hE hz (okX9_readsDigit X l hfl  hw) qw_2003 qw_2005 qw_62 qw_86 qw_2006 (myX9_readsDigit) ⟨Nat.le_of_ble_eq_true rfl, Nat.le_of_ble_eq_true rfl⟩ (rv_X9 hE hP rfl) hP hD hS rfl hl.1 rfl (Nat.le_of_ble_eq_true rfl) dX9_readsS_136 ⟨Nat.le_of_ble_eq_true rfl, Nat.le_of_ble_eq_true rfl⟩) hS (fun r21 G20 H locs hw hP hD hS => ?_)
              refine lv_if_eq (tgt := 163) hx hb dX9_readsS_139 (by decide) (fun c22 => ?_) (fun c22 => ?_)
              · replace hw := ite_t hw c22
                refine lv_iconst (v := 0) hx hb dX9_readsS_163 (by decide) ?_
                exact end_i hx hb hr hlk (by decide) hw hP hD hS dX9_readsS_164
              · replace hw := ite_f hw c22
                refine lv_aload_n hx hb dX9_readsS_142 rfl (lv_at hl 0 rfl) ?_
                refine lv_bipush (v := 32) hx hb dX9_readsS_143 (by decide) ?_
                refine call_i (run_V (cc := cX9_readsS) (As := [.int 32]) (rest := []) hx hb hml hown hE hz (okX9_reads X l hfl  hw) qw_1999 qw_2001 qw_61 qw_86 qw_2002 (myX9_reads) ⟨Nat.le_of_ble_eq_true rfl, Nat.le_of_ble_eq_true rfl⟩ (rv_X9 hE hP rfl) hP hD hS rfl hl.1 rfl (Nat.le_of_ble_eq_true rfl) dX9_readsS_145 ⟨Nat.le_of_ble_eq_true rfl, Nat.le_of_ble_eq_true rfl⟩) hS (fun r24 G23 H locs hw hP hD hS => ?_)
                refine lv_if_eq (tgt := 163) hx hb dX9_readsS_148 (by decide) (fun c25 => ?_) (fun c25 => ?_)
                · replace hw := ite_t hw c25
                  refine lv_iconst (v := 0) hx hb dX9_readsS_163 (by decide) ?_
                  exact end_i hx hb hr hlk (by decide) hw hP hD hS dX9_readsS_164
                · replace hw := ite_f hw c25
                  refine lv_aload_n hx hb dX9_readsS_151 rfl (lv_at hl 0 rfl) ?_
                  refine lv_iconst (v := 1) hx hb dX9_readsS_152 (by decide) ?_
                  refine call_i (run_V (cc := cX9_readsS) (As := [.int 1]) (rest := []) hx hb hml hown hE hz (okX9_readsDigit X l hfl  hw) qw_2003 qw_2005 qw_62 qw_86 qw_2006 (myX9_readsDigit) ⟨Nat.le_of_ble_eq_true rfl, Nat.le_of_ble_eq_true rfl⟩ (rv_X9 hE hP rfl) hP hD hS rfl hl.1 rfl (Nat.le_of_ble_eq_true rfl) dX9_readsS_153 ⟨Nat.le_of_ble_eq_true rfl, Nat.le_of_ble_eq_true rfl⟩) hS (fun r27 G26 H locs hw hP hD hS => ?_)
                  refine lv_if_eq (tgt := 163) hx hb dX9_readsS_156 (by decide) (fun c28 => ?_) (fun c28 => ?_)
                  · replace hw := ite_t hw c28
                    refine lv_iconst (v := 0) hx hb dX9_readsS_163 (by decide) ?_
                    exact end_i hx hb hr hlk (by decide) hw hP hD hS dX9_readsS_164
                  · replace hw := ite_f hw c28
                    refine lv_iconst (v := 1) hx hb dX9_readsS_159 (by decide) ?_
                    refine lv_goto (tgt := 164) hx hb dX9_readsS_160 (by decide) ?_
                    exact end_i hx hb hr hlk (by decide) hw hP hD hS dX9_readsS_164
  · replace hw := ite_f hw c3
    refine lv_aload_n hx hb dX9_readsS_9 rfl (lv_at hl 0 rfl) ?_
    refine lv_bipush (v := 97) hx hb dX9_readsS_10 (by decide) ?_
    refine call_i (run_V (cc := cX9_readsS) (As := [.int 97]) (rest := []) hx hb hml hown hE hz (okX9_reads X l hfl  hw) qw_1999 qw_2001 qw_61 qw_86 qw_2002 (myX9_reads) ⟨Nat.le_of_ble_eq_true rfl, Nat.le_of_ble_eq_true rfl⟩ (rv_X9 hE hP rfl) hP hD hS rfl hl.1 rfl (Nat.le_of_ble_eq_true rfl) dX9_readsS_12 ⟨Nat.le_of_ble_eq_true rfl, Nat.le_of_ble_eq_true rfl⟩) hS (fun r30 G29 H locs hw hP hD hS => ?_)
    refine lv_if_eq (tgt := 81) hx hb dX9_readsS_15 (by decide) (fun c31 => ?_) (fun c31 => ?_)
    · replace hw := ite_t hw c31
      refine lv_iconst (v := 0) hx hb dX9_readsS_81 (by decide) ?_
      exact end_i hx hb hr hlk (by decide) hw hP hD hS dX9_readsS_82
    · replace hw := ite_f hw c31
      refine lv_aload_n hx hb dX9_readsS_18 rfl (lv_at hl 0 rfl) ?_
      refine lv_bipush (v := 112) hx hb dX9_readsS_19 (by decide) ?_
      refine call_i (run_V (cc := cX9_readsS) (As := [.int 112]) (rest := []) hx hb hml hown hE hz (okX9_reads X l hfl  hw) qw_1999 qw_2001 qw_61 qw_86 qw_2002 (myX9_reads) ⟨Nat.le_of_ble_eq_true rfl, Nat.le_of_ble_eq_true rfl⟩ (rv_X9 hE hP rfl) hP hD hS rfl hl.1 rfl (Nat.le_of_ble_eq_true rfl) dX9_readsS_21 ⟨Nat.le_of_ble_eq_true rfl, Nat.le_of_ble_eq_true rfl⟩) hS (fun r33 G32 H locs hw hP hD hS => ?_)
      refine lv_if_eq (tgt := 81) hx hb dX9_readsS_24 (by decide) (fun c34 => ?_) (fun c34 => ?_)
      · replace hw := ite_t hw c34
        refine lv_iconst (v := 0) hx hb dX9_readsS_81 (by decide) ?_
        exact end_i hx hb hr hlk (by decide) hw hP hD hS dX9_readsS_82
      · replace hw := ite_f hw c34
        refine lv_aload_n hx hb dX9_readsS_27 rfl (lv_at hl 0 rfl) ?_
        refine lv_bipush (v := 32) hx hb dX9_readsS_28 (by decide) ?_
        refine call_i (run_V (cc := cX9_readsS) (As := [.int 32]) (rest := []) hx hb hml hown hE hz (okX9_reads X l hfl  hw) qw_1999 qw_2001 qw_61 qw_86 qw_2002 (myX9_reads) ⟨Nat.le_of_ble_eq_true rfl, Nat.le_of_ble_eq_true rfl⟩ (rv_X9 hE hP rfl) hP hD hS rfl hl.1 rfl (Nat.le_of_ble_eq_true rfl) dX9_readsS_30 ⟨Nat.le_of_ble_eq_true rfl, Nat.le_of_ble_eq_true rfl⟩) hS (fun r36 G35 H locs hw hP hD hS => ?_)
        refine lv_if_eq (tgt := 81) hx hb dX9_readsS_33 (by decide) (fun c37 => ?_) (fun c37 => ?_)
        · replace hw := ite_t hw c37
          refine lv_iconst (v := 0) hx hb dX9_readsS_81 (by decide) ?_
          exact end_i hx hb hr hlk (by decide) hw hP hD hS dX9_readsS_82
        · replace hw := ite_f hw c37
          refine lv_aload_n hx hb dX9_readsS_36 rfl (lv_at hl 0 rfl) ?_
          refine lv_iconst (v := 0) hx hb dX9_readsS_37 (by decide) ?_
          refine call_i (run_V (cc := cX9_readsS) (As := [.int 0]) (rest := []) hx hb hml hown hE hz (okX9_readsDigit X l hfl  hw) qw_2003 qw_2005 qw_62 qw_86 qw_2006 (myX9_readsDigit) ⟨Nat.le_of_ble_eq_true rfl, Nat.le_of_ble_eq_true rfl⟩ (rv_X9 hE hP rfl) hP hD hS rfl hl.1 rfl (Nat.le_of_ble_eq_true rfl) dX9_readsS_38 ⟨Nat.le_of_ble_eq_true rfl, Nat.le_of_ble_eq_true rfl⟩) hS (fun r39 G38 H locs hw hP hD hS => ?_)
          refine lv_if_eq (tgt := 81) hx hb dX9_readsS_41 (by decide) (fun c40 => ?_) (fun c40 => ?_)
          · replace hw := ite_t hw c40
            refine lv_iconst (v := 0) hx hb dX9_readsS_81 (by decide) ?_
            exact end_i hx hb hr hlk (by decide) hw hP hD hS dX9_readsS_82
          · replace hw := ite_f hw c40
            refine lv_aload_n hx hb dX9_readsS_44 rfl (lv_at hl 0 rfl) ?_
            refine lv_bipush (v := 32) hx hb dX9_readsS_45 (by decide) ?_
            refine call_i (run_V (cc := cX9_readsS) (As := [.int 32]) (rest := []) hx hb hml hown hE hz (okX9_reads X l hfl  hw) qw_1999 qw_2001 qw_61 qw_86 qw_2002 (myX9_reads) ⟨Nat.le_of_ble_eq_true rfl, Nat.le_of_ble_eq_true rfl⟩ (rv_X9 hE hP rfl) hP hD hS rfl hl.1 rfl (Nat.le_of_ble_eq_true rfl) dX9_readsS_47 ⟨Nat.le_of_ble_eq_true rfl, Nat.le_of_ble_eq_true rfl⟩) hS (fun r42 G41 H locs hw hP hD hS => ?_)
            refine lv_if_eq (tgt := 81) hx hb dX9_readsS_50 (by decide) (fun c43 => ?_) (fun c43 => ?_)
            · replace hw := ite_t hw c43
              refine lv_iconst (v := 0) hx hb dX9_readsS_81 (by decide) ?_
              exact end_i hx hb hr hlk (by decide) hw hP hD hS dX9_readsS_82
            · replace hw := ite_f hw c43
              refine lv_aload_n hx hb dX9_readsS_53 rfl (lv_at hl 0 rfl) ?_
              refine lv_iconst (v := 1) hx hb dX9_readsS_54 (by decide) ?_
              refine call_i (run_V (cc := cX9_readsS) (As := [.int 1]) (rest := []) hx hb hml hown hE hz (okX9_readsKind X l hfl  hw) qw_2011 qw_2013 qw_64 qw_86 qw_2014 (myX9_readsKind) ⟨Nat.le_of_ble_eq_true rfl, Nat.le_of_ble_eq_true rfl⟩ (rv_X9 hE hP rfl) hP hD hS rfl hl.1 rfl (Nat.le_of_ble_eq_true rfl) dX9_readsS_55 ⟨Nat.le_of_ble_eq_true rfl, Nat.le_of_ble_eq_true rfl⟩) hS (fun r45 G44 H locs hw hP hD hS => ?_)
              refine lv_if_eq (tgt := 81) hx hb dX9_readsS_58 (by decide) (fun c46 => ?_) (fun c46 => ?_)
              · replace hw := ite_t hw c46
                refine lv_iconst (v := 0) hx hb dX9_readsS_81 (by decide) ?_
                exact end_i hx hb hr hlk (by decide) hw hP hD hS dX9_readsS_82
              · replace hw := ite_f hw c46
                refine lv_aload_n hx hb dX9_readsS_61 rfl (lv_at hl 0 rfl) ?_
                refine lv_iconst (v := 2) hx hb dX9_readsS_62 (by decide) ?_
                refine call_i (run_V (cc := cX9_readsS) (As := [.int 2]) (rest := []) hx hb hml hown hE hz (okX9_readsKind X l hfl  hw) qw_2011 qw_2013 qw_64 qw_86 qw_2014 (myX9_readsKind) ⟨Nat.le_of_ble_eq_true rfl, Nat.le_of_ble_eq_true rfl⟩ (rv_X9 hE hP rfl) hP hD hS rfl hl.1 rfl (Nat.le_of_ble_eq_true rfl) dX9_readsS_63 ⟨Nat.le_of_ble_eq_true rfl, Nat.le_of_ble_eq_true rfl⟩) hS (fun r48 G47 H locs hw hP hD hS => ?_)
                refine lv_if_eq (tgt := 81) hx hb dX9_readsS_66 (by decide) (fun c49 => ?_) (fun c49 => ?_)
                · replace hw := ite_t hw c49
                  refine lv_iconst (v := 0) hx hb dX9_readsS_81 (by decide) ?_
                  exact end_i hx hb hr hlk (by decide) hw hP hD hS dX9_readsS_82
                · replace hw := ite_f hw c49
                  refine lv_aload_n hx hb dX9_readsS_69 rfl (lv_at hl 0 rfl) ?_
                  refine lv_iconst (v := 3) hx hb dX9_readsS_70 (by decide) ?_
                  refine call_i (run_V (cc := cX9_readsS) (As := [.int 3]) (rest := []) hx hb hml hown hE hz (okX9_readsNumber X l hfl  hw) qw_2015 qw_2017 qw_65 qw_86 qw_2018 (myX9_readsNumber) ⟨Nat.le_of_ble_eq_true rfl, Nat.le_of_ble_eq_true rfl⟩ (rv_X9 hE hP rfl) hP hD hS rfl hl.1 rfl (Nat.le_of_ble_eq_true rfl) dX9_readsS_71 ⟨Nat.le_of_ble_eq_true rfl, Nat.le_of_ble_eq_true rfl⟩) hS (fun r51 G50 H locs hw hP hD hS => ?_)
                  refine lv_if_eq (tgt := 81) hx hb dX9_readsS_74 (by decide) (fun c52 => ?_) (fun c52 => ?_)
                  · replace hw := ite_t hw c52
                    refine lv_iconst (v := 0) hx hb dX9_readsS_81 (by decide) ?_
                    exact end_i hx hb hr hlk (by decide) hw hP hD hS dX9_readsS_82
                  · replace hw := ite_f hw c52
                    refine lv_iconst (v := 1) hx hb dX9_readsS_77 (by decide) ?_
                    refine lv_goto (tgt := 82) hx hb dX9_readsS_78 (by decide) ?_
                    exact end_i hx hb hr hlk (by decide) hw hP hD hS dX9_readsS_82
def wpX9_readsM (post : Int32 → GS → Prop) (G : GS) : Prop :=
  wpX9_reads (fun (r2 : Int32) (G1 : GS) =>
  if r2 = 0 then
    ∀ G4 : GS, G4 = gI G1 189 16 101 →
      wpX9_reads (fun (r6 : Int32) (G5 : GS) =>
      if r6 = 0 then
        post 0 G5
      else
        wpX9_reads (fun (r9 : Int32) (G8 : GS) =>
          if r9 = 0 then
            post 0 G8
          else
            wpX9_reads (fun (r12 : Int32) (G11 : GS) =>
              if r12 = 0 then
                post 0 G11
              else
                wpX9_reads (fun (r15 : Int32) (G14 : GS) =>
                  if r15 = 0 then
                    post 0 G14
                  else
                    wpX9_readsDigit (fun (r18 : Int32) (G17 : GS) =>
                      if r18 = 0 then
                        post 0 G17
                      else
                        wpX9_reads (fun (r21 : Int32) (G20 : GS) =>
                          if r21 = 0 then
                            post 0 G20
                          else
                            wpX9_readsNumber (fun (r24 : Int32) (G23 : GS) =>
                              if r24 = 0 then
                                post 0 G23
                              else
                                post 1 G23) 1 G20) 32 G17) 0 G14) 32 G11) 116 G8) 108 G5) 101 G4
  else
    wpX9_reads (fun (r27 : Int32) (G26 : GS) =>
      if r27 = 0 then
        post 0 G26
      else
        wpX9_reads (fun (r30 : Int32) (G29 : GS) =>
          if r30 = 0 then
            post 0 G29
          else
            wpX9_reads (fun (r33 : Int32) (G32 : GS) =>
              if r33 = 0 then
                post 0 G32
              else
                wpX9_readsDigit (fun (r36 : Int32) (G35 : GS) =>
                  if r36 = 0 then
                    post 0 G35
                  else
                    wpX9_reads (fun (r39 : Int32) (G38 : GS) =>
                      if r39 = 0 then
                        post 0 G38
                      else
                        wpX9_readsNumber (fun (r42 : Int32) (G41 : GS) =>
                          if r42 = 0 then
                            post 0 G41
                          else
                            post 1 G41) 1 G38) 32 G35) 0 G32) 32 G29) 116 G26) 110 G1) 105 G
set_option maxHeartbeats 4000000 in
set_option maxRecDepth 100000 in
theorem okX9_readsM (X : Cx) (l : Launch) (hfl : l.stackTraces = false) {post : Int32 → GS → Prop}  {G : GS}  (hw : wpX9_readsM post G) : CT X l yX9_readsM cX9_readsM 1 (some FieldType.boolean) 4 0 0 [.ref (xa X 189)] G (Qi X post) := by
  refine mbegin (by decide) (Nat.le_of_ble_eq_true rfl) (fun p e s m below meth c hx hb hr hml hlk hown hE hz ls hl hP hD hS => ?_)
  have hl : lv_has ls 1 [(0, .ref (xa X 189))] := hl
  have hown : s.vm.findClass "FlyTreasuryModel" = some m.cls := hown
  unfold wpX9_readsM at hw
  refine lv_aload_n hx hb dX9_readsM_0 rfl (lv_at hl 0 rfl) ?_
  refine lv_bipush (v := 105) hx hb dX9_readsM_1 (by decide) ?_
  refine call_i (run_V (cc := cX9_readsM) (As := [.int 105]) (rest := []) hx hb hml hown hE hz (okX9_reads X l hfl  hw) qw_1999 qw_2001 qw_61 qw_86 qw_2002 (myX9_reads) ⟨Nat.le_of_ble_eq_true rfl, Nat.le_of_ble_eq_true rfl⟩ (rv_X9 hE hP rfl) hP hD hS rfl hl.1 rfl (Nat.le_of_ble_eq_true rfl) dX9_readsM_3 ⟨Nat.le_of_ble_eq_true rfl, Nat.le_of_ble_eq_true rfl⟩) hS (fun r2 G1 H locs hw hP hD hS => ?_)
  refine lv_if_eq (tgt := 67) hx hb dX9_readsM_6 (by decide) (fun c3 => ?_) (fun c3 => ?_)
  · replace hw := ite_t hw c3
    refine lv_aload_n hx hb dX9_readsM_67 rfl (lv_at hl 0 rfl) ?_
    refine lv_bipush (v := 101) hx hb dX9_readsM_68 (by decide) ?_
    refine pf_X9_16 hx hb hE hP hD hS hown rfl (hE.w qw_1586 rfl _) dX9_readsM_70 (fun G4 H locs eG4 hP hD hS => ?_)
    replace hw := hw G4 eG4
    refine lv_aload_n hx hb dX9_readsM_73 rfl (lv_at hl 0 rfl) ?_
    refine lv_bipush (v := 101) hx hb dX9_readsM_74 (by decide) ?_
    refine call_i (run_V (cc := cX9_readsM) (As := [.int 101]) (rest := []) hx hb hml hown hE hz (okX9_reads X l hfl  hw) qw_1999 qw_2001 qw_61 qw_86 qw_2002 (myX9_reads) ⟨Nat.le_of_ble_eq_true rfl, Nat.le_of_ble_eq_true rfl⟩ (rv_X9 hE hP rfl) hP hD hS rfl hl.1 rfl (Nat.le_of_ble_eq_true rfl) dX9_readsM_76 ⟨Nat.le_of_ble_eq_true rfl, Nat.le_of_ble_eq_true rfl⟩) hS (fun r6 G5 H locs hw hP hD hS => ?_)
    refine lv_if_eq (tgt := 138) hx hb dX9_readsM_79 (by decide) (fun c7 => ?_) (fun c7 => ?_)
    · replace hw := ite_t hw c7
      refine lv_iconst (v := 0) hx hb dX9_readsM_138 (by decide) ?_
      exact end_i hx hb hr hlk (by decide) hw hP hD hS dX9_readsM_139
    · replace hw := ite_f hw c7
      refine lv_aload_n hx hb dX9_readsM_82 rfl (lv_at hl 0 rfl) ?_
      refine lv_bipush (v := 108) hx hb dX9_readsM_83 (by decide) ?_
      refine call_i (run_V (cc := cX9_readsM) (As := [.int 108]) (rest := []) hx hb hml hown hE hz (okX9_reads X l hfl  hw) qw_1999 qw_2001 qw_61 qw_86 qw_2002 (myX9_reads) ⟨Nat.le_of_ble_eq_true rfl, Nat.le_of_ble_eq_true rfl⟩ (rv_X9 hE hP rfl) hP hD hS rfl hl.1 rfl (Nat.le_of_ble_eq_true rfl) dX9_readsM_85 ⟨Nat.le_of_ble_eq_true rfl, Nat.le_of_ble_eq_true rfl⟩) hS (fun r9 G8 H locs hw hP hD hS => ?_)
      refine lv_if_eq (tgt := 138) hx hb dX9_readsM_88 (by decide) (fun c10 => ?_) (fun c10 => ?_)
      · replace hw := ite_t hw c10
        refine lv_iconst (v := 0) hx hb dX9_readsM_138 (by decide) ?_
        exact end_i hx hb hr hlk (by decide) hw hP hD hS dX9_readsM_139
      · replace hw := ite_f hw c10
        refine lv_aload_n hx hb dX9_readsM_91 rfl (lv_at hl 0 rfl) ?_
        refine lv_bipush (v := 116) hx hb dX9_readsM_92 (by decide) ?_
        refine call_i (run_V (cc := cX9_readsM) (As := [.int 116]) (rest := []) hx hb hml hown hE hz (okX9_reads X l hfl  hw) qw_1999 qw_2001 qw_61 qw_86 qw_2002 (myX9_reads) ⟨Nat.le_of_ble_eq_true rfl, Nat.le_of_ble_eq_true rfl⟩ (rv_X9 hE hP rfl) hP hD hS rfl hl.1 rfl (Nat.le_of_ble_eq_true rfl) dX9_readsM_94 ⟨Nat.le_of_ble_eq_true rfl, Nat.le_of_ble_eq_true rfl⟩) hS (fun r12 G11 H locs hw hP hD hS => ?_)
        refine lv_if_eq (tgt := 138) hx hb dX9_readsM_97 (by decide) (fun c13 => ?_) (fun c13 => ?_)
        · replace hw := ite_t hw c13
          refine lv_iconst (v := 0) hx hb dX9_readsM_138 (by decide) ?_
          exact end_i hx hb hr hlk (by decide) hw hP hD hS dX9_readsM_139
        · replace hw := ite_f hw c13
          refine lv_aload_n hx hb dX9_readsM_100 rfl (lv_at hl 0 rfl) ?_
          refine lv_bipush (v := 32) hx hb dX9_readsM_101 (by decide) ?_
          refine call_i (run_V (cc := cX9_readsM) (As := [.int 32]) (rest := []) hx hb hml hown hE hz (okX9_reads X l hfl  hw) qw_1999 qw_2001 qw_61 qw_86 qw_2002 (myX9_reads) ⟨Nat.le_of_ble_eq_true rfl, Nat.le_of_ble_eq_true rfl⟩ (rv_X9 hE hP rfl) hP hD hS rfl hl.1 rfl (Nat.le_of_ble_eq_true rfl) dX9_readsM_103 ⟨Nat.le_of_ble_eq_true rfl, Nat.le_of_ble_eq_true rfl⟩) hS (fun r15 G14 H locs hw hP hD hS => ?_)
          refine lv_if_eq (tgt := 138) hx hb dX9_readsM_106 (by decide) (fun c16 => ?_) (fun c16 => ?_)
          · replace hw := ite_t hw c16
            refine lv_iconst (v := 0) hx hb dX9_readsM_138 (by decide) ?_
            exact end_i hx hb hr hlk (by decide) hw hP hD hS dX9_readsM_139
          · replace hw := ite_f hw c16
            refine lv_aload_n hx hb dX9_readsM_109 rfl (lv_at hl 0 rfl) ?_
            refine lv_iconst (v := 0) hx hb dX9_readsM_110 (by decide) ?_
            refine call_i (run_V (cc := cX9_readsM) (As := [.int 0]) (rest := []) hx hb hml hown hE hz (okX9_readsDigit X l hfl  hw) qw_2003 qw_2005 qw_62 qw_86 qw_2006 (myX9_readsDigit) ⟨Nat.le_of_ble_eq_true rfl, Nat.le_of_ble_eq_true rfl⟩ (rv_X9 hE hP rfl) hP hD hS rfl hl.1 rfl (Nat.le_of_ble_eq_true rfl) dX9_readsM_111 ⟨Nat.le_of_ble_eq_true rfl, Nat.le_of_ble_eq_true rfl⟩) hS (fun r18 G17 H locs hw hP hD hS => ?_)
            refine lv_if_eq (tgt := 138) hx hb dX9_readsM_114 (by decide) (fun c19 => ?_) (fun c19 => ?_)
            · replace hw := ite_t hw c19
              refine lv_iconst (v := 0) hx hb dX9_readsM_138 (by decide) ?_
              exact end_i hx hb hr hlk (by decide) hw hP hD hS dX9_readsM_139
            · replace hw := ite_f hw c19
              refine lv_aload_n hx hb dX9_readsM_117 rfl (lv_at hl 0 rfl) ?_
              refine lv_bipush (v := 32) hx hb dX9_readsM_118 (by decide) ?_
              refine call_i (run_V (cc := cX9_readsM) (As := [.int 32]) (rest := []) hx hb hml hown hE hz (okX9_reads X l hfl  hw) qw_1999 qw_2001 qw_61 qw_86 qw_2002 (myX9_reads) ⟨Nat.le_of_ble_eq_true rfl, Nat.le_of_ble_eq_true rfl⟩ (rv_X9 hE hP rfl) hP hD hS rfl hl.1 rfl (Nat.le_of_ble_eq_true rfl) dX9_readsM_120 ⟨Nat.le_of_ble_eq_true rfl, Nat.le_of_ble_eq_true rfl⟩) hS (fun r21 G20 H locs hw hP hD hS => ?_)
              refine lv_if_eq (tgt := 138) hx hb dX9_readsM_123 (by decide) (fun c22 => ?_) (fun c22 => ?_)
              · replace hw := ite_t hw c22
                refine lv_iconst (v := 0) hx hb dX9_readsM_138 (by decide) ?_
                exact end_i hx hb hr hlk (by decide) hw hP hD hS dX9_readsM_139
              · replace hw := ite_f hw c22
                refine lv_aload_n hx hb dX9_readsM_126 rfl (lv_at hl 0 rfl) ?_
                refine lv_iconst (v := 1) hx hb dX9_readsM_127 (by decide) ?_
                refine call_i (run_V (cc := cX9_readsM) (As := [.int 1]) (rest := []) hx hb hml hown hE hz (okX9_readsNumber X l hfl  hw) qw_2015 qw_2017 qw_65 qw_86 qw_2018 (myX9_readsNumber) ⟨Nat.le_of_ble_eq_true rfl, Nat.le_of_ble_eq_true rfl⟩ (rv_X9 hE hP rfl) hP hD hS rfl hl.1 rfl (Nat.le_of_ble_eq_true rfl) dX9_readsM_128 ⟨Nat.le_of_ble_eq_true rfl, Nat.le_of_ble_eq_true rfl⟩) hS (fun r24 G23 H locs hw hP hD hS => ?_)
                refine lv_if_eq (tgt := 138) hx hb dX9_readsM_131 (by decide) (fun c25 => ?_) (fun c25 => ?_)
                · replace hw := ite_t hw c25
                  refine lv_iconst (v := 0) hx hb dX9_readsM_138 (by decide) ?_
                  exact end_i hx hb hr hlk (by decide) hw hP hD hS dX9_readsM_139
                · replace hw := ite_f hw c25
                  refine lv_iconst (v := 1) hx hb dX9_readsM_134 (by decide) ?_
                  refine lv_goto (tgt := 139) hx hb dX9_readsM_135 (by decide) ?_
                  exact end_i hx hb hr hlk (by decide) hw hP hD hS dX9_readsM_139
  · replace hw := ite_f hw c3
    refine lv_aload_n hx hb dX9_readsM_9 rfl (lv_at hl 0 rfl) ?_
    refine lv_bipush (v := 110) hx hb dX9_readsM_10 (by decide) ?_
    refine call_i (run_V (cc := cX9_readsM) (As := [.int 110]) (rest := []) hx hb hml hown hE hz (okX9_reads X l hfl  hw) qw_1999 qw_2001 qw_61 qw_86 qw_2002 (myX9_reads) ⟨Nat.le_of_ble_eq_true rfl, Nat.le_of_ble_eq_true rfl⟩ (rv_X9 hE hP rfl) hP hD hS rfl hl.1 rfl (Nat.le_of_ble_eq_true rfl) dX9_readsM_12 ⟨Nat.le_of_ble_eq_true rfl, Nat.le_of_ble_eq_true rfl⟩) hS (fun r27 G26 H locs hw hP hD hS => ?_)
    refine lv_if_eq (tgt := 65) hx hb dX9_readsM_15 (by decide) (fun c28 => ?_) (fun c28 => ?_)
    · replace hw := ite_t hw c28
      refine lv_iconst (v := 0) hx hb dX9_readsM_65 (by decide) ?_
      exact end_i hx hb hr hlk (by decide) hw hP hD hS dX9_readsM_66
    · replace hw := ite_f hw c28
      refine lv_aload_n hx hb dX9_readsM_18 rfl (lv_at hl 0 rfl) ?_
      refine lv_bipush (v := 116) hx hb dX9_readsM_19 (by decide) ?_
      refine call_i (run_V (cc := cX9_readsM) (As := [.int 116]) (rest := []) hx hb hml hown hE hz (okX9_reads X l hfl  hw) qw_1999 qw_2001 qw_61 qw_86 qw_2002 (myX9_reads) ⟨Nat.le_of_ble_eq_true rfl, Nat.le_of_ble_eq_true rfl⟩ (rv_X9 hE hP rfl) hP hD hS rfl hl.1 rfl (Nat.le_of_ble_eq_true rfl) dX9_readsM_21 ⟨Nat.le_of_ble_eq_true rfl, Nat.le_of_ble_eq_true rfl⟩) hS (fun r30 G29 H locs hw hP hD hS => ?_)
      refine lv_if_eq (tgt := 65) hx hb dX9_readsM_24 (by decide) (fun c31 => ?_) (fun c31 => ?_)
      · replace hw := ite_t hw c31
        refine lv_iconst (v := 0) hx hb dX9_readsM_65 (by decide) ?_
        exact end_i hx hb hr hlk (by decide) hw hP hD hS dX9_readsM_66
      · replace hw := ite_f hw c31
        refine lv_aload_n hx hb dX9_readsM_27 rfl (lv_at hl 0 rfl) ?_
        refine lv_bipush (v := 32) hx hb dX9_readsM_28 (by decide) ?_
        refine call_i (run_V (cc := cX9_readsM) (As := [.int 32]) (rest := []) hx hb hml hown hE hz (okX9_reads X l hfl  hw) qw_1999 qw_2001 qw_61 qw_86 qw_2002 (myX9_reads) ⟨Nat.le_of_ble_eq_true rfl, Nat.le_of_ble_eq_true rfl⟩ (rv_X9 hE hP rfl) hP hD hS rfl hl.1 rfl (Nat.le_of_ble_eq_true rfl) dX9_readsM_30 ⟨Nat.le_of_ble_eq_true rfl, Nat.le_of_ble_eq_true rfl⟩) hS (fun r33 G32 H locs hw hP hD hS => ?_)
        refine lv_if_eq (tgt := 65) hx hb dX9_readsM_33 (by decide) (fun c34 => ?_) (fun c34 => ?_)
        · replace hw := ite_t hw c34
          refine lv_iconst (v := 0) hx hb dX9_readsM_65 (by decide) ?_
          exact end_i hx hb hr hlk (by decide) hw hP hD hS dX9_readsM_66
        · replace hw := ite_f hw c34
          refine lv_aload_n hx hb dX9_readsM_36 rfl (lv_at hl 0 rfl) ?_
          refine lv_iconst (v := 0) hx hb dX9_readsM_37 (by decide) ?_
          refine call_i (run_V (cc := cX9_readsM) (As := [.int 0]) (rest := []) hx hb hml hown hE hz (okX9_readsDigit X l hfl  hw) qw_2003 qw_2005 qw_62 qw_86 qw_2006 (myX9_readsDigit) ⟨Nat.le_of_ble_eq_true rfl, Nat.le_of_ble_eq_true rfl⟩ (rv_X9 hE hP rfl) hP hD hS rfl hl.1 rfl (Nat.le_of_ble_eq_true rfl) dX9_readsM_38 ⟨Nat.le_of_ble_eq_true rfl, Nat.le_of_ble_eq_true rfl⟩) hS (fun r36 G35 H locs hw hP hD hS => ?_)
          refine lv_if_eq (tgt := 65) hx hb dX9_readsM_41 (by decide) (fun c37 => ?_) (fun c37 => ?_)
          · replace hw := ite_t hw c37
            refine lv_iconst (v := 0) hx hb dX9_readsM_65 (by decide) ?_
            exact end_i hx hb hr hlk (by decide) hw hP hD hS dX9_readsM_66
          · replace hw := ite_f hw c37
            refine lv_aload_n hx hb dX9_readsM_44 rfl (lv_at hl 0 rfl) ?_
            refine lv_bipush (v := 32) hx hb dX9_readsM_45 (by decide) ?_
            refine call_i (run_V (cc := cX9_readsM) (As := [.int 32]) (rest := []) hx hb hml hown hE hz (okX9_reads X l hfl  hw) qw_1999 qw_2001 qw_61 qw_86 qw_2002 (myX9_reads) ⟨Nat.le_of_ble_eq_true rfl, Nat.le_of_ble_eq_true rfl⟩ (rv_X9 hE hP rfl) hP hD hS rfl hl.1 rfl (Nat.le_of_ble_eq_true rfl) dX9_readsM_47 ⟨Nat.le_of_ble_eq_true rfl, Nat.le_of_ble_eq_true rfl⟩) hS (fun r39 G38 H locs hw hP hD hS => ?_)
            refine lv_if_eq (tgt := 65) hx hb dX9_readsM_50 (by decide) (fun c40 => ?_) (fun c40 => ?_)
            · replace hw := ite_t hw c40
              refine lv_iconst (v := 0) hx hb dX9_readsM_65 (by decide) ?_
              exact end_i hx hb hr hlk (by decide) hw hP hD hS dX9_readsM_66
            · replace hw := ite_f hw c40
              refine lv_aload_n hx hb dX9_readsM_53 rfl (lv_at hl 0 rfl) ?_
              refine lv_iconst (v := 1) hx hb dX9_readsM_54 (by decide) ?_
              refine call_i (run_V (cc := cX9_readsM) (As := [.int 1]) (rest := []) hx hb hml hown hE hz (okX9_readsNumber X l hfl  hw) qw_2015 qw_2017 qw_65 qw_86 qw_2018 (myX9_readsNumber) ⟨Nat.le_of_ble_eq_true rfl, Nat.le_of_ble_eq_true rfl⟩ (rv_X9 hE hP rfl) hP hD hS rfl hl.1 rfl (Nat.le_of_ble_eq_true rfl) dX9_readsM_55 ⟨Nat.le_of_ble_eq_true rfl, Nat.le_of_ble_eq_true rfl⟩) hS (fun r42 G41 H locs hw hP hD hS => ?_)
              refine lv_if_eq (tgt := 65) hx hb dX9_readsM_58 (by decide) (fun c43 => ?_) (fun c43 => ?_)
              · replace hw := ite_t hw c43
                refine lv_iconst (v := 0) hx hb dX9_readsM_65 (by decide) ?_
                exact end_i hx hb hr hlk (by decide) hw hP hD hS dX9_readsM_66
              · replace hw := ite_f hw c43
                refine lv_iconst (v := 1) hx hb dX9_readsM_61 (by decide) ?_
                refine lv_goto (tgt := 66) hx hb dX9_readsM_62 (by decide) ?_
                exact end_i hx hb hr hlk (by decide) hw hP hD hS dX9_readsM_66
def wpX9_readsDay (post : Int32 → GS → Prop) (G : GS) : Prop :=
  wpX9_reads (fun (r2 : Int32) (G1 : GS) =>
  if r2 = 0 then
    post 0 G1
  else
    wpX9_reads (fun (r5 : Int32) (G4 : GS) =>
      if r5 = 0 then
        post 0 G4
      else
        vp_in 0 (ln 196) ∧ ∀ G8 : GS, G8 = gI G4 196 ((0 : Int32).toNatClampNeg) 1 →
          wpX9_reads (fun (r10 : Int32) (G9 : GS) =>
          if r10 = 0 then
            post 1 G9
          else
            wpX9_readsNumber (fun (r13 : Int32) (G12 : GS) =>
              if r13 = 0 then
                post 0 G12
              else
                post 1 G12) 0 G9) 32 G8) 121 G1) 97 G
set_option maxHeartbeats 4000000 in
set_option maxRecDepth 100000 in
theorem okX9_readsDay (X : Cx) (l : Launch) (hfl : l.stackTraces = false) {post : Int32 → GS → Prop}  {G : GS}  (hw : wpX9_readsDay post G) : CT X l yX9_readsDay cX9_readsDay 1 (some FieldType.boolean) 4 0 0 [.ref (xa X 189)] G (Qi X post) := by
  refine mbegin (by decide) (Nat.le_of_ble_eq_true rfl) (fun p e s m below meth c hx hb hr hml hlk hown hE hz ls hl hP hD hS => ?_)
  have hl : lv_has ls 1 [(0, .ref (xa X 189))] := hl
  have hown : s.vm.findClass "FlyTreasuryModel" = some m.cls := hown
  unfold wpX9_readsDay at hw
  refine lv_aload_n hx hb dX9_readsDay_0 rfl (lv_at hl 0 rfl) ?_
  refine lv_bipush (v := 97) hx hb dX9_readsDay_1 (by decide) ?_
  refine call_i (run_V (cc := cX9_readsDay) (As := [.int 97]) (rest := []) hx hb hml hown hE hz (okX9_reads X l hfl  hw) qw_1999 qw_2001 qw_61 qw_86 qw_2002 (myX9_reads) ⟨Nat.le_of_ble_eq_true rfl, Nat.le_of_ble_eq_true rfl⟩ (rv_X9 hE hP rfl) hP hD hS rfl hl.1 rfl (Nat.le_of_ble_eq_true rfl) dX9_readsDay_3 ⟨Nat.le_of_ble_eq_true rfl, Nat.le_of_ble_eq_true rfl⟩) hS (fun r2 G1 H locs hw hP hD hS => ?_)
  refine lv_if_eq (tgt := 18) hx hb dX9_readsDay_6 (by decide) (fun c3 => ?_) (fun c3 => ?_)
  · replace hw := ite_t hw c3
    refine lv_iconst (v := 0) hx hb dX9_readsDay_18 (by decide) ?_
    exact end_i hx hb hr hlk (by decide) hw hP hD hS dX9_readsDay_19
  · replace hw := ite_f hw c3
    refine lv_aload_n hx hb dX9_readsDay_9 rfl (lv_at hl 0 rfl) ?_
    refine lv_bipush (v := 121) hx hb dX9_readsDay_10 (by decide) ?_
    refine call_i (run_V (cc := cX9_readsDay) (As := [.int 121]) (rest := []) hx hb hml hown hE hz (okX9_reads X l hfl  hw) qw_1999 qw_2001 qw_61 qw_86 qw_2002 (myX9_reads) ⟨Nat.le_of_ble_eq_true rfl, Nat.le_of_ble_eq_true rfl⟩ (rv_X9 hE hP rfl) hP hD hS rfl hl.1 rfl (Nat.le_of_ble_eq_true rfl) dX9_readsDay_12 ⟨Nat.le_of_ble_eq_true rfl, Nat.le_of_ble_eq_true rfl⟩) hS (fun r5 G4 H locs hw hP hD hS => ?_)
    refine lv_if_ne (tgt := 20) hx hb dX9_readsDay_15 (by decide) (fun c6 => ?_) (fun c6 => ?_)
    · replace hw := ite_f hw c6
      refine lv_aload_n hx hb dX9_readsDay_20 rfl (lv_at hl 0 rfl) ?_
      refine gf_X9_15 hx hb hE hP hown rfl (hE.w qw_1585 rfl _) dX9_readsDay_21 ?_
      refine lv_iconst (v := 0) hx hb dX9_readsDay_24 (by decide) ?_
      refine lv_iconst (v := 1) hx hb dX9_readsDay_25 (by decide) ?_
      obtain ⟨y7, hw⟩ := hw
      refine ast_2 hx hb hE hP hD hS rfl y7 dX9_readsDay_26 (fun G8 H locs eG8 hP hD hS => ?_)
      replace hw := hw G8 eG8
      refine lv_aload_n hx hb dX9_readsDay_27 rfl (lv_at hl 0 rfl) ?_
      refine lv_bipush (v := 32) hx hb dX9_readsDay_28 (by decide) ?_
      refine call_i (run_V (cc := cX9_readsDay) (As := [.int 32]) (rest := []) hx hb hml hown hE hz (okX9_reads X l hfl  hw) qw_1999 qw_2001 qw_61 qw_86 qw_2002 (myX9_reads) ⟨Nat.le_of_ble_eq_true rfl, Nat.le_of_ble_eq_true rfl⟩ (rv_X9 hE hP rfl) hP hD hS rfl hl.1 rfl (Nat.le_of_ble_eq_true rfl) dX9_readsDay_30 ⟨Nat.le_of_ble_eq_true rfl, Nat.le_of_ble_eq_true rfl⟩) hS (fun r10 G9 H locs hw hP hD hS => ?_)
      refine lv_if_eq (tgt := 44) hx hb dX9_readsDay_33 (by decide) (fun c11 => ?_) (fun c11 => ?_)
      · replace hw := ite_t hw c11
        refine lv_iconst (v := 1) hx hb dX9_readsDay_44 (by decide) ?_
        refine lv_goto (tgt := 49) hx hb dX9_readsDay_45 (by decide) ?_
        exact end_i hx hb hr hlk (by decide) hw hP hD hS dX9_readsDay_49
      · replace hw := ite_f hw c11
        refine lv_aload_n hx hb dX9_readsDay_36 rfl (lv_at hl 0 rfl) ?_
        refine lv_iconst (v := 0) hx hb dX9_readsDay_37 (by decide) ?_
        refine call_i (run_V (cc := cX9_readsDay) (As := [.int 0]) (rest := []) hx hb hml hown hE hz (okX9_readsNumber X l hfl  hw) qw_2015 qw_2017 qw_65 qw_86 qw_2018 (myX9_readsNumber) ⟨Nat.le_of_ble_eq_true rfl, Nat.le_of_ble_eq_true rfl⟩ (rv_X9 hE hP rfl) hP hD hS rfl hl.1 rfl (Nat.le_of_ble_eq_true rfl) dX9_readsDay_38 ⟨Nat.le_of_ble_eq_true rfl, Nat.le_of_ble_eq_true rfl⟩) hS (fun r13 G12 H locs hw hP hD hS => ?_)
        refine lv_if_eq (tgt := 48) hx hb dX9_readsDay_41 (by decide) (fun c14 => ?_) (fun c14 => ?_)
        · replace hw := ite_t hw c14
          refine lv_iconst (v := 0) hx hb dX9_readsDay_48 (by decide) ?_
          exact end_i hx hb hr hlk (by decide) hw hP hD hS dX9_readsDay_49
        · replace hw := ite_f hw c14
          refine lv_iconst (v := 1) hx hb dX9_readsDay_44 (by decide) ?_
          refine lv_goto (tgt := 49) hx hb dX9_readsDay_45 (by decide) ?_
          exact end_i hx hb hr hlk (by decide) hw hP hD hS dX9_readsDay_49
    · replace hw := ite_t hw c6
      refine lv_iconst (v := 0) hx hb dX9_readsDay_18 (by decide) ?_
      exact end_i hx hb hr hlk (by decide) hw hP hD hS dX9_readsDay_19
