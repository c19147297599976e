def wlX9_doesAll_12 (post : Int32 → GS → Prop) : Nat → GS → Int32 → Prop
  | 0, _, _ => False
  | n + 1, G, v1 =>
    if v1 = 0 then
  post 1 G
else
  wpX9_readsCommand (fun (r5 : Int32) (G4 : GS) =>
    wpX9_notNow (fun (r7 : Int32) (G6 : GS) =>
      if r7 = 0 then
        wpX9_doesNow (fun (r10 : Int32) (G9 : GS) =>
          ∀ G11 : GS, G11 = gI G9 189 17 ((G9.1 189 17) + 1) →
            wpX9_reads (fun (r13 : Int32) (G12 : GS) =>
            wlX9_doesAll_12 post n G12 r13) 59 G11)  G6
      else
        post 0 G6)  G4)  G
def wpX9_doesAll (post : Int32 → GS → Prop) (G : GS) : Prop :=
  ∀ G1 : GS, G1 = gI G 189 17 0 →
  ∀ G2 : GS, G2 = gI G1 189 12 0 →
  ∃ nn, wlX9_doesAll_12 post nn G2 1
set_option maxHeartbeats 4000000 in
set_option maxRecDepth 100000 in
theorem okX9_doesAll (X : Cx) (l : Launch) (hfl : l.stackTraces = false) {post : Int32 → GS → Prop}  {G : GS}  (hw : wpX9_doesAll post G) : CT X l yX9_doesAll cX9_doesAll 2 (some FieldType.boolean) 8 0 0 [.ref (xa X 189)] G (Qi X post) := by
  refine mbegin (by decide) (Nat.le_of_ble_eq_true rfl) (fun p e s m below meth c hx hb hr hml hlk hown hE hz ls hl hP hD hS => ?_)
  have hl : lv_has ls 2 [(0, .ref (xa X 189))] := hl
  have hown : s.vm.findClass "FlyTreasuryModel" = some m.cls := hown
  have L12 : ∀ (n12 : Nat) (G : GS) (v1 : Int32) (H : Heap) (locs : List Loc) (ls : Array Slot), wlX9_doesAll_12 post n12 G v1 → va_P (xD X) vwCl (pool X G) H → va_D (xA X) (pool X G) → va_S (xA X) s.heap H locs → lv_has ls 2 [(0, .ref (xa X 189)), (1, .int v1)] → W p l e (rmL 8 0 0) s m [.ref (xa X 189)].toArray below meth c H locs 0 0 (MQ below (Qi X post) [.ref (xa X 189)].toArray s 0 0 (xA X)) (F0 m 12 ls []) := by
    intro n12
    induction n12 with
    | zero => intro G v1  H locs ls hw; exact hw.elim
    | succ n12 ih12 =>
      intro G v1  H locs ls hw hP hD hS hl
      rw [wlX9_doesAll_12] at hw
      refine lv_iload_n hx hb dX9_doesAll_12 rfl (lv_at hl 1 rfl) ?_
      refine lv_if_eq (tgt := 55) hx hb dX9_doesAll_13 (by decide) (fun c14 => ?_) (fun c14 => ?_)
      · replace hw := ite_t hw c14
        refine lv_iconst (v := 1) hx hb dX9_doesAll_55 (by decide) ?_
        exact end_i hx hb hr hlk (by decide) hw hP hD hS dX9_doesAll_56
      · replace hw := ite_f hw c14
        refine lv_aload_n hx hb dX9_doesAll_16 rfl (lv_at hl 0 rfl) ?_
        refine call_i (run_V (cc := cX9_doesAll) (As := []) (rest := []) hx hb hml hown hE hz (okX9_readsCommand X l hfl  hw) qw_1991 qw_1993 qw_59 qw_86 qw_1994 (myX9_readsCommand) ⟨Nat.le_of_ble_eq_true rfl, Nat.le_of_ble_eq_true rfl⟩ (rv_X9 hE hP rfl) hP hD hS rfl hl.1 rfl (Nat.le_of_ble_eq_true rfl) dX9_doesAll_17 ⟨Nat.le_of_ble_eq_true rfl, Nat.le_of_ble_eq_true rfl⟩) hS (fun r16 G15 H locs hw hP hD hS => ?_)
        refine lv_pop hx hb dX9_doesAll_20 rfl ?_
        refine lv_aload_n hx hb dX9_doesAll_21 rfl (lv_at hl 0 rfl) ?_
        refine call_i (run_V (cc := cX9_doesAll) (As := []) (rest := []) hx hb hml hown hE hz (okX9_notNow X l hfl  hw) qw_2035 qw_2037 qw_70 qw_86 qw_2038 (myX9_notNow) ⟨Nat.le_of_ble_eq_true rfl, Nat.le_of_ble_eq_true rfl⟩ (rv_X9 hE hP rfl) hP hD hS rfl hl.1 rfl (Nat.le_of_ble_eq_true rfl) dX9_doesAll_22 ⟨Nat.le_of_ble_eq_true rfl, Nat.le_of_ble_eq_true rfl⟩) hS (fun r18 G17 H locs hw hP hD hS => ?_)
        refine lv_if_eq (tgt := 30) hx hb dX9_doesAll_25 (by decide) (fun c19 => ?_) (fun c19 => ?_)
        · replace hw := ite_t hw c19
          refine lv_aload_n hx hb dX9_doesAll_30 rfl (lv_at hl 0 rfl) ?_
          refine call_i (run_V (cc := cX9_doesAll) (As := []) (rest := []) hx hb hml hown hE hz (okX9_doesNow X l hfl  hw) qw_2039 qw_2041 qw_71 qw_86 qw_2042 (myX9_doesNow) ⟨Nat.le_of_ble_eq_true rfl, Nat.le_of_ble_eq_true rfl⟩ (rv_X9 hE hP rfl) hP hD hS rfl hl.1 rfl (Nat.le_of_ble_eq_true rfl) dX9_doesAll_31 ⟨Nat.le_of_ble_eq_true rfl, Nat.le_of_ble_eq_true rfl⟩) hS (fun r21 G20 H locs hw hP hD hS => ?_)
          refine lv_pop hx hb dX9_doesAll_34 rfl ?_
          refine lv_aload_n hx hb dX9_doesAll_35 rfl (lv_at hl 0 rfl) ?_
          refine lv_dup hx hb dX9_doesAll_36 rfl ?_
          refine gf_X9_17 hx hb hE hP hown rfl (hE.w qw_1587 rfl _) dX9_doesAll_37 ?_
          refine lv_iconst (v := 1) hx hb dX9_doesAll_40 (by decide) ?_
          refine lv_iadd hx hb dX9_doesAll_41 ?_
          refine pf_X9_17 hx hb hE hP hD hS hown rfl (hE.w qw_1587 rfl _) dX9_doesAll_42 (fun G22 H locs eG22 hP hD hS => ?_)
          replace hw := hw G22 eG22
          refine lv_aload_n hx hb dX9_doesAll_45 rfl (lv_at hl 0 rfl) ?_
          refine lv_bipush (v := 59) hx hb dX9_doesAll_46 (by decide) ?_
          refine call_i (run_V (cc := cX9_doesAll) (As := [.int 59]) (rest := []) hx hb hml hown hE hz (okX9_reads X l hfl  hw) qw_1999 qw_2001 qw_61 qw_86 qw_2002 (myX9_reads) ⟨Nat.le_of_ble_eq_true rfl, Nat.le_of_ble_eq_true rfl⟩ (rv_X9 hE hP rfl) hP hD hS rfl hl.1 rfl (Nat.le_of_ble_eq_true rfl) dX9_doesAll_48 ⟨Nat.le_of_ble_eq_true rfl, Nat.le_of_ble_eq_true rfl⟩) hS (fun r24 G23 H locs hw hP hD hS => ?_)
          refine lv_istore_n (lv' := [(1, .int r24), (0, .ref (xa X 189))]) hx hb dX9_doesAll_51 rfl hl (by decide) rfl (fun ls hl => ?_)
          refine lv_goto (tgt := 12) hx hb dX9_doesAll_52 (by decide) ?_
          exact ih12 G23 r24  _ _ _ hw hP hD hS (lv_sub hl [1, 0] rfl)
        · replace hw := ite_f hw c19
          refine lv_iconst (v := 0) hx hb dX9_doesAll_28 (by decide) ?_
          exact end_i hx hb hr hlk (by decide) hw hP hD hS dX9_doesAll_29
  unfold wpX9_doesAll at hw
  refine lv_aload_n hx hb dX9_doesAll_0 rfl (lv_at hl 0 rfl) ?_
  refine lv_iconst (v := 0) hx hb dX9_doesAll_1 (by decide) ?_
  refine pf_X9_17 hx hb hE hP hD hS hown rfl (hE.w qw_1587 rfl _) dX9_doesAll_2 (fun G1 H locs eG1 hP hD hS => ?_)
  replace hw := hw G1 eG1
  refine lv_aload_n hx hb dX9_doesAll_5 rfl (lv_at hl 0 rfl) ?_
  refine lv_iconst (v := 0) hx hb dX9_doesAll_6 (by decide) ?_
  refine pf_X9_12 hx hb hE hP hD hS hown rfl (hE.w qw_1582 rfl _) dX9_doesAll_7 (fun G2 H locs eG2 hP hD hS => ?_)
  replace hw := hw G2 eG2
  refine lv_iconst (v := 1) hx hb dX9_doesAll_10 (by decide) ?_
  refine lv_istore_n (lv' := [(1, .int 1), (0, .ref (xa X 189))]) hx hb dX9_doesAll_11 rfl hl (by decide) rfl (fun ls hl => ?_)
  obtain ⟨nn, hw⟩ := hw
  exact L12 nn G2 1  _ _ _ hw hP hD hS (lv_sub hl [1, 0] rfl)
def wpX9_runScript (post : Int32 → GS → Prop) (G : GS) : Prop :=
  ∀ G1 : GS, G1 = gI G 189 0 0 →
  wpX9_readsAll (fun (r3 : Int32) (G2 : GS) =>
  if r3 = 0 then
    ∀ G15 : GS, G15 = gI G2 189 13 (G2.1 189 12) →
      ∀ G16 : GS, G16 = gI G15 189 11 0 →
      wpX9_fails (fun (r18 : Int32) (G17 : GS) =>
      post r18 G17) 1 G16
  else
    wpX9_copies (fun (G5 : GS) =>
      wpX9_doesAll (fun (r7 : Int32) (G6 : GS) =>
        ∀ G8 : GS, G8 = gI G6 189 11 0 →
          if r7 = 0 then
          wpX9_goesBack (fun (G10 : GS) =>
            ∀ G11 : GS, G11 = gI G10 189 14 (G10.1 189 17) →
              wpX9_fails (fun (r13 : Int32) (G12 : GS) =>
              post r13 G12) 2 G11)  G8
        else
          wpX9_keeps (fun (G14 : GS) =>
            post (G14.1 189 17) G14)  G8)  G5)  G2)  G1
set_option maxHeartbeats 4000000 in
set_option maxRecDepth 100000 in
theorem okX9_runScript (X : Cx) (l : Launch) (hfl : l.stackTraces = false) {post : Int32 → GS → Prop}  {G : GS}  (hw : wpX9_runScript post G) : CT X l yX9_runScript cX9_runScript 2 (some FieldType.int) 9 0 0 [.ref (xa X 189)] G (Qi X post) := by
  refine mbegin (by decide) (Nat.le_of_ble_eq_true rfl) (fun p e s m below meth c hx hb hr hml hlk hown hE hz ls hl hP hD hS => ?_)
  have hl : lv_has ls 2 [(0, .ref (xa X 189))] := hl
  have hown : s.vm.findClass "FlyTreasuryModel" = some m.cls := hown
  unfold wpX9_runScript at hw
  refine lv_aload_n hx hb dX9_runScript_0 rfl (lv_at hl 0 rfl) ?_
  refine lv_iconst (v := 0) hx hb dX9_runScript_1 (by decide) ?_
  refine pf_X9_0 hx hb hE hP hD hS hown rfl (hE.w qw_1570 rfl _) dX9_runScript_2 (fun G1 H locs eG1 hP hD hS => ?_)
  replace hw := hw G1 eG1
  refine lv_aload_n hx hb dX9_runScript_5 rfl (lv_at hl 0 rfl) ?_
  refine call_i (run_V (cc := cX9_runScript) (As := []) (rest := []) hx hb hml hown hE hz (okX9_readsAll X l hfl  hw) qw_1987 qw_1989 qw_58 qw_86 qw_1990 (myX9_readsAll) ⟨Nat.le_of_ble_eq_true rfl, Nat.le_of_ble_eq_true rfl⟩ (rv_X9 hE hP rfl) hP hD hS rfl hl.1 rfl (Nat.le_of_ble_eq_true rfl) dX9_runScript_6 ⟨Nat.le_of_ble_eq_true rfl, Nat.le_of_ble_eq_true rfl⟩) hS (fun r3 G2 H locs hw hP hD hS => ?_)
  refine lv_if_ne (tgt := 31) hx hb dX9_runScript_9 (by decide) (fun c4 => ?_) (fun c4 => ?_)
  · replace hw := ite_f hw c4
    refine lv_aload_n hx hb dX9_runScript_31 rfl (lv_at hl 0 rfl) ?_
    refine call_v (run_V (cc := cX9_runScript) (As := []) (rest := []) hx hb hml hown hE hz (okX9_copies X l hfl  hw) qw_1644 qw_1646 qw_22 qw_86 qw_1647 (myX9_copies) ⟨Nat.le_of_ble_eq_true rfl, Nat.le_of_ble_eq_true rfl⟩ (rv_X9 hE hP rfl) hP hD hS rfl hl.1 rfl (Nat.le_of_ble_eq_true rfl) dX9_runScript_32 ⟨Nat.le_of_ble_eq_true rfl, Nat.le_of_ble_eq_true rfl⟩) hS (fun G5 H locs hw hP hD hS => ?_)
    refine lv_aload_n hx hb dX9_runScript_35 rfl (lv_at hl 0 rfl) ?_
    refine call_i (run_V (cc := cX9_runScript) (As := []) (rest := []) hx hb hml hown hE hz (okX9_doesAll X l hfl  hw) qw_2031 qw_2033 qw_69 qw_86 qw_2034 (myX9_doesAll) ⟨Nat.le_of_ble_eq_true rfl, Nat.le_of_ble_eq_true rfl⟩ (rv_X9 hE hP rfl) hP hD hS rfl hl.1 rfl (Nat.le_of_ble_eq_true rfl) dX9_runScript_36 ⟨Nat.le_of_ble_eq_true rfl, Nat.le_of_ble_eq_true rfl⟩) hS (fun r7 G6 H locs hw hP hD hS => ?_)
    refine lv_istore_n (lv' := [(1, .int r7), (0, .ref (xa X 189))]) hx hb dX9_runScript_39 rfl hl (by decide) rfl (fun ls hl => ?_)
    refine lv_aload_n hx hb dX9_runScript_40 rfl (lv_at hl 1 rfl) ?_
    refine lv_iconst (v := 0) hx hb dX9_runScript_41 (by decide) ?_
    refine pf_X9_11 hx hb hE hP hD hS hown rfl (hE.w qw_1581 rfl _) dX9_runScript_42 (fun G8 H locs eG8 hP hD hS => ?_)
    replace hw := hw G8 eG8
    refine lv_iload_n hx hb dX9_runScript_45 rfl (lv_at hl 0 rfl) ?_
    refine lv_if_eq (tgt := 58) hx hb dX9_runScript_46 (by decide) (fun c9 => ?_) (fun c9 => ?_)
    · replace hw := ite_t hw c9
      refine lv_aload_n hx hb dX9_runScript_58 rfl (lv_at hl 1 rfl) ?_
      refine call_v (run_V (cc := cX9_runScript) (As := []) (rest := []) hx hb hml hown hE hz (okX9_goesBack X l hfl  hw) qw_2043 qw_2045 qw_72 qw_86 qw_2046 (myX9_goesBack) ⟨Nat.le_of_ble_eq_true rfl, Nat.le_of_ble_eq_true rfl⟩ (rv_X9 hE hP rfl) hP hD hS rfl hl.1 rfl (Nat.le_of_ble_eq_true rfl) dX9_runScript_59 ⟨Nat.le_of_ble_eq_true rfl, Nat.le_of_ble_eq_true rfl⟩) hS (fun G10 H locs hw hP hD hS => ?_)
      refine lv_aload_n hx hb dX9_runScript_62 rfl (lv_at hl 1 rfl) ?_
      refine lv_aload_n hx hb dX9_runScript_63 rfl (lv_at hl 1 rfl) ?_
      refine gf_X9_17 hx hb hE hP hown rfl (hE.w qw_1587 rfl _) dX9_runScript_64 ?_
      refine pf_X9_14 hx hb hE hP hD hS hown rfl (hE.w qw_1584 rfl _) dX9_runScript_67 (fun G11 H locs eG11 hP hD hS => ?_)
      replace hw := hw G11 eG11
      refine lv_aload_n hx hb dX9_runScript_70 rfl (lv_at hl 1 rfl) ?_
      refine lv_iconst (v := 2) hx hb dX9_runScript_71 (by decide) ?_
      refine call_i (run_V (cc := cX9_runScript) (As := [.int 2]) (rest := []) hx hb hml hown hE hz (okX9_fails X l hfl  hw) qw_1636 qw_1638 qw_20 qw_86 qw_1639 (myX9_fails) ⟨Nat.le_of_ble_eq_true rfl, Nat.le_of_ble_eq_true rfl⟩ (rv_X9 hE hP rfl) hP hD hS rfl hl.1 rfl (Nat.le_of_ble_eq_true rfl) dX9_runScript_72 ⟨Nat.le_of_ble_eq_true rfl, Nat.le_of_ble_eq_true rfl⟩) hS (fun r13 G12 H locs hw hP hD hS => ?_)
      exact end_i hx hb hr hlk rfl hw hP hD hS dX9_runScript_75
    · replace hw := ite_f hw c9
      refine lv_aload_n hx hb dX9_runScript_49 rfl (lv_at hl 1 rfl) ?_
      refine call_v (run_V (cc := cX9_runScript) (As := []) (rest := []) hx hb hml hown hE hz (okX9_keeps X l hfl  hw) qw_1648 qw_1650 qw_23 qw_86 qw_1651 (myX9_keeps) ⟨Nat.le_of_ble_eq_true rfl, Nat.le_of_ble_eq_true rfl⟩ (rv_X9 hE hP rfl) hP hD hS rfl hl.1 rfl (Nat.le_of_ble_eq_true rfl) dX9_runScript_50 ⟨Nat.le_of_ble_eq_true rfl, Nat.le_of_ble_eq_true rfl⟩) hS (fun G14 H locs hw hP hD hS => ?_)
      refine lv_aload_n hx hb dX9_runScript_53 rfl (lv_at hl 1 rfl) ?_
      refine gf_X9_17 hx hb hE hP hown rfl (hE.w qw_1587 rfl _) dX9_runScript_54 ?_
      exact end_i hx hb hr hlk rfl hw hP hD hS dX9_runScript_57
  · replace hw := ite_t hw c4
    refine lv_aload_n hx hb dX9_runScript_12 rfl (lv_at hl 0 rfl) ?_
    refine lv_aload_n hx hb dX9_runScript_13 rfl (lv_at hl 0 rfl) ?_
    refine gf_X9_12 hx hb hE hP hown rfl (hE.w qw_1582 rfl _) dX9_runScript_14 ?_
    refine pf_X9_13 hx hb hE hP hD hS hown rfl (hE.w qw_1583 rfl _) dX9_runScript_17 (fun G15 H locs eG15 hP hD hS => ?_)
    replace hw := hw G15 eG15
    refine lv_aload_n hx hb dX9_runScript_20 rfl (lv_at hl 0 rfl) ?_
    refine lv_iconst (v := 0) hx hb dX9_runScript_21 (by decide) ?_
    refine pf_X9_11 hx hb hE hP hD hS hown rfl (hE.w qw_1581 rfl _) dX9_runScript_22 (fun G16 H locs eG16 hP hD hS => ?_)
    replace hw := hw G16 eG16
    refine lv_aload_n hx hb dX9_runScript_25 rfl (lv_at hl 0 rfl) ?_
    refine lv_iconst (v := 1) hx hb dX9_runScript_26 (by decide) ?_
    refine call_i (run_V (cc := cX9_runScript) (As := [.int 1]) (rest := []) hx hb hml hown hE hz (okX9_fails X l hfl  hw) qw_1636 qw_1638 qw_20 qw_86 qw_1639 (myX9_fails) ⟨Nat.le_of_ble_eq_true rfl, Nat.le_of_ble_eq_true rfl⟩ (rv_X9 hE hP rfl) hP hD hS rfl hl.1 rfl (Nat.le_of_ble_eq_true rfl) dX9_runScript_27 ⟨Nat.le_of_ble_eq_true rfl, Nat.le_of_ble_eq_true rfl⟩) hS (fun r18 G17 H locs hw hP hD hS => ?_)
    exact end_i hx hb hr hlk rfl hw hP hD hS dX9_runScript_30
def wpX9_errorPosition (post : Int32 → GS → Prop) (G : GS) : Prop :=
  ∀ G1 : GS, G1 = gI G 189 0 0 →
  if 0 ≤ (G1.1 189 13) then
  post (G1.1 189 13) G1
else
  wpX9_fails (fun (r4 : Int32) (G3 : GS) =>
    post r4 G3) 1 G1
set_option maxHeartbeats 4000000 in
set_option maxRecDepth 100000 in
theorem okX9_errorPosition (X : Cx) (l : Launch) (hfl : l.stackTraces = false) {post : Int32 → GS → Prop}  {G : GS}  (hw : wpX9_errorPosition post G) : CT X l yX9_errorPosition cX9_errorPosition 1 (some FieldType.int) 2 0 0 [.ref (xa X 189)] G (Qi X post) := by
  refine mbegin (by decide) (Nat.le_of_ble_eq_true rfl) (fun p e s m below meth c hx hb hr hml hlk hown hE hz ls hl hP hD hS => ?_)
  have hl : lv_has ls 1 [(0, .ref (xa X 189))] := hl
  have hown : s.vm.findClass "FlyTreasuryModel" = some m.cls := hown
  unfold wpX9_errorPosition at hw
  refine lv_aload_n hx hb dX9_errorPosition_0 rfl (lv_at hl 0 rfl) ?_
  refine lv_iconst (v := 0) hx hb dX9_errorPosition_1 (by decide) ?_
  refine pf_X9_0 hx hb hE hP hD hS hown rfl (hE.w qw_1570 rfl _) dX9_errorPosition_2 (fun G1 H locs eG1 hP hD hS => ?_)
  replace hw := hw G1 eG1
  refine lv_aload_n hx hb dX9_errorPosition_5 rfl (lv_at hl 0 rfl) ?_
  refine gf_X9_13 hx hb hE hP hown rfl (hE.w qw_1583 rfl _) dX9_errorPosition_6 ?_
  refine lv_if_ge (tgt := 20) hx hb dX9_errorPosition_9 (by decide) (fun c2 => ?_) (fun c2 => ?_)
  · replace hw := ite_t hw c2
    refine lv_aload_n hx hb dX9_errorPosition_20 rfl (lv_at hl 0 rfl) ?_
    refine gf_X9_13 hx hb hE hP hown rfl (hE.w qw_1583 rfl _) dX9_errorPosition_21 ?_
    exact end_i hx hb hr hlk rfl hw hP hD hS dX9_errorPosition_24
  · replace hw := ite_f hw c2
    refine lv_aload_n hx hb dX9_errorPosition_12 rfl (lv_at hl 0 rfl) ?_
    refine lv_iconst (v := 1) hx hb dX9_errorPosition_13 (by decide) ?_
    refine call_i (run_V (cc := cX9_errorPosition) (As := [.int 1]) (rest := []) hx hb hml hown hE hz (okX9_fails X l hfl  hw) qw_1636 qw_1638 qw_20 qw_86 qw_1639 (myX9_fails) ⟨Nat.le_of_ble_eq_true rfl, Nat.le_of_ble_eq_true rfl⟩ (rv_X9 hE hP rfl) hP hD hS rfl hl.1 rfl (Nat.le_of_ble_eq_true rfl) dX9_errorPosition_14 ⟨Nat.le_of_ble_eq_true rfl, Nat.le_of_ble_eq_true rfl⟩) hS (fun r4 G3 H locs hw hP hD hS => ?_)
    refine lv_goto (tgt := 24) hx hb dX9_errorPosition_17 (by decide) ?_
    exact end_i hx hb hr hlk rfl hw hP hD hS dX9_errorPosition_24
def wpX9_failedCommand (post : Int32 → GS → Prop) (G : GS) : Prop :=
  ∀ G1 : GS, G1 = gI G 189 0 0 →
  if 0 ≤ (G1.1 189 14) then
  post (G1.1 189 14) G1
else
  wpX9_fails (fun (r4 : Int32) (G3 : GS) =>
    post r4 G3) 1 G1
set_option maxHeartbeats 4000000 in
set_option maxRecDepth 100000 in
theorem okX9_failedCommand (X : Cx) (l : Launch) (hfl : l.stackTraces = false) {post : Int32 → GS → Prop}  {G : GS}  (hw : wpX9_failedCommand post G) : CT X l yX9_failedCommand cX9_failedCommand 1 (some FieldType.int) 2 0 0 [.ref (xa X 189)] G (Qi X post) := by
  refine mbegin (by decide) (Nat.le_of_ble_eq_true rfl) (fun p e s m below meth c hx hb hr hml hlk hown hE hz ls hl hP hD hS => ?_)
  have hl : lv_has ls 1 [(0, .ref (xa X 189))] := hl
  have hown : s.vm.findClass "FlyTreasuryModel" = some m.cls := hown
  unfold wpX9_failedCommand at hw
  refine lv_aload_n hx hb dX9_failedCommand_0 rfl (lv_at hl 0 rfl) ?_
  refine lv_iconst (v := 0) hx hb dX9_failedCommand_1 (by decide) ?_
  refine pf_X9_0 hx hb hE hP hD hS hown rfl (hE.w qw_1570 rfl _) dX9_failedCommand_2 (fun G1 H locs eG1 hP hD hS => ?_)
  replace hw := hw G1 eG1
  refine lv_aload_n hx hb dX9_failedCommand_5 rfl (lv_at hl 0 rfl) ?_
  refine gf_X9_14 hx hb hE hP hown rfl (hE.w qw_1584 rfl _) dX9_failedCommand_6 ?_
  refine lv_if_ge (tgt := 20) hx hb dX9_failedCommand_9 (by decide) (fun c2 => ?_) (fun c2 => ?_)
  · replace hw := ite_t hw c2
    refine lv_aload_n hx hb dX9_failedCommand_20 rfl (lv_at hl 0 rfl) ?_
    refine gf_X9_14 hx hb hE hP hown rfl (hE.w qw_1584 rfl _) dX9_failedCommand_21 ?_
    exact end_i hx hb hr hlk rfl hw hP hD hS dX9_failedCommand_24
  · replace hw := ite_f hw c2
    refine lv_aload_n hx hb dX9_failedCommand_12 rfl (lv_at hl 0 rfl) ?_
    refine lv_iconst (v := 1) hx hb dX9_failedCommand_13 (by decide) ?_
    refine call_i (run_V (cc := cX9_failedCommand) (As := [.int 1]) (rest := []) hx hb hml hown hE hz (okX9_fails X l hfl  hw) qw_1636 qw_1638 qw_20 qw_86 qw_1639 (myX9_fails) ⟨Nat.le_of_ble_eq_true rfl, Nat.le_of_ble_eq_true rfl⟩ (rv_X9 hE hP rfl) hP hD hS rfl hl.1 rfl (Nat.le_of_ble_eq_true rfl) dX9_failedCommand_14 ⟨Nat.le_of_ble_eq_true rfl, Nat.le_of_ble_eq_true rfl⟩) hS (fun r4 G3 H locs hw hP hD hS => ?_)
    refine lv_goto (tgt := 24) hx hb dX9_failedCommand_17 (by decide) ?_
    exact end_i hx hb hr hlk rfl hw hP hD hS dX9_failedCommand_24
def wlX9_undo_43 (post : Int32 → GS → Prop) : Nat → GS → Int32 → Int32 → Prop
  | 0, _, _, _ => False
  | n + 1, G, v1, v2 =>
    if 56 ≤ v2 then
  post (G.1 189 5) G
else
  vp_in ((56 * v1) + v2) (ln 191) ∧
    vp_in v2 (ln 190) ∧ ∀ G9 : GS, G9 = gI G 190 v2.toNatClampNeg (G.1 191 ((56 * v1) + v2).toNatClampNeg) →
    ∀ z10 : Int32, z10 = v2 + 1 →
    wlX9_undo_43 post n G9 v1 z10
def wpX9_undo (post : Int32 → GS → Prop) (G : GS) : Prop :=
  ∀ G1 : GS, G1 = gI G 189 0 0 →
  if (G1.1 189 5) = 0 then
  wpX9_fails (fun (r17 : Int32) (G16 : GS) =>
    post r17 G16) 1 G1
else
  ∀ G3 : GS, G3 = gI G1 189 5 ((G1.1 189 5) - 1) →
    ∀ z5 : Int32, z5 = (((G3.1 189 6) + (G3.1 189 5)) - ((G3.1 189 6) + (G3.1 189 5)) / 8 * 8) →
    ∃ nn, wlX9_undo_43 post nn G3 z5 0
set_option maxHeartbeats 4000000 in
set_option maxRecDepth 100000 in
theorem okX9_undo (X : Cx) (l : Launch) (hfl : l.stackTraces = false) {post : Int32 → GS → Prop}  {G : GS}  (hw : wpX9_undo post G) : CT X l yX9_undo cX9_undo 3 (some FieldType.int) 2 0 0 [.ref (xa X 189)] G (Qi X post) := by
  refine mbegin (by decide) (Nat.le_of_ble_eq_true rfl) (fun p e s m below meth c hx hb hr hml hlk hown hE hz ls hl hP hD hS => ?_)
  have hl : lv_has ls 3 [(0, .ref (xa X 189))] := hl
  have hown : s.vm.findClass "FlyTreasuryModel" = some m.cls := hown
  have L43 : ∀ (n43 : Nat) (G : GS) (v1 : Int32) (v2 : Int32) (H : Heap) (locs : List Loc) (ls : Array Slot), wlX9_undo_43 post n43 G v1 v2 → va_P (xD X) vwCl (pool X G) H → va_D (xA X) (pool X G) → va_S (xA X) s.heap H locs → lv_has ls 3 [(0, .ref (xa X 189)), (1, .int v1), (2, .int v2)] → W p l e (rmL 2 0 0) s m [.ref (xa X 189)].toArray below meth c H locs 0 0 (MQ below (Qi X post) [.ref (xa X 189)].toArray s 0 0 (xA X)) (F0 m 43 ls []) := by
    intro n43
    induction n43 with
    | zero => intro G v1 v2  H locs ls hw; exact hw.elim
    | succ n43 ih43 =>
      intro G v1 v2  H locs ls hw hP hD hS hl
      rw [wlX9_undo_43] at hw
      refine lv_iload_n hx hb dX9_undo_43 rfl (lv_at hl 2 rfl) ?_
      refine lv_bipush (v := 56) hx hb dX9_undo_44 (by decide) ?_
      refine lv_icmp_ge (tgt := 72) hx hb dX9_undo_46 (by decide) (fun c11 => ?_) (fun c11 => ?_)
      · replace hw := ite_t hw c11
        refine lv_aload_n hx hb dX9_undo_72 rfl (lv_at hl 0 rfl) ?_
        refine gf_X9_5 hx hb hE hP hown rfl (hE.w qw_1575 rfl _) dX9_undo_73 ?_
        exact end_i hx hb hr hlk rfl hw hP hD hS dX9_undo_76
      · replace hw := ite_f hw c11
        refine lv_aload_n hx hb dX9_undo_49 rfl (lv_at hl 0 rfl) ?_
        refine gf_X9_1 hx hb hE hP hown rfl (hE.w qw_1571 rfl _) dX9_undo_50 ?_
        refine lv_iload_n hx hb dX9_undo_53 rfl (lv_at hl 2 rfl) ?_
        refine lv_aload_n hx hb dX9_undo_54 rfl (lv_at hl 0 rfl) ?_
        refine gf_X9_2 hx hb hE hP hown rfl (hE.w qw_1572 rfl _) dX9_undo_55 ?_
        refine lv_bipush (v := 56) hx hb dX9_undo_58 (by decide) ?_
        refine lv_iload_n hx hb dX9_undo_60 rfl (lv_at hl 1 rfl) ?_
        refine lv_imul hx hb dX9_undo_61 ?_
        refine lv_iload_n hx hb dX9_undo_62 rfl (lv_at hl 2 rfl) ?_
        refine lv_iadd hx hb dX9_undo_63 ?_
        obtain ⟨y12, hw⟩ := hw
        refine ald_2 hx hb hE hP rfl y12 dX9_undo_64 ?_
        obtain ⟨y13, hw⟩ := hw
        refine ast_2 hx hb hE hP hD hS rfl y13 dX9_undo_65 (fun G14 H locs eG14 hP hD hS => ?_)
        replace hw := hw G14 eG14
        obtain ⟨z15, ez15⟩ : ∃ y : Int32, y = v2 + 1 := ⟨_, rfl⟩
        replace hw := hw z15 ez15
        refine lv_iinc (v := z15) (lv' := [(2, .int z15), (0, .ref (xa X 189)), (1, .int v1)]) hx hb dX9_undo_66 hl (k := 2) rfl (by rw [ez15]; rfl) (by decide) rfl (fun ls hl => ?_)
        refine lv_goto (tgt := 43) hx hb dX9_undo_69 (by decide) ?_
        exact ih43 G14 v1 z15  _ _ _ hw hP hD hS (lv_sub hl [1, 2, 0] rfl)
  unfold wpX9_undo at hw
  refine lv_aload_n hx hb dX9_undo_0 rfl (lv_at hl 0 rfl) ?_
  refine lv_iconst (v := 0) hx hb dX9_undo_1 (by decide) ?_
  refine pf_X9_0 hx hb hE hP hD hS hown rfl (hE.w qw_1570 rfl _) dX9_undo_2 (fun G1 H locs eG1 hP hD hS => ?_)
  replace hw := hw G1 eG1
  refine lv_aload_n hx hb dX9_undo_5 rfl (lv_at hl 0 rfl) ?_
  refine gf_X9_5 hx hb hE hP hown rfl (hE.w qw_1575 rfl _) dX9_undo_6 ?_
  refine lv_if_ne (tgt := 18) hx hb dX9_undo_9 (by decide) (fun c2 => ?_) (fun c2 => ?_)
  · replace hw := ite_f hw c2
    refine lv_aload_n hx hb dX9_undo_18 rfl (lv_at hl 0 rfl) ?_
    refine lv_dup hx hb dX9_undo_19 rfl ?_
    refine gf_X9_5 hx hb hE hP hown rfl (hE.w qw_1575 rfl _) dX9_undo_20 ?_
    refine lv_iconst (v := 1) hx hb dX9_undo_23 (by decide) ?_
    refine lv_isub hx hb dX9_undo_24 ?_
    refine pf_X9_5 hx hb hE hP hD hS hown rfl (hE.w qw_1575 rfl _) dX9_undo_25 (fun G3 H locs eG3 hP hD hS => ?_)
    replace hw := hw G3 eG3
    refine lv_aload_n hx hb dX9_undo_28 rfl (lv_at hl 0 rfl) ?_
    refine gf_X9_6 hx hb hE hP hown rfl (hE.w qw_1576 rfl _) dX9_undo_29 ?_
    refine lv_aload_n hx hb dX9_undo_32 rfl (lv_at hl 0 rfl) ?_
    refine gf_X9_5 hx hb hE hP hown rfl (hE.w qw_1575 rfl _) dX9_undo_33 ?_
    refine lv_iadd hx hb dX9_undo_36 ?_
    refine lv_bipush (v := 8) hx hb dX9_undo_37 (by decide) ?_
    refine lv_irem hx hb dX9_undo_39 (by decide) ?_
    refine lv_topi (fun z5 ez5 => ?_)
    replace hw := hw z5 ez5
    refine lv_istore_n (lv' := [(1, .int z5), (0, .ref (xa X 189))]) hx hb dX9_undo_40 rfl hl (by decide) rfl (fun ls hl => ?_)
    refine lv_iconst (v := 0) hx hb dX9_undo_41 (by decide) ?_
    refine lv_istore_n (lv' := [(2, .int 0), (1, .int z5), (0, .ref (xa X 189))]) hx hb dX9_undo_42 rfl hl (by decide) rfl (fun ls hl => ?_)
    obtain ⟨nn, hw⟩ := hw
    exact L43 nn G3 z5 0  _ _ _ hw hP hD hS (lv_sub hl [2, 1, 0] rfl)
  · replace hw := ite_t hw c2
    refine lv_aload_n hx hb dX9_undo_12 rfl (lv_at hl 0 rfl) ?_
    refine lv_iconst (v := 1) hx hb dX9_undo_13 (by decide) ?_
    refine call_i (run_V (cc := cX9_undo) (As := [.int 1]) (rest := []) hx hb hml hown hE hz (okX9_fails X l hfl  hw) qw_1636 qw_1638 qw_20 qw_86 qw_1639 (myX9_fails) ⟨Nat.le_of_ble_eq_true rfl, Nat.le_of_ble_eq_true rfl⟩ (rv_X9 hE hP rfl) hP hD hS rfl hl.1 rfl (Nat.le_of_ble_eq_true rfl) dX9_undo_14 ⟨Nat.le_of_ble_eq_true rfl, Nat.le_of_ble_eq_true rfl⟩) hS (fun r17 G16 H locs hw hP hD hS => ?_)
    exact end_i hx hb hr hlk rfl hw hP hD hS dX9_undo_17
def wlX9_save_7 (post : Int32 → GS → Prop) : Nat → GS → Int32 → Prop
  | 0, _, _ => False
  | n + 1, G, v1 =>
    if 56 ≤ v1 then
  ∀ G3 : GS, G3 = gI G 189 7 1 →
    vp_in 0 (ln 190) ∧
    post (G3.1 190 (0 : Int32).toNatClampNeg) G3
else
  vp_in v1 (ln 190) ∧
    vp_in v1 (ln 192) ∧ ∀ G7 : GS, G7 = gI G 192 v1.toNatClampNeg (G.1 190 v1.toNatClampNeg) →
    ∀ z8 : Int32, z8 = v1 + 1 →
    wlX9_save_7 post n G7 z8
def wpX9_save (post : Int32 → GS → Prop) (G : GS) : Prop :=
  ∀ G1 : GS, G1 = gI G 189 0 0 →
  ∃ nn, wlX9_save_7 post nn G1 0
set_option maxHeartbeats 4000000 in
set_option maxRecDepth 100000 in
theorem okX9_save (X : Cx) (l : Launch) (hfl : l.stackTraces = false) {post : Int32 → GS → Prop}  {G : GS}  (hw : wpX9_save post G) : CT X l yX9_save cX9_save 2 (some FieldType.int) 1 0 0 [.ref (xa X 189)] G (Qi X post) := by
  refine mbegin (by decide) (Nat.le_of_ble_eq_true rfl) (fun p e s m below meth c hx hb hr hml hlk hown hE hz ls hl hP hD hS => ?_)
  have hl : lv_has ls 2 [(0, .ref (xa X 189))] := hl
  have hown : s.vm.findClass "FlyTreasuryModel" = some m.cls := hown
  have L7 : ∀ (n7 : Nat) (G : GS) (v1 : Int32) (H : Heap) (locs : List Loc) (ls : Array Slot), wlX9_save_7 post n7 G v1 → va_P (xD X) vwCl (pool X G) H → va_D (xA X) (pool X G) → va_S (xA X) s.heap H locs → lv_has ls 2 [(0, .ref (xa X 189)), (1, .int v1)] → W p l e (rmL 1 0 0) s m [.ref (xa X 189)].toArray below meth c H locs 0 0 (MQ below (Qi X post) [.ref (xa X 189)].toArray s 0 0 (xA X)) (F0 m 7 ls []) := by
    intro n7
    induction n7 with
    | zero => intro G v1  H locs ls hw; exact hw.elim
    | succ n7 ih7 =>
      intro G v1  H locs ls hw hP hD hS hl
      rw [wlX9_save_7] at hw
      refine lv_iload_n hx hb dX9_save_7 rfl (lv_at hl 1 rfl) ?_
      refine lv_bipush (v := 56) hx hb dX9_save_8 (by decide) ?_
      refine lv_icmp_ge (tgt := 31) hx hb dX9_save_10 (by decide) (fun c9 => ?_) (fun c9 => ?_)
      · replace hw := ite_t hw c9
        refine lv_aload_n hx hb dX9_save_31 rfl (lv_at hl 0 rfl) ?_
        refine lv_iconst (v := 1) hx hb dX9_save_32 (by decide) ?_
        refine pf_X9_7 hx hb hE hP hD hS hown rfl (hE.w qw_1577 rfl _) (by decide) (by decide) dX9_save_33 (fun G10 H locs eG10 hP hD hS => ?_)
        replace hw := hw G10 eG10
        refine lv_aload_n hx hb dX9_save_36 rfl (lv_at hl 0 rfl) ?_
        refine gf_X9_1 hx hb hE hP hown rfl (hE.w qw_1571 rfl _) dX9_save_37 ?_
        refine lv_iconst (v := 0) hx hb dX9_save_40 (by decide) ?_
        obtain ⟨y11, hw⟩ := hw
        refine ald_2 hx hb hE hP rfl y11 dX9_save_41 ?_
        exact end_i hx hb hr hlk rfl hw hP hD hS dX9_save_42
      · replace hw := ite_f hw c9
        refine lv_aload_n hx hb dX9_save_13 rfl (lv_at hl 0 rfl) ?_
        refine gf_X9_3 hx hb hE hP hown rfl (hE.w qw_1573 rfl _) dX9_save_14 ?_
        refine lv_iload_n hx hb dX9_save_17 rfl (lv_at hl 1 rfl) ?_
        refine lv_aload_n hx hb dX9_save_18 rfl (lv_at hl 0 rfl) ?_
        refine gf_X9_1 hx hb hE hP hown rfl (hE.w qw_1571 rfl _) dX9_save_19 ?_
        refine lv_iload_n hx hb dX9_save_22 rfl (lv_at hl 1 rfl) ?_
        obtain ⟨y12, hw⟩ := hw
        refine ald_2 hx hb hE hP rfl y12 dX9_save_23 ?_
        obtain ⟨y13, hw⟩ := hw
        refine ast_2 hx hb hE hP hD hS rfl y13 dX9_save_24 (fun G14 H locs eG14 hP hD hS => ?_)
        replace hw := hw G14 eG14
        obtain ⟨z15, ez15⟩ : ∃ y : Int32, y = v1 + 1 := ⟨_, rfl⟩
        replace hw := hw z15 ez15
        refine lv_iinc (v := z15) (lv' := [(1, .int z15), (0, .ref (xa X 189))]) hx hb dX9_save_25 hl (k := 1) rfl (by rw [ez15]; rfl) (by decide) rfl (fun ls hl => ?_)
        refine lv_goto (tgt := 7) hx hb dX9_save_28 (by decide) ?_
        exact ih7 G14 z15  _ _ _ hw hP hD hS (lv_sub hl [1, 0] rfl)
  unfold wpX9_save at hw
  refine lv_aload_n hx hb dX9_save_0 rfl (lv_at hl 0 rfl) ?_
  refine lv_iconst (v := 0) hx hb dX9_save_1 (by decide) ?_
  refine pf_X9_0 hx hb hE hP hD hS hown rfl (hE.w qw_1570 rfl _) dX9_save_2 (fun G1 H locs eG1 hP hD hS => ?_)
  replace hw := hw G1 eG1
  refine lv_iconst (v := 0) hx hb dX9_save_5 (by decide) ?_
  refine lv_istore_n (lv' := [(1, .int 0), (0, .ref (xa X 189))]) hx hb dX9_save_6 rfl hl (by decide) rfl (fun ls hl => ?_)
  obtain ⟨nn, hw⟩ := hw
  exact L7 nn G1 0  _ _ _ hw hP hD hS (lv_sub hl [1, 0] rfl)
def wlX9_restore_20 (post : Int32 → GS → Prop) : Nat → GS → Int32 → Prop
  | 0, _, _ => False
  | n + 1, G, v1 =>
    if 56 ≤ v1 then
  ∀ G4 : GS, G4 = gI G 189 5 0 →
    ∀ G5 : GS, G5 = gI G4 189 6 0 →
    vp_in 0 (ln 190) ∧
    post (G5.1 190 (0 : Int32).toNatClampNeg) G5
else
  vp_in v1 (ln 192) ∧
    vp_in v1 (ln 190) ∧ ∀ G9 : GS, G9 = gI G 190 v1.toNatClampNeg (G.1 192 v1.toNatClampNeg) →
    ∀ z10 : Int32, z10 = v1 + 1 →
    wlX9_restore_20 post n G9 z10
def wpX9_restore (post : Int32 → GS → Prop) (G : GS) : Prop :=
  ∀ G1 : GS, G1 = gI G 189 0 0 →
  if (G1.1 189 7) = 0 then
  wpX9_fails (fun (r20 : Int32) (G19 : GS) =>
    post r20 G19) 1 G1
else
  ∃ nn, wlX9_restore_20 post nn G1 0
set_option maxHeartbeats 4000000 in
set_option maxRecDepth 100000 in
theorem okX9_restore (X : Cx) (l : Launch) (hfl : l.stackTraces = false) {post : Int32 → GS → Prop}  {G : GS}  (hw : wpX9_restore post G) : CT X l yX9_restore cX9_restore 2 (some FieldType.int) 2 0 0 [.ref (xa X 189)] G (Qi X post) := by
  refine mbegin (by decide) (Nat.le_of_ble_eq_true rfl) (fun p e s m below meth c hx hb hr hml hlk hown hE hz ls hl hP hD hS => ?_)
  have hl : lv_has ls 2 [(0, .ref (xa X 189))] := hl
  have hown : s.vm.findClass "FlyTreasuryModel" = some m.cls := hown
  have L20 : ∀ (n20 : Nat) (G : GS) (v1 : Int32) (H : Heap) (locs : List Loc) (ls : Array Slot), wlX9_restore_20 post n20 G v1 → va_P (xD X) vwCl (pool X G) H → va_D (xA X) (pool X G) → va_S (xA X) s.heap H locs → lv_has ls 2 [(0, .ref (xa X 189)), (1, .int v1)] → W p l e (rmL 2 0 0) s m [.ref (xa X 189)].toArray below meth c H locs 0 0 (MQ below (Qi X post) [.ref (xa X 189)].toArray s 0 0 (xA X)) (F0 m 20 ls []) := by
    intro n20
    induction n20 with
    | zero => intro G v1  H locs ls hw; exact hw.elim
    | succ n20 ih20 =>
      intro G v1  H locs ls hw hP hD hS hl
      rw [wlX9_restore_20] at hw
      refine lv_iload_n hx hb dX9_restore_20 rfl (lv_at hl 1 rfl) ?_
      refine lv_bipush (v := 56) hx hb dX9_restore_21 (by decide) ?_
      refine lv_icmp_ge (tgt := 44) hx hb dX9_restore_23 (by decide) (fun c11 => ?_) (fun c11 => ?_)
      · replace hw := ite_t hw c11
        refine lv_aload_n hx hb dX9_restore_44 rfl (lv_at hl 0 rfl) ?_
        refine lv_iconst (v := 0) hx hb dX9_restore_45 (by decide) ?_
        refine pf_X9_5 hx hb hE hP hD hS hown rfl (hE.w qw_1575 rfl _) dX9_restore_46 (fun G12 H locs eG12 hP hD hS => ?_)
        replace hw := hw G12 eG12
        refine lv_aload_n hx hb dX9_restore_49 rfl (lv_at hl 0 rfl) ?_
        refine lv_iconst (v := 0) hx hb dX9_restore_50 (by decide) ?_
        refine pf_X9_6 hx hb hE hP hD hS hown rfl (hE.w qw_1576 rfl _) dX9_restore_51 (fun G13 H locs eG13 hP hD hS => ?_)
        replace hw := hw G13 eG13
        refine lv_aload_n hx hb dX9_restore_54 rfl (lv_at hl 0 rfl) ?_
        refine gf_X9_1 hx hb hE hP hown rfl (hE.w qw_1571 rfl _) dX9_restore_55 ?_
        refine lv_iconst (v := 0) hx hb dX9_restore_58 (by decide) ?_
        obtain ⟨y14, hw⟩ := hw
        refine ald_2 hx hb hE hP rfl y14 dX9_restore_59 ?_
        exact end_i hx hb hr hlk rfl hw hP hD hS dX9_restore_60
      · replace hw := ite_f hw c11
        refine lv_aload_n hx hb dX9_restore_26 rfl (lv_at hl 0 rfl) ?_
        refine gf_X9_1 hx hb hE hP hown rfl (hE.w qw_1571 rfl _) dX9_restore_27 ?_
        refine lv_iload_n hx hb dX9_restore_30 rfl (lv_at hl 1 rfl) ?_
        refine lv_aload_n hx hb dX9_restore_31 rfl (lv_at hl 0 rfl) ?_
        refine gf_X9_3 hx hb hE hP hown rfl (hE.w qw_1573 rfl _) dX9_restore_32 ?_
        refine lv_iload_n hx hb dX9_restore_35 rfl (lv_at hl 1 rfl) ?_
        obtain ⟨y15, hw⟩ := hw
        refine ald_2 hx hb hE hP rfl y15 dX9_restore_36 ?_
        obtain ⟨y16, hw⟩ := hw
        refine ast_2 hx hb hE hP hD hS rfl y16 dX9_restore_37 (fun G17 H locs eG17 hP hD hS => ?_)
        replace hw := hw G17 eG17
        obtain ⟨z18, ez18⟩ : ∃ y : Int32, y = v1 + 1 := ⟨_, rfl⟩
        replace hw := hw z18 ez18
        refine lv_iinc (v := z18) (lv' := [(1, .int z18), (0, .ref (xa X 189))]) hx hb dX9_restore_38 hl (k := 1) rfl (by rw [ez18]; rfl) (by decide) rfl (fun ls hl => ?_)
        refine lv_goto (tgt := 20) hx hb dX9_restore_41 (by decide) ?_
        exact ih20 G17 z18  _ _ _ hw hP hD hS (lv_sub hl [1, 0] rfl)
  unfold wpX9_restore at hw
  refine lv_aload_n hx hb dX9_restore_0 rfl (lv_at hl 0 rfl) ?_
  refine lv_iconst (v := 0) hx hb dX9_restore_1 (by decide) ?_
  refine pf_X9_0 hx hb hE hP hD hS hown rfl (hE.w qw_1570 rfl _) dX9_restore_2 (fun G1 H locs eG1 hP hD hS => ?_)
  replace hw := hw G1 eG1
  refine lv_aload_n hx hb dX9_restore_5 rfl (lv_at hl 0 rfl) ?_
  refine gf_X9_7 hx hb hE hP hown rfl (hE.w qw_1577 rfl _) dX9_restore_6 ?_
  refine lv_if_ne (tgt := 18) hx hb dX9_restore_9 (by decide) (fun c2 => ?_) (fun c2 => ?_)
  · replace hw := ite_f hw c2
    refine lv_iconst (v := 0) hx hb dX9_restore_18 (by decide) ?_
    refine lv_istore_n (lv' := [(1, .int 0), (0, .ref (xa X 189))]) hx hb dX9_restore_19 rfl hl (by decide) rfl (fun ls hl => ?_)
    obtain ⟨nn, hw⟩ := hw
    exact L20 nn G1 0  _ _ _ hw hP hD hS (lv_sub hl [1, 0] rfl)
  · replace hw := ite_t hw c2
    refine lv_aload_n hx hb dX9_restore_12 rfl (lv_at hl 0 rfl) ?_
    refine lv_iconst (v := 1) hx hb dX9_restore_13 (by decide) ?_
    refine call_i (run_V (cc := cX9_restore) (As := [.int 1]) (rest := []) hx hb hml hown hE hz (okX9_fails X l hfl  hw) qw_1636 qw_1638 qw_20 qw_86 qw_1639 (myX9_fails) ⟨Nat.le_of_ble_eq_true rfl, Nat.le_of_ble_eq_true rfl⟩ (rv_X9 hE hP rfl) hP hD hS rfl hl.1 rfl (Nat.le_of_ble_eq_true rfl) dX9_restore_14 ⟨Nat.le_of_ble_eq_true rfl, Nat.le_of_ble_eq_true rfl⟩) hS (fun r20 G19 H locs hw hP hD hS => ?_)
    exact end_i hx hb hr hlk rfl hw hP hD hS dX9_restore_17
