def wpX9_addVault (post : Int32 → GS → Prop) (a1 : Int32) (G : GS) : Prop :=
  ∀ G1 : GS, G1 = gI G 189 0 0 →
  wpX9_notVault (fun (r3 : Int32) (G2 : GS) =>
  if r3 = 0 then
    wpX9_remembers (fun (G5 : GS) =>
      wpX9_addsVault (fun (r7 : Int32) (G6 : GS) =>
        post r7 G6) a1 G5)  G2
  else
    wpX9_fails (fun (r9 : Int32) (G8 : GS) =>
      post r9 G8) r3 G2) a1 G1
set_option maxHeartbeats 4000000 in
set_option maxRecDepth 100000 in
theorem okX9_addVault (X : Cx) (l : Launch) (hfl : l.stackTraces = false) {post : Int32 → GS → Prop} {a1 : Int32} {G : GS}  (hw : wpX9_addVault post a1 G) : CT X l yX9_addVault cX9_addVault 3 (some FieldType.int) 3 0 0 [.ref (xa X 189), .int a1] G (Qi X post) := by
  refine mbegin (by decide) (Nat.le_of_ble_eq_true rfl) (fun p e s m below meth c hx hb hr hml hlk hown hE hz ls hl hP hD hS => ?_)
  have hl : lv_has ls 3 [(0, .ref (xa X 189)), (1, .int a1)] := hl
  have hown : s.vm.findClass "FlyTreasuryModel" = some m.cls := hown
  unfold wpX9_addVault at hw
  refine lv_aload_n hx hb dX9_addVault_0 rfl (lv_at hl 0 rfl) ?_
  refine lv_iconst (v := 0) hx hb dX9_addVault_1 (by decide) ?_
  refine pf_X9_0 hx hb hE hP hD hS hown rfl (hE.w qw_1570 rfl _) dX9_addVault_2 (fun G1 H locs eG1 hP hD hS => ?_)
  replace hw := hw G1 eG1
  refine lv_aload_n hx hb dX9_addVault_5 rfl (lv_at hl 0 rfl) ?_
  refine lv_iload_n hx hb dX9_addVault_6 rfl (lv_at hl 1 rfl) ?_
  refine call_i (run_V (cc := cX9_addVault) (As := [.int a1]) (rest := []) hx hb hml hown hE hz (okX9_notVault X l hfl  hw) qw_1629 qw_1631 qw_19 qw_86 qw_1632 (myX9_notVault) ⟨Nat.le_of_ble_eq_true rfl, Nat.le_of_ble_eq_true rfl⟩ (rv_X9 hE hP rfl) hP hD hS rfl hl.1 rfl (Nat.le_of_ble_eq_true rfl) dX9_addVault_7 ⟨Nat.le_of_ble_eq_true rfl, Nat.le_of_ble_eq_true rfl⟩) hS (fun r3 G2 H locs hw hP hD hS => ?_)
  refine lv_istore_n (lv' := [(2, .int r3), (0, .ref (xa X 189)), (1, .int a1)]) hx hb dX9_addVault_10 rfl hl (by decide) rfl (fun ls hl => ?_)
  refine lv_iload_n hx hb dX9_addVault_11 rfl (lv_at hl 0 rfl) ?_
  refine lv_if_eq (tgt := 21) hx hb dX9_addVault_12 (by decide) (fun c4 => ?_) (fun c4 => ?_)
  · replace hw := ite_t hw c4
    refine lv_aload_n hx hb dX9_addVault_21 rfl (lv_at hl 1 rfl) ?_
    refine call_v (run_V (cc := cX9_addVault) (As := []) (rest := []) hx hb hml hown hE hz (okX9_remembers X l hfl  hw) qw_1640 qw_1642 qw_21 qw_86 qw_1643 (myX9_remembers) ⟨Nat.le_of_ble_eq_true rfl, Nat.le_of_ble_eq_true rfl⟩ (rv_X9 hE hP rfl) hP hD hS rfl hl.1 rfl (Nat.le_of_ble_eq_true rfl) dX9_addVault_22 ⟨Nat.le_of_ble_eq_true rfl, Nat.le_of_ble_eq_true rfl⟩) hS (fun G5 H locs hw hP hD hS => ?_)
    refine lv_aload_n hx hb dX9_addVault_25 rfl (lv_at hl 1 rfl) ?_
    refine lv_iload_n hx hb dX9_addVault_26 rfl (lv_at hl 2 rfl) ?_
    refine call_i (run_V (cc := cX9_addVault) (As := [.int a1]) (rest := []) hx hb hml hown hE hz (okX9_addsVault X l hfl  hw) qw_1652 qw_1654 qw_24 qw_86 qw_1655 (myX9_addsVault) ⟨Nat.le_of_ble_eq_true rfl, Nat.le_of_ble_eq_true rfl⟩ (rv_X9 hE hP rfl) hP hD hS rfl hl.1 rfl (Nat.le_of_ble_eq_true rfl) dX9_addVault_27 ⟨Nat.le_of_ble_eq_true rfl, Nat.le_of_ble_eq_true rfl⟩) hS (fun r7 G6 H locs hw hP hD hS => ?_)
    exact end_i hx hb hr hlk rfl hw hP hD hS dX9_addVault_30
  · replace hw := ite_f hw c4
    refine lv_aload_n hx hb dX9_addVault_15 rfl (lv_at hl 1 rfl) ?_
    refine lv_iload_n hx hb dX9_addVault_16 rfl (lv_at hl 0 rfl) ?_
    refine call_i (run_V (cc := cX9_addVault) (As := [.int r3]) (rest := []) hx hb hml hown hE hz (okX9_fails X l hfl  hw) qw_1636 qw_1638 qw_20 qw_86 qw_1639 (myX9_fails) ⟨Nat.le_of_ble_eq_true rfl, Nat.le_of_ble_eq_true rfl⟩ (rv_X9 hE hP rfl) hP hD hS rfl hl.1 rfl (Nat.le_of_ble_eq_true rfl) dX9_addVault_17 ⟨Nat.le_of_ble_eq_true rfl, Nat.le_of_ble_eq_true rfl⟩) hS (fun r9 G8 H locs hw hP hD hS => ?_)
    exact end_i hx hb hr hlk rfl hw hP hD hS dX9_addVault_20
def wpX9_notDeposit (post : Int32 → GS → Prop) (a1 : Int32) (a2 : Int32) (a3 : Int32) (G : GS) : Prop :=
  wpX9_isVault (fun (r2 : Int32) (G1 : GS) =>
  if r2 = 0 then
    post 1 G1
  else
    wpX9_kindOf (fun (r5 : Int32) (G4 : GS) =>
      if r5 < 0 then
        post 2 G4
      else
        wpX9_isBetween (fun (r8 : Int32) (G7 : GS) =>
          if r8 = 0 then
            post 2 G7
          else
            wpX9_kindOf (fun (r11 : Int32) (G10 : GS) =>
              wpX9_of (fun (r13 : Int32) (G12 : GS) =>
                if (r13 + a3) ≤ 99 then
                  post 0 G12
                else
                  post 3 G12) a1 r11 G10) a2 G7) a3 1 30 G4) a2 G1) a1 G
set_option maxHeartbeats 4000000 in
set_option maxRecDepth 100000 in
theorem okX9_notDeposit (X : Cx) (l : Launch) (hfl : l.stackTraces = false) {post : Int32 → GS → Prop} {a1 : Int32} {a2 : Int32} {a3 : Int32} {G : GS}  (hw : wpX9_notDeposit post a1 a2 a3 G) : CT X l yX9_notDeposit cX9_notDeposit 4 (some FieldType.int) 3 0 0 [.ref (xa X 189), .int a1, .int a2, .int a3] G (Qi X post) := by
  refine mbegin (by decide) (Nat.le_of_ble_eq_true rfl) (fun p e s m below meth c hx hb hr hml hlk hown hE hz ls hl hP hD hS => ?_)
  have hl : lv_has ls 4 [(0, .ref (xa X 189)), (1, .int a1), (2, .int a2), (3, .int a3)] := hl
  have hown : s.vm.findClass "FlyTreasuryModel" = some m.cls := hown
  unfold wpX9_notDeposit at hw
  refine lv_aload_n hx hb dX9_notDeposit_0 rfl (lv_at hl 0 rfl) ?_
  refine lv_iload_n hx hb dX9_notDeposit_1 rfl (lv_at hl 1 rfl) ?_
  refine call_i (run_V (cc := cX9_notDeposit) (As := [.int a1]) (rest := []) hx hb hml hown hE hz (okX9_isVault X l hfl  hw) qw_1668 qw_1670 qw_27 qw_86 qw_1671 (myX9_isVault) ⟨Nat.le_of_ble_eq_true rfl, Nat.le_of_ble_eq_true rfl⟩ (rv_X9 hE hP rfl) hP hD hS rfl hl.1 rfl (Nat.le_of_ble_eq_true rfl) dX9_notDeposit_2 ⟨Nat.le_of_ble_eq_true rfl, Nat.le_of_ble_eq_true rfl⟩) hS (fun r2 G1 H locs hw hP hD hS => ?_)
  refine lv_if_ne (tgt := 10) hx hb dX9_notDeposit_5 (by decide) (fun c3 => ?_) (fun c3 => ?_)
  · replace hw := ite_f hw c3
    refine lv_iload_n hx hb dX9_notDeposit_10 rfl (lv_at hl 2 rfl) ?_
    refine call_i (run_S (cc := cX9_notDeposit) (As := [.int a2]) (rest := []) hx hb hml hown hE hz (okX9_kindOf X l hfl  hw) qw_1672 qw_1673 qw_86 qw_1674 (myX9_kindOf).2 ⟨Nat.le_of_ble_eq_true rfl, Nat.le_of_ble_eq_true rfl⟩ hP hD hS rfl hl.1 rfl (Nat.le_of_ble_eq_true rfl) dX9_notDeposit_11 ⟨Nat.le_of_ble_eq_true rfl, Nat.le_of_ble_eq_true rfl⟩) hS (fun r5 G4 H locs hw hP hD hS => ?_)
    refine lv_if_lt (tgt := 27) hx hb dX9_notDeposit_14 (by decide) (fun c6 => ?_) (fun c6 => ?_)
    · replace hw := ite_t hw c6
      refine lv_iconst (v := 2) hx hb dX9_notDeposit_27 (by decide) ?_
      exact end_i hx hb hr hlk rfl hw hP hD hS dX9_notDeposit_28
    · replace hw := ite_f hw c6
      refine lv_iload_n hx hb dX9_notDeposit_17 rfl (lv_at hl 3 rfl) ?_
      refine lv_iconst (v := 1) hx hb dX9_notDeposit_18 (by decide) ?_
      refine lv_bipush (v := 30) hx hb dX9_notDeposit_19 (by decide) ?_
      refine call_i (run_S (cc := cX9_notDeposit) (As := [.int a3, .int 1, .int 30]) (rest := []) hx hb hml hown hE hz (okX9_isBetween X l hfl  hw) qw_1633 qw_1634 qw_86 qw_1635 (myX9_isBetween).2 ⟨Nat.le_of_ble_eq_true rfl, Nat.le_of_ble_eq_true rfl⟩ hP hD hS rfl hl.1 rfl (Nat.le_of_ble_eq_true rfl) dX9_notDeposit_21 ⟨Nat.le_of_ble_eq_true rfl, Nat.le_of_ble_eq_true rfl⟩) hS (fun r8 G7 H locs hw hP hD hS => ?_)
      refine lv_if_ne (tgt := 29) hx hb dX9_notDeposit_24 (by decide) (fun c9 => ?_) (fun c9 => ?_)
      · replace hw := ite_f hw c9
        refine lv_aload_n hx hb dX9_notDeposit_29 rfl (lv_at hl 0 rfl) ?_
        refine lv_iload_n hx hb dX9_notDeposit_30 rfl (lv_at hl 1 rfl) ?_
        refine lv_iload_n hx hb dX9_notDeposit_31 rfl (lv_at hl 2 rfl) ?_
        refine call_i (run_S (cc := cX9_notDeposit) (As := [.int a2]) (rest := [.int a1, .ref (xa X 189)]) hx hb hml hown hE hz (okX9_kindOf X l hfl  hw) qw_1672 qw_1673 qw_86 qw_1674 (myX9_kindOf).2 ⟨Nat.le_of_ble_eq_true rfl, Nat.le_of_ble_eq_true rfl⟩ hP hD hS rfl hl.1 rfl (Nat.le_of_ble_eq_true rfl) dX9_notDeposit_32 ⟨Nat.le_of_ble_eq_true rfl, Nat.le_of_ble_eq_true rfl⟩) hS (fun r11 G10 H locs hw hP hD hS => ?_)
        refine call_i (run_V (cc := cX9_notDeposit) (As := [.int a1, .int r11]) (rest := []) hx hb hml hown hE hz (okX9_of X l hfl  hw) qw_1675 qw_1677 qw_28 qw_86 qw_1678 (myX9_of) ⟨Nat.le_of_ble_eq_true rfl, Nat.le_of_ble_eq_true rfl⟩ (rv_X9 hE hP rfl) hP hD hS rfl hl.1 rfl (Nat.le_of_ble_eq_true rfl) dX9_notDeposit_35 ⟨Nat.le_of_ble_eq_true rfl, Nat.le_of_ble_eq_true rfl⟩) hS (fun r13 G12 H locs hw hP hD hS => ?_)
        refine lv_iload_n hx hb dX9_notDeposit_38 rfl (lv_at hl 3 rfl) ?_
        refine lv_iadd hx hb dX9_notDeposit_39 ?_
        refine lv_bipush (v := 99) hx hb dX9_notDeposit_40 (by decide) ?_
        refine lv_icmp_le (tgt := 49) hx hb dX9_notDeposit_42 (by decide) (fun c14 => ?_) (fun c14 => ?_)
        · replace hw := ite_t hw c14
          refine lv_iconst (v := 0) hx hb dX9_notDeposit_49 (by decide) ?_
          exact end_i hx hb hr hlk rfl hw hP hD hS dX9_notDeposit_50
        · replace hw := ite_f hw c14
          refine lv_iconst (v := 3) hx hb dX9_notDeposit_45 (by decide) ?_
          refine lv_goto (tgt := 50) hx hb dX9_notDeposit_46 (by decide) ?_
          exact end_i hx hb hr hlk rfl hw hP hD hS dX9_notDeposit_50
      · replace hw := ite_t hw c9
        refine lv_iconst (v := 2) hx hb dX9_notDeposit_27 (by decide) ?_
        exact end_i hx hb hr hlk rfl hw hP hD hS dX9_notDeposit_28
  · replace hw := ite_t hw c3
    refine lv_iconst (v := 1) hx hb dX9_notDeposit_8 (by decide) ?_
    exact end_i hx hb hr hlk rfl hw hP hD hS dX9_notDeposit_9
def wpX9_deposits (post : Int32 → GS → Prop) (a1 : Int32) (a2 : Int32) (a3 : Int32) (G : GS) : Prop :=
  wpX9_kindOf (fun (r2 : Int32) (G1 : GS) =>
  wpX9_adds (fun (G3 : GS) =>
    wpX9_kindOf (fun (r5 : Int32) (G4 : GS) =>
      vp_in (5 + r5) (ln 190) ∧
        vp_in (5 + r5) (ln 190) ∧ ∀ G8 : GS, G8 = gI G4 190 ((5 + r5).toNatClampNeg) ((G4.1 190 (5 + r5).toNatClampNeg) + a3) →
        wpX9_kindOf (fun (r10 : Int32) (G9 : GS) =>
        wpX9_of (fun (r12 : Int32) (G11 : GS) =>
          post r12 G11) a1 r10 G9) a2 G8) a2 G3) a1 r2 a3 G1) a2 G
set_option maxHeartbeats 4000000 in
set_option maxRecDepth 100000 in
theorem okX9_deposits (X : Cx) (l : Launch) (hfl : l.stackTraces = false) {post : Int32 → GS → Prop} {a1 : Int32} {a2 : Int32} {a3 : Int32} {G : GS}  (hw : wpX9_deposits post a1 a2 a3 G) : CT X l yX9_deposits cX9_deposits 4 (some FieldType.int) 2 0 0 [.ref (xa X 189), .int a1, .int a2, .int a3] G (Qi X post) := by
  refine mbegin (by decide) (Nat.le_of_ble_eq_true rfl) (fun p e s m below meth c hx hb hr hml hlk hown hE hz ls hl hP hD hS => ?_)
  have hl : lv_has ls 4 [(0, .ref (xa X 189)), (1, .int a1), (2, .int a2), (3, .int a3)] := hl
  have hown : s.vm.findClass "FlyTreasuryModel" = some m.cls := hown
  unfold wpX9_deposits at hw
  refine lv_aload_n hx hb dX9_deposits_0 rfl (lv_at hl 0 rfl) ?_
  refine lv_iload_n hx hb dX9_deposits_1 rfl (lv_at hl 1 rfl) ?_
  refine lv_iload_n hx hb dX9_deposits_2 rfl (lv_at hl 2 rfl) ?_
  refine call_i (run_S (cc := cX9_deposits) (As := [.int a2]) (rest := [.int a1, .ref (xa X 189)]) hx hb hml hown hE hz (okX9_kindOf X l hfl  hw) qw_1672 qw_1673 qw_86 qw_1674 (myX9_kindOf).2 ⟨Nat.le_of_ble_eq_true rfl, Nat.le_of_ble_eq_true rfl⟩ hP hD hS rfl hl.1 rfl (Nat.le_of_ble_eq_true rfl) dX9_deposits_3 ⟨Nat.le_of_ble_eq_true rfl, Nat.le_of_ble_eq_true rfl⟩) hS (fun r2 G1 H locs hw hP hD hS => ?_)
  refine lv_iload_n hx hb dX9_deposits_6 rfl (lv_at hl 3 rfl) ?_
  refine call_v (run_V (cc := cX9_deposits) (As := [.int a1, .int r2, .int a3]) (rest := []) hx hb hml hown hE hz (okX9_adds X l hfl  hw) qw_1683 qw_1685 qw_30 qw_86 qw_1686 (myX9_adds) ⟨Nat.le_of_ble_eq_true rfl, Nat.le_of_ble_eq_true rfl⟩ (rv_X9 hE hP rfl) hP hD hS rfl hl.1 rfl (Nat.le_of_ble_eq_true rfl) dX9_deposits_7 ⟨Nat.le_of_ble_eq_true rfl, Nat.le_of_ble_eq_true rfl⟩) hS (fun G3 H locs hw hP hD hS => ?_)
  refine lv_aload_n hx hb dX9_deposits_10 rfl (lv_at hl 0 rfl) ?_
  refine gf_X9_1 hx hb hE hP hown rfl (hE.w qw_1571 rfl _) dX9_deposits_11 ?_
  refine lv_iconst (v := 5) hx hb dX9_deposits_14 (by decide) ?_
  refine lv_iload_n hx hb dX9_deposits_15 rfl (lv_at hl 2 rfl) ?_
  refine call_i (run_S (cc := cX9_deposits) (As := [.int a2]) (rest := [.int 5, .ref (xa X 190)]) hx hb hml hown hE hz (okX9_kindOf X l hfl  hw) qw_1672 qw_1673 qw_86 qw_1674 (myX9_kindOf).2 ⟨Nat.le_of_ble_eq_true rfl, Nat.le_of_ble_eq_true rfl⟩ hP hD hS rfl hl.1 rfl (Nat.le_of_ble_eq_true rfl) dX9_deposits_16 ⟨Nat.le_of_ble_eq_true rfl, Nat.le_of_ble_eq_true rfl⟩) hS (fun r5 G4 H locs hw hP hD hS => ?_)
  refine lv_iadd hx hb dX9_deposits_19 ?_
  refine lv_dup2_11 hx hb dX9_deposits_20 rfl rfl ?_
  obtain ⟨y6, hw⟩ := hw
  refine ald_2 hx hb hE hP rfl y6 dX9_deposits_21 ?_
  refine lv_iload_n hx hb dX9_deposits_22 rfl (lv_at hl 3 rfl) ?_
  refine lv_iadd hx hb dX9_deposits_23 ?_
  obtain ⟨y7, hw⟩ := hw
  refine ast_2 hx hb hE hP hD hS rfl y7 dX9_deposits_24 (fun G8 H locs eG8 hP hD hS => ?_)
  replace hw := hw G8 eG8
  refine lv_aload_n hx hb dX9_deposits_25 rfl (lv_at hl 0 rfl) ?_
  refine lv_iload_n hx hb dX9_deposits_26 rfl (lv_at hl 1 rfl) ?_
  refine lv_iload_n hx hb dX9_deposits_27 rfl (lv_at hl 2 rfl) ?_
  refine call_i (run_S (cc := cX9_deposits) (As := [.int a2]) (rest := [.int a1, .ref (xa X 189)]) hx hb hml hown hE hz (okX9_kindOf X l hfl  hw) qw_1672 qw_1673 qw_86 qw_1674 (myX9_kindOf).2 ⟨Nat.le_of_ble_eq_true rfl, Nat.le_of_ble_eq_true rfl⟩ hP hD hS rfl hl.1 rfl (Nat.le_of_ble_eq_true rfl) dX9_deposits_28 ⟨Nat.le_of_ble_eq_true rfl, Nat.le_of_ble_eq_true rfl⟩) hS (fun r10 G9 H locs hw hP hD hS => ?_)
  refine call_i (run_V (cc := cX9_deposits) (As := [.int a1, .int r10]) (rest := []) hx hb hml hown hE hz (okX9_of X l hfl  hw) qw_1675 qw_1677 qw_28 qw_86 qw_1678 (myX9_of) ⟨Nat.le_of_ble_eq_true rfl, Nat.le_of_ble_eq_true rfl⟩ (rv_X9 hE hP rfl) hP hD hS rfl hl.1 rfl (Nat.le_of_ble_eq_true rfl) dX9_deposits_31 ⟨Nat.le_of_ble_eq_true rfl, Nat.le_of_ble_eq_true rfl⟩) hS (fun r12 G11 H locs hw hP hD hS => ?_)
  exact end_i hx hb hr hlk rfl hw hP hD hS dX9_deposits_34
def wpX9_deposit (post : Int32 → GS → Prop) (a1 : Int32) (a2 : Int32) (a3 : Int32) (G : GS) : Prop :=
  ∀ G1 : GS, G1 = gI G 189 0 0 →
  wpX9_notDeposit (fun (r3 : Int32) (G2 : GS) =>
  if r3 = 0 then
    wpX9_remembers (fun (G5 : GS) =>
      wpX9_deposits (fun (r7 : Int32) (G6 : GS) =>
        post r7 G6) a1 a2 a3 G5)  G2
  else
    wpX9_fails (fun (r9 : Int32) (G8 : GS) =>
      post r9 G8) r3 G2) a1 a2 a3 G1
set_option maxHeartbeats 4000000 in
set_option maxRecDepth 100000 in
theorem okX9_deposit (X : Cx) (l : Launch) (hfl : l.stackTraces = false) {post : Int32 → GS → Prop} {a1 : Int32} {a2 : Int32} {a3 : Int32} {G : GS}  (hw : wpX9_deposit post a1 a2 a3 G) : CT X l yX9_deposit cX9_deposit 5 (some FieldType.int) 4 0 0 [.ref (xa X 189), .int a1, .int a2, .int a3] G (Qi X post) := by
  refine mbegin (by decide) (Nat.le_of_ble_eq_true rfl) (fun p e s m below meth c hx hb hr hml hlk hown hE hz ls hl hP hD hS => ?_)
  have hl : lv_has ls 5 [(0, .ref (xa X 189)), (1, .int a1), (2, .int a2), (3, .int a3)] := hl
  have hown : s.vm.findClass "FlyTreasuryModel" = some m.cls := hown
  unfold wpX9_deposit at hw
  refine lv_aload_n hx hb dX9_deposit_0 rfl (lv_at hl 0 rfl) ?_
  refine lv_iconst (v := 0) hx hb dX9_deposit_1 (by decide) ?_
  refine pf_X9_0 hx hb hE hP hD hS hown rfl (hE.w qw_1570 rfl _) dX9_deposit_2 (fun G1 H locs eG1 hP hD hS => ?_)
  replace hw := hw G1 eG1
  refine lv_aload_n hx hb dX9_deposit_5 rfl (lv_at hl 0 rfl) ?_
  refine lv_iload_n hx hb dX9_deposit_6 rfl (lv_at hl 1 rfl) ?_
  refine lv_iload_n hx hb dX9_deposit_7 rfl (lv_at hl 2 rfl) ?_
  refine lv_iload_n hx hb dX9_deposit_8 rfl (lv_at hl 3 rfl) ?_
  refine call_i (run_V (cc := cX9_deposit) (As := [.int a1, .int a2, .int a3]) (rest := []) hx hb hml hown hE hz (okX9_notDeposit X l hfl  hw) qw_1664 qw_1666 qw_26 qw_86 qw_1667 (myX9_notDeposit) ⟨Nat.le_of_ble_eq_true rfl, Nat.le_of_ble_eq_true rfl⟩ (rv_X9 hE hP rfl) hP hD hS rfl hl.1 rfl (Nat.le_of_ble_eq_true rfl) dX9_deposit_9 ⟨Nat.le_of_ble_eq_true rfl, Nat.le_of_ble_eq_true rfl⟩) hS (fun r3 G2 H locs hw hP hD hS => ?_)
  refine lv_istore (lv' := [(4, .int r3), (0, .ref (xa X 189)), (1, .int a1), (2, .int a2), (3, .int a3)]) hx hb dX9_deposit_12 hl (by decide) rfl (fun ls hl => ?_)
  refine lv_iload hx hb dX9_deposit_14 (lv_at hl 0 rfl) ?_
  refine lv_if_eq (tgt := 26) hx hb dX9_deposit_16 (by decide) (fun c4 => ?_) (fun c4 => ?_)
  · replace hw := ite_t hw c4
    refine lv_aload_n hx hb dX9_deposit_26 rfl (lv_at hl 1 rfl) ?_
    refine call_v (run_V (cc := cX9_deposit) (As := []) (rest := []) hx hb hml hown hE hz (okX9_remembers X l hfl  hw) qw_1640 qw_1642 qw_21 qw_86 qw_1643 (myX9_remembers) ⟨Nat.le_of_ble_eq_true rfl, Nat.le_of_ble_eq_true rfl⟩ (rv_X9 hE hP rfl) hP hD hS rfl hl.1 rfl (Nat.le_of_ble_eq_true rfl) dX9_deposit_27 ⟨Nat.le_of_ble_eq_true rfl, Nat.le_of_ble_eq_true rfl⟩) hS (fun G5 H locs hw hP hD hS => ?_)
    refine lv_aload_n hx hb dX9_deposit_30 rfl (lv_at hl 1 rfl) ?_
    refine lv_iload_n hx hb dX9_deposit_31 rfl (lv_at hl 2 rfl) ?_
    refine lv_iload_n hx hb dX9_deposit_32 rfl (lv_at hl 3 rfl) ?_
    refine lv_iload_n hx hb dX9_deposit_33 rfl (lv_at hl 4 rfl) ?_
    refine call_i (run_V (cc := cX9_deposit) (As := [.int a1, .int a2, .int a3]) (rest := []) hx hb hml hown hE hz (okX9_deposits X l hfl  hw) qw_1679 qw_1681 qw_29 qw_86 qw_1682 (myX9_deposits) ⟨Nat.le_of_ble_eq_true rfl, Nat.le_of_ble_eq_true rfl⟩ (rv_X9 hE hP rfl) hP hD hS rfl hl.1 rfl (Nat.le_of_ble_eq_true rfl) dX9_deposit_34 ⟨Nat.le_of_ble_eq_true rfl, Nat.le_of_ble_eq_true rfl⟩) hS (fun r7 G6 H locs hw hP hD hS => ?_)
    exact end_i hx hb hr hlk rfl hw hP hD hS dX9_deposit_37
  · replace hw := ite_f hw c4
    refine lv_aload_n hx hb dX9_deposit_19 rfl (lv_at hl 1 rfl) ?_
    refine lv_iload hx hb dX9_deposit_20 (lv_at hl 0 rfl) ?_
    refine call_i (run_V (cc := cX9_deposit) (As := [.int r3]) (rest := []) hx hb hml hown hE hz (okX9_fails X l hfl  hw) qw_1636 qw_1638 qw_20 qw_86 qw_1639 (myX9_fails) ⟨Nat.le_of_ble_eq_true rfl, Nat.le_of_ble_eq_true rfl⟩ (rv_X9 hE hP rfl) hP hD hS rfl hl.1 rfl (Nat.le_of_ble_eq_true rfl) dX9_deposit_22 ⟨Nat.le_of_ble_eq_true rfl, Nat.le_of_ble_eq_true rfl⟩) hS (fun r9 G8 H locs hw hP hD hS => ?_)
    exact end_i hx hb hr hlk rfl hw hP hD hS dX9_deposit_25
def wbX9_isSoundWithout_21 (post : Int32 → GS → Prop) (a1 : Int32) (a2 : Int32) (a3 : Int32) (G : GS) (t0 : Int32) : Prop :=
  wpX9_adds (fun (G5 : GS) =>
  narrow .boolean (.int t0) = .int t0 ∧ post t0 G5) a1 a2 a3 G
def wpX9_isSoundWithout (post : Int32 → GS → Prop) (a1 : Int32) (a2 : Int32) (a3 : Int32) (G : GS) : Prop :=
  wpX9_adds (fun (G1 : GS) =>
  wpX9_spare (fun (r3 : Int32) (G2 : GS) =>
    if r3 < 0 then
      wbX9_isSoundWithout_21 post a1 a2 a3 G2 0
    else
      wbX9_isSoundWithout_21 post a1 a2 a3 G2 1) a1 G1) a1 a2 (-a3) G
set_option maxHeartbeats 4000000 in
set_option maxRecDepth 100000 in
theorem okX9_isSoundWithout (X : Cx) (l : Launch) (hfl : l.stackTraces = false) {post : Int32 → GS → Prop} {a1 : Int32} {a2 : Int32} {a3 : Int32} {G : GS}  (hw : wpX9_isSoundWithout post a1 a2 a3 G) : CT X l yX9_isSoundWithout cX9_isSoundWithout 5 (some FieldType.boolean) 5 0 0 [.ref (xa X 189), .int a1, .int a2, .int a3] G (Qi X post) := by
  refine mbegin (by decide) (Nat.le_of_ble_eq_true rfl) (fun p e s m below meth c hx hb hr hml hlk hown hE hz ls hl hP hD hS => ?_)
  have hl : lv_has ls 5 [(0, .ref (xa X 189)), (1, .int a1), (2, .int a2), (3, .int a3)] := hl
  have hown : s.vm.findClass "FlyTreasuryModel" = some m.cls := hown
  have B21 : ∀ (G : GS) (t0 : Int32) (H : Heap) (locs : List Loc) (ls : Array Slot), wbX9_isSoundWithout_21 post a1 a2 a3 G t0 → va_P (xD X) vwCl (pool X G) H → va_D (xA X) (pool X G) → va_S (xA X) s.heap H locs → lv_has ls 5 [(0, .ref (xa X 189)), (1, .int a1), (2, .int a2), (3, .int a3)] → W p l e (rmL 5 0 0) s m [.ref (xa X 189), .int a1, .int a2, .int a3].toArray below meth c H locs 0 0 (MQ below (Qi X post) [.ref (xa X 189), .int a1, .int a2, .int a3].toArray s 0 0 (xA X)) (F0 m 21 ls [.int t0]) := by
    intro G t0  H locs ls hw hP hD hS hl
    unfold wbX9_isSoundWithout_21 at hw
    refine lv_istore (lv' := [(4, .int t0), (0, .ref (xa X 189)), (1, .int a1), (2, .int a2), (3, .int a3)]) hx hb dX9_isSoundWithout_21 hl (by decide) rfl (fun ls hl => ?_)
    refine lv_aload_n hx hb dX9_isSoundWithout_23 rfl (lv_at hl 1 rfl) ?_
    refine lv_iload_n hx hb dX9_isSoundWithout_24 rfl (lv_at hl 2 rfl) ?_
    refine lv_iload_n hx hb dX9_isSoundWithout_25 rfl (lv_at hl 3 rfl) ?_
    refine lv_iload_n hx hb dX9_isSoundWithout_26 rfl (lv_at hl 4 rfl) ?_
    refine call_v (run_V (cc := cX9_isSoundWithout) (As := [.int a1, .int a2, .int a3]) (rest := []) hx hb hml hown hE hz (okX9_adds X l hfl  hw) qw_1683 qw_1685 qw_30 qw_86 qw_1686 (myX9_adds) ⟨Nat.le_of_ble_eq_true rfl, Nat.le_of_ble_eq_true rfl⟩ (rv_X9 hE hP rfl) hP hD hS rfl hl.1 rfl (Nat.le_of_ble_eq_true rfl) dX9_isSoundWithout_27 ⟨Nat.le_of_ble_eq_true rfl, Nat.le_of_ble_eq_true rfl⟩) hS (fun G7 H locs hw hP hD hS => ?_)
    refine lv_iload hx hb dX9_isSoundWithout_30 (lv_at hl 0 rfl) ?_
    obtain ⟨y8, hw⟩ := hw
    exact end_i hx hb hr hlk y8 hw hP hD hS dX9_isSoundWithout_32
  unfold wpX9_isSoundWithout at hw
  refine lv_aload_n hx hb dX9_isSoundWithout_0 rfl (lv_at hl 0 rfl) ?_
  refine lv_iload_n hx hb dX9_isSoundWithout_1 rfl (lv_at hl 1 rfl) ?_
  refine lv_iload_n hx hb dX9_isSoundWithout_2 rfl (lv_at hl 2 rfl) ?_
  refine lv_iload_n hx hb dX9_isSoundWithout_3 rfl (lv_at hl 3 rfl) ?_
  refine lv_ineg hx hb dX9_isSoundWithout_4 ?_
  refine call_v (run_V (cc := cX9_isSoundWithout) (As := [.int a1, .int a2, .int (-a3)]) (rest := []) hx hb hml hown hE hz (okX9_adds X l hfl  hw) qw_1683 qw_1685 qw_30 qw_86 qw_1686 (myX9_adds) ⟨Nat.le_of_ble_eq_true rfl, Nat.le_of_ble_eq_true rfl⟩ (rv_X9 hE hP rfl) hP hD hS rfl hl.1 rfl (Nat.le_of_ble_eq_true rfl) dX9_isSoundWithout_5 ⟨Nat.le_of_ble_eq_true rfl, Nat.le_of_ble_eq_true rfl⟩) hS (fun G1 H locs hw hP hD hS => ?_)
  refine lv_aload_n hx hb dX9_isSoundWithout_8 rfl (lv_at hl 0 rfl) ?_
  refine lv_iload_n hx hb dX9_isSoundWithout_9 rfl (lv_at hl 1 rfl) ?_
  refine call_i (run_V (cc := cX9_isSoundWithout) (As := [.int a1]) (rest := []) hx hb hml hown hE hz (okX9_spare X l hfl  hw) qw_1699 qw_1701 qw_33 qw_86 qw_1702 (myX9_spare) ⟨Nat.le_of_ble_eq_true rfl, Nat.le_of_ble_eq_true rfl⟩ (rv_X9 hE hP rfl) hP hD hS rfl hl.1 rfl (Nat.le_of_ble_eq_true rfl) dX9_isSoundWithout_10 ⟨Nat.le_of_ble_eq_true rfl, Nat.le_of_ble_eq_true rfl⟩) hS (fun r3 G2 H locs hw hP hD hS => ?_)
  refine lv_if_lt (tgt := 20) hx hb dX9_isSoundWithout_13 (by decide) (fun c4 => ?_) (fun c4 => ?_)
  · replace hw := ite_t hw c4
    refine lv_iconst (v := 0) hx hb dX9_isSoundWithout_20 (by decide) ?_
    exact B21 G2 0  _ _ _ hw hP hD hS (lv_sub hl [0, 1, 2, 3] rfl)
  · replace hw := ite_f hw c4
    refine lv_iconst (v := 1) hx hb dX9_isSoundWithout_16 (by decide) ?_
    refine lv_goto (tgt := 21) hx hb dX9_isSoundWithout_17 (by decide) ?_
    exact B21 G2 1  _ _ _ hw hP hD hS (lv_sub hl [0, 1, 2, 3] rfl)
def wpX9_notWithdraw (post : Int32 → GS → Prop) (a1 : Int32) (a2 : Int32) (a3 : Int32) (G : GS) : Prop :=
  wpX9_isVault (fun (r2 : Int32) (G1 : GS) =>
  if r2 = 0 then
    post 1 G1
  else
    wpX9_kindOf (fun (r5 : Int32) (G4 : GS) =>
      if r5 < 0 then
        post 2 G4
      else
        wpX9_isBetween (fun (r8 : Int32) (G7 : GS) =>
          if r8 = 0 then
            post 2 G7
          else
            wpX9_of (fun (r11 : Int32) (G10 : GS) =>
              if r11 ≤ 0 then
                wpX9_kindOf (fun (r14 : Int32) (G13 : GS) =>
                  wpX9_of (fun (r16 : Int32) (G15 : GS) =>
                    if r16 < a3 then
                      post 4 G15
                    else
                      wpX9_kindOf (fun (r19 : Int32) (G18 : GS) =>
                        wpX9_isSoundWithout (fun (r21 : Int32) (G20 : GS) =>
                          if r21 = 0 then
                            post 4 G20
                          else
                            post 0 G20) a1 r19 a3 G18) a2 G15) a1 r14 G13) a2 G10
              else
                post 3 G10) a1 7 G7) a3 1 30 G4) a2 G1) a1 G
set_option maxHeartbeats 4000000 in
set_option maxRecDepth 100000 in
theorem okX9_notWithdraw (X : Cx) (l : Launch) (hfl : l.stackTraces = false) {post : Int32 → GS → Prop} {a1 : Int32} {a2 : Int32} {a3 : Int32} {G : GS}  (hw : wpX9_notWithdraw post a1 a2 a3 G) : CT X l yX9_notWithdraw cX9_notWithdraw 4 (some FieldType.int) 6 0 0 [.ref (xa X 189), .int a1, .int a2, .int a3] G (Qi X post) := by
  refine mbegin (by decide) (Nat.le_of_ble_eq_true rfl) (fun p e s m below meth c hx hb hr hml hlk hown hE hz ls hl hP hD hS => ?_)
  have hl : lv_has ls 4 [(0, .ref (xa X 189)), (1, .int a1), (2, .int a2), (3, .int a3)] := hl
  have hown : s.vm.findClass "FlyTreasuryModel" = some m.cls := hown
  unfold wpX9_notWithdraw at hw
  refine lv_aload_n hx hb dX9_notWithdraw_0 rfl (lv_at hl 0 rfl) ?_
  refine lv_iload_n hx hb dX9_notWithdraw_1 rfl (lv_at hl 1 rfl) ?_
  refine call_i (run_V (cc := cX9_notWithdraw) (As := [.int a1]) (rest := []) hx hb hml hown hE hz (okX9_isVault X l hfl  hw) qw_1668 qw_1670 qw_27 qw_86 qw_1671 (myX9_isVault) ⟨Nat.le_of_ble_eq_true rfl, Nat.le_of_ble_eq_true rfl⟩ (rv_X9 hE hP rfl) hP hD hS rfl hl.1 rfl (Nat.le_of_ble_eq_true rfl) dX9_notWithdraw_2 ⟨Nat.le_of_ble_eq_true rfl, Nat.le_of_ble_eq_true rfl⟩) hS (fun r2 G1 H locs hw hP hD hS => ?_)
  refine lv_if_ne (tgt := 10) hx hb dX9_notWithdraw_5 (by decide) (fun c3 => ?_) (fun c3 => ?_)
  · replace hw := ite_f hw c3
    refine lv_iload_n hx hb dX9_notWithdraw_10 rfl (lv_at hl 2 rfl) ?_
    refine call_i (run_S (cc := cX9_notWithdraw) (As := [.int a2]) (rest := []) hx hb hml hown hE hz (okX9_kindOf X l hfl  hw) qw_1672 qw_1673 qw_86 qw_1674 (myX9_kindOf).2 ⟨Nat.le_of_ble_eq_true rfl, Nat.le_of_ble_eq_true rfl⟩ hP hD hS rfl hl.1 rfl (Nat.le_of_ble_eq_true rfl) dX9_notWithdraw_11 ⟨Nat.le_of_ble_eq_true rfl, Nat.le_of_ble_eq_true rfl⟩) hS (fun r5 G4 H locs hw hP hD hS => ?_)
    refine lv_if_lt (tgt := 27) hx hb dX9_notWithdraw_14 (by decide) (fun c6 => ?_) (fun c6 => ?_)
    · replace hw := ite_t hw c6
      refine lv_iconst (v := 2) hx hb dX9_notWithdraw_27 (by decide) ?_
      exact end_i hx hb hr hlk rfl hw hP hD hS dX9_notWithdraw_28
    · replace hw := ite_f hw c6
      refine lv_iload_n hx hb dX9_notWithdraw_17 rfl (lv_at hl 3 rfl) ?_
      refine lv_iconst (v := 1) hx hb dX9_notWithdraw_18 (by decide) ?_
      refine lv_bipush (v := 30) hx hb dX9_notWithdraw_19 (by decide) ?_
      refine call_i (run_S (cc := cX9_notWithdraw) (As := [.int a3, .int 1, .int 30]) (rest := []) hx hb hml hown hE hz (okX9_isBetween X l hfl  hw) qw_1633 qw_1634 qw_86 qw_1635 (myX9_isBetween).2 ⟨Nat.le_of_ble_eq_true rfl, Nat.le_of_ble_eq_true rfl⟩ hP hD hS rfl hl.1 rfl (Nat.le_of_ble_eq_true rfl) dX9_notWithdraw_21 ⟨Nat.le_of_ble_eq_true rfl, Nat.le_of_ble_eq_true rfl⟩) hS (fun r8 G7 H locs hw hP hD hS => ?_)
      refine lv_if_ne (tgt := 29) hx hb dX9_notWithdraw_24 (by decide) (fun c9 => ?_) (fun c9 => ?_)
      · replace hw := ite_f hw c9
        refine lv_aload_n hx hb dX9_notWithdraw_29 rfl (lv_at hl 0 rfl) ?_
        refine lv_iload_n hx hb dX9_notWithdraw_30 rfl (lv_at hl 1 rfl) ?_
        refine lv_bipush (v := 7) hx hb dX9_notWithdraw_31 (by decide) ?_
        refine call_i (run_V (cc := cX9_notWithdraw) (As := [.int a1, .int 7]) (rest := []) hx hb hml hown hE hz (okX9_of X l hfl  hw) qw_1675 qw_1677 qw_28 qw_86 qw_1678 (myX9_of) ⟨Nat.le_of_ble_eq_true rfl, Nat.le_of_ble_eq_true rfl⟩ (rv_X9 hE hP rfl) hP hD hS rfl hl.1 rfl (Nat.le_of_ble_eq_true rfl) dX9_notWithdraw_33 ⟨Nat.le_of_ble_eq_true rfl, Nat.le_of_ble_eq_true rfl⟩) hS (fun r11 G10 H locs hw hP hD hS => ?_)
        refine lv_if_le (tgt := 41) hx hb dX9_notWithdraw_36 (by decide) (fun c12 => ?_) (fun c12 => ?_)
        · replace hw := ite_t hw c12
          refine lv_aload_n hx hb dX9_notWithdraw_41 rfl (lv_at hl 0 rfl) ?_
          refine lv_iload_n hx hb dX9_notWithdraw_42 rfl (lv_at hl 1 rfl) ?_
          refine lv_iload_n hx hb dX9_notWithdraw_43 rfl (lv_at hl 2 rfl) ?_
          refine call_i (run_S (cc := cX9_notWithdraw) (As := [.int a2]) (rest := [.int a1, .ref (xa X 189)]) hx hb hml hown hE hz (okX9_kindOf X l hfl  hw) qw_1672 qw_1673 qw_86 qw_1674 (myX9_kindOf).2 ⟨Nat.le_of_ble_eq_true rfl, Nat.le_of_ble_eq_true rfl⟩ hP hD hS rfl hl.1 rfl (Nat.le_of_ble_eq_true rfl) dX9_notWithdraw_44 ⟨Nat.le_of_ble_eq_true rfl, Nat.le_of_ble_eq_true rfl⟩) hS (fun r14 G13 H locs hw hP hD hS => ?_)
          refine call_i (run_V (cc := cX9_notWithdraw) (As := [.int a1, .int r14]) (rest := []) hx hb hml hown hE hz (okX9_of X l hfl  hw) qw_1675 qw_1677 qw_28 qw_86 qw_1678 (myX9_of) ⟨Nat.le_of_ble_eq_true rfl, Nat.le_of_ble_eq_true rfl⟩ (rv_X9 hE hP rfl) hP hD hS rfl hl.1 rfl (Nat.le_of_ble_eq_true rfl) dX9_notWithdraw_47 ⟨Nat.le_of_ble_eq_true rfl, Nat.le_of_ble_eq_true rfl⟩) hS (fun r16 G15 H locs hw hP hD hS => ?_)
          refine lv_iload_n hx hb dX9_notWithdraw_50 rfl (lv_at hl 3 rfl) ?_
          refine lv_icmp_lt (tgt := 67) hx hb dX9_notWithdraw_51 (by decide) (fun c17 => ?_) (fun c17 => ?_)
          · replace hw := ite_t hw c17
            refine lv_iconst (v := 4) hx hb dX9_notWithdraw_67 (by decide) ?_
            refine lv_goto (tgt := 72) hx hb dX9_notWithdraw_68 (by decide) ?_
            exact end_i hx hb hr hlk rfl hw hP hD hS dX9_notWithdraw_72
          · replace hw := ite_f hw c17
            refine lv_aload_n hx hb dX9_notWithdraw_54 rfl (lv_at hl 0 rfl) ?_
            refine lv_iload_n hx hb dX9_notWithdraw_55 rfl (lv_at hl 1 rfl) ?_
            refine lv_iload_n hx hb dX9_notWithdraw_56 rfl (lv_at hl 2 rfl) ?_
            refine call_i (run_S (cc := cX9_notWithdraw) (As := [.int a2]) (rest := [.int a1, .ref (xa X 189)]) hx hb hml hown hE hz (okX9_kindOf X l hfl  hw) qw_1672 qw_1673 qw_86 qw_1674 (myX9_kindOf).2 ⟨Nat.le_of_ble_eq_true rfl, Nat.le_of_ble_eq_true rfl⟩ hP hD hS rfl hl.1 rfl (Nat.le_of_ble_eq_true rfl) dX9_notWithdraw_57 ⟨Nat.le_of_ble_eq_true rfl, Nat.le_of_ble_eq_true rfl⟩) hS (fun r19 G18 H locs hw hP hD hS => ?_)
            refine lv_iload_n hx hb dX9_notWithdraw_60 rfl (lv_at hl 3 rfl) ?_
            refine call_i (run_V (cc := cX9_notWithdraw) (As := [.int a1, .int r19, .int a3]) (rest := []) hx hb hml hown hE hz (okX9_isSoundWithout X l hfl  hw) qw_1695 qw_1697 qw_32 qw_86 qw_1698 (myX9_isSoundWithout) ⟨Nat.le_of_ble_eq_true rfl, Nat.le_of_ble_eq_true rfl⟩ (rv_X9 hE hP rfl) hP hD hS rfl hl.1 rfl (Nat.le_of_ble_eq_true rfl) dX9_notWithdraw_61 ⟨Nat.le_of_ble_eq_true rfl, Nat.le_of_ble_eq_true rfl⟩) hS (fun r21 G20 H locs hw hP hD hS => ?_)
            refine lv_if_ne (tgt := 71) hx hb dX9_notWithdraw_64 (by decide) (fun c22 => ?_) (fun c22 => ?_)
            · replace hw := ite_f hw c22
              refine lv_iconst (v := 0) hx hb dX9_notWithdraw_71 (by decide) ?_
              exact end_i hx hb hr hlk rfl hw hP hD hS dX9_notWithdraw_72
            · replace hw := ite_t hw c22
              refine lv_iconst (v := 4) hx hb dX9_notWithdraw_67 (by decide) ?_
              refine lv_goto (tgt := 72) hx hb dX9_notWithdraw_68 (by decide) ?_
              exact end_i hx hb hr hlk rfl hw hP hD hS dX9_notWithdraw_72
        · replace hw := ite_f hw c12
          refine lv_iconst (v := 3) hx hb dX9_notWithdraw_39 (by decide) ?_
          exact end_i hx hb hr hlk rfl hw hP hD hS dX9_notWithdraw_40
      · replace hw := ite_t hw c9
        refine lv_iconst (v := 2) hx hb dX9_notWithdraw_27 (by decide) ?_
        exact end_i hx hb hr hlk rfl hw hP hD hS dX9_notWithdraw_28
  · replace hw := ite_t hw c3
    refine lv_iconst (v := 1) hx hb dX9_notWithdraw_8 (by decide) ?_
    exact end_i hx hb hr hlk rfl hw hP hD hS dX9_notWithdraw_9
def wpX9_withdraws (post : Int32 → GS → Prop) (a1 : Int32) (a2 : Int32) (a3 : Int32) (G : GS) : Prop :=
  wpX9_kindOf (fun (r2 : Int32) (G1 : GS) =>
  wpX9_adds (fun (G3 : GS) =>
    wpX9_kindOf (fun (r5 : Int32) (G4 : GS) =>
      vp_in (8 + r5) (ln 190) ∧
        vp_in (8 + r5) (ln 190) ∧ ∀ G8 : GS, G8 = gI G4 190 ((8 + r5).toNatClampNeg) ((G4.1 190 (8 + r5).toNatClampNeg) + a3) →
        wpX9_kindOf (fun (r10 : Int32) (G9 : GS) =>
        wpX9_of (fun (r12 : Int32) (G11 : GS) =>
          post r12 G11) a1 r10 G9) a2 G8) a2 G3) a1 r2 (-a3) G1) a2 G
set_option maxHeartbeats 4000000 in
set_option maxRecDepth 100000 in
theorem okX9_withdraws (X : Cx) (l : Launch) (hfl : l.stackTraces = false) {post : Int32 → GS → Prop} {a1 : Int32} {a2 : Int32} {a3 : Int32} {G : GS}  (hw : wpX9_withdraws post a1 a2 a3 G) : CT X l yX9_withdraws cX9_withdraws 4 (some FieldType.int) 2 0 0 [.ref (xa X 189), .int a1, .int a2, .int a3] G (Qi X post) := by
  refine mbegin (by decide) (Nat.le_of_ble_eq_true rfl) (fun p e s m below meth c hx hb hr hml hlk hown hE hz ls hl hP hD hS => ?_)
  have hl : lv_has ls 4 [(0, .ref (xa X 189)), (1, .int a1), (2, .int a2), (3, .int a3)] := hl
  have hown : s.vm.findClass "FlyTreasuryModel" = some m.cls := hown
  unfold wpX9_withdraws at hw
  refine lv_aload_n hx hb dX9_withdraws_0 rfl (lv_at hl 0 rfl) ?_
  refine lv_iload_n hx hb dX9_withdraws_1 rfl (lv_at hl 1 rfl) ?_
  refine lv_iload_n hx hb dX9_withdraws_2 rfl (lv_at hl 2 rfl) ?_
  refine call_i (run_S (cc := cX9_withdraws) (As := [.int a2]) (rest := [.int a1, .ref (xa X 189)]) hx hb hml hown hE hz (okX9_kindOf X l hfl  hw) qw_1672 qw_1673 qw_86 qw_1674 (myX9_kindOf).2 ⟨Nat.le_of_ble_eq_true rfl, Nat.le_of_ble_eq_true rfl⟩ hP hD hS rfl hl.1 rfl (Nat.le_of_ble_eq_true rfl) dX9_withdraws_3 ⟨Nat.le_of_ble_eq_true rfl, Nat.le_of_ble_eq_true rfl⟩) hS (fun r2 G1 H locs hw hP hD hS => ?_)
  refine lv_iload_n hx hb dX9_withdraws_6 rfl (lv_at hl 3 rfl) ?_
  refine lv_ineg hx hb dX9_withdraws_7 ?_
  refine call_v (run_V (cc := cX9_withdraws) (As := [.int a1, .int r2, .int (-a3)]) (rest := []) hx hb hml hown hE hz (okX9_adds X l hfl  hw) qw_1683 qw_1685 qw_30 qw_86 qw_1686 (myX9_adds) ⟨Nat.le_of_ble_eq_true rfl, Nat.le_of_ble_eq_true rfl⟩ (rv_X9 hE hP rfl) hP hD hS rfl hl.1 rfl (Nat.le_of_ble_eq_true rfl) dX9_withdraws_8 ⟨Nat.le_of_ble_eq_true rfl, Nat.le_of_ble_eq_true rfl⟩) hS (fun G3 H locs hw hP hD hS => ?_)
  refine lv_aload_n hx hb dX9_withdraws_11 rfl (lv_at hl 0 rfl) ?_
  refine gf_X9_1 hx hb hE hP hown rfl (hE.w qw_1571 rfl _) dX9_withdraws_12 ?_
  refine lv_bipush (v := 8) hx hb dX9_withdraws_15 (by decide) ?_
  refine lv_iload_n hx hb dX9_withdraws_17 rfl (lv_at hl 2 rfl) ?_
  refine call_i (run_S (cc := cX9_withdraws) (As := [.int a2]) (rest := [.int 8, .ref (xa X 190)]) hx hb hml hown hE hz (okX9_kindOf X l hfl  hw) qw_1672 qw_1673 qw_86 qw_1674 (myX9_kindOf).2 ⟨Nat.le_of_ble_eq_true rfl, Nat.le_of_ble_eq_true rfl⟩ hP hD hS rfl hl.1 rfl (Nat.le_of_ble_eq_true rfl) dX9_withdraws_18 ⟨Nat.le_of_ble_eq_true rfl, Nat.le_of_ble_eq_true rfl⟩) hS (fun r5 G4 H locs hw hP hD hS => ?_)
  refine lv_iadd hx hb dX9_withdraws_21 ?_
  refine lv_dup2_11 hx hb dX9_withdraws_22 rfl rfl ?_
  obtain ⟨y6, hw⟩ := hw
  refine ald_2 hx hb hE hP rfl y6 dX9_withdraws_23 ?_
  refine lv_iload_n hx hb dX9_withdraws_24 rfl (lv_at hl 3 rfl) ?_
  refine lv_iadd hx hb dX9_withdraws_25 ?_
  obtain ⟨y7, hw⟩ := hw
  refine ast_2 hx hb hE hP hD hS rfl y7 dX9_withdraws_26 (fun G8 H locs eG8 hP hD hS => ?_)
  replace hw := hw G8 eG8
  refine lv_aload_n hx hb dX9_withdraws_27 rfl (lv_at hl 0 rfl) ?_
  refine lv_iload_n hx hb dX9_withdraws_28 rfl (lv_at hl 1 rfl) ?_
  refine lv_iload_n hx hb dX9_withdraws_29 rfl (lv_at hl 2 rfl) ?_
  refine call_i (run_S (cc := cX9_withdraws) (As := [.int a2]) (rest := [.int a1, .ref (xa X 189)]) hx hb hml hown hE hz (okX9_kindOf X l hfl  hw) qw_1672 qw_1673 qw_86 qw_1674 (myX9_kindOf).2 ⟨Nat.le_of_ble_eq_true rfl, Nat.le_of_ble_eq_true rfl⟩ hP hD hS rfl hl.1 rfl (Nat.le_of_ble_eq_true rfl) dX9_withdraws_30 ⟨Nat.le_of_ble_eq_true rfl, Nat.le_of_ble_eq_true rfl⟩) hS (fun r10 G9 H locs hw hP hD hS => ?_)
  refine call_i (run_V (cc := cX9_withdraws) (As := [.int a1, .int r10]) (rest := []) hx hb hml hown hE hz (okX9_of X l hfl  hw) qw_1675 qw_1677 qw_28 qw_86 qw_1678 (myX9_of) ⟨Nat.le_of_ble_eq_true rfl, Nat.le_of_ble_eq_true rfl⟩ (rv_X9 hE hP rfl) hP hD hS rfl hl.1 rfl (Nat.le_of_ble_eq_true rfl) dX9_withdraws_33 ⟨Nat.le_of_ble_eq_true rfl, Nat.le_of_ble_eq_true rfl⟩) hS (fun r12 G11 H locs hw hP hD hS => ?_)
  exact end_i hx hb hr hlk rfl hw hP hD hS dX9_withdraws_36
def wpX9_withdraw (post : Int32 → GS → Prop) (a1 : Int32) (a2 : Int32) (a3 : Int32) (G : GS) : Prop :=
  ∀ G1 : GS, G1 = gI G 189 0 0 →
  wpX9_notWithdraw (fun (r3 : Int32) (G2 : GS) =>
  if r3 = 0 then
    wpX9_remembers (fun (G5 : GS) =>
      wpX9_withdraws (fun (r7 : Int32) (G6 : GS) =>
        post r7 G6) a1 a2 a3 G5)  G2
  else
    wpX9_fails (fun (r9 : Int32) (G8 : GS) =>
      post r9 G8) r3 G2) a1 a2 a3 G1
set_option maxHeartbeats 4000000 in
set_option maxRecDepth 100000 in
theorem okX9_withdraw (X : Cx) (l : Launch) (hfl : l.stackTraces = false) {post : Int32 → GS → Prop} {a1 : Int32} {a2 : Int32} {a3 : Int32} {G : GS}  (hw : wpX9_withdraw post a1 a2 a3 G) : CT X l yX9_withdraw cX9_withdraw 5 (some FieldType.int) 7 0 0 [.ref (xa X 189), .int a1, .int a2, .int a3] G (Qi X post) := by
  refine mbegin (by decide) (Nat.le_of_ble_eq_true rfl) (fun p e s m below meth c hx hb hr hml hlk hown hE hz ls hl hP hD hS => ?_)
  have hl : lv_has ls 5 [(0, .ref (xa X 189)), (1, .int a1), (2, .int a2), (3, .int a3)] := hl
  have hown : s.vm.findClass "FlyTreasuryModel" = some m.cls := hown
  unfold wpX9_withdraw at hw
  refine lv_aload_n hx hb dX9_withdraw_0 rfl (lv_at hl 0 rfl) ?_
  refine lv_iconst (v := 0) hx hb dX9_withdraw_1 (by decide) ?_
  refine pf_X9_0 hx hb hE hP hD hS hown rfl (hE.w qw_1570 rfl _) dX9_withdraw_2 (fun G1 H locs eG1 hP hD hS => ?_)
  replace hw := hw G1 eG1
  refine lv_aload_n hx hb dX9_withdraw_5 rfl (lv_at hl 0 rfl) ?_
  refine lv_iload_n hx hb dX9_withdraw_6 rfl (lv_at hl 1 rfl) ?_
  refine lv_iload_n hx hb dX9_withdraw_7 rfl (lv_at hl 2 rfl) ?_
  refine lv_iload_n hx hb dX9_withdraw_8 rfl (lv_at hl 3 rfl) ?_
  refine call_i (run_V (cc := cX9_withdraw) (As := [.int a1, .int a2, .int a3]) (rest := []) hx hb hml hown hE hz (okX9_notWithdraw X l hfl  hw) qw_1691 qw_1693 qw_31 qw_86 qw_1694 (myX9_notWithdraw) ⟨Nat.le_of_ble_eq_true rfl, Nat.le_of_ble_eq_true rfl⟩ (rv_X9 hE hP rfl) hP hD hS rfl hl.1 rfl (Nat.le_of_ble_eq_true rfl) dX9_withdraw_9 ⟨Nat.le_of_ble_eq_true rfl, Nat.le_of_ble_eq_true rfl⟩) hS (fun r3 G2 H locs hw hP hD hS => ?_)
  refine lv_istore (lv' := [(4, .int r3), (0, .ref (xa X 189)), (1, .int a1), (2, .int a2), (3, .int a3)]) hx hb dX9_withdraw_12 hl (by decide) rfl (fun ls hl => ?_)
  refine lv_iload hx hb dX9_withdraw_14 (lv_at hl 0 rfl) ?_
  refine lv_if_eq (tgt := 26) hx hb dX9_withdraw_16 (by decide) (fun c4 => ?_) (fun c4 => ?_)
  · replace hw := ite_t hw c4
    refine lv_aload_n hx hb dX9_withdraw_26 rfl (lv_at hl 1 rfl) ?_
    refine call_v (run_V (cc := cX9_withdraw) (As := []) (rest := []) hx hb hml hown hE hz (okX9_remembers X l hfl  hw) qw_1640 qw_1642 qw_21 qw_86 qw_1643 (myX9_remembers) ⟨Nat.le_of_ble_eq_true rfl, Nat.le_of_ble_eq_true rfl⟩ (rv_X9 hE hP rfl) hP hD hS rfl hl.1 rfl (Nat.le_of_ble_eq_true rfl) dX9_withdraw_27 ⟨Nat.le_of_ble_eq_true rfl, Nat.le_of_ble_eq_true rfl⟩) hS (fun G5 H locs hw hP hD hS => ?_)
    refine lv_aload_n hx hb dX9_withdraw_30 rfl (lv_at hl 1 rfl) ?_
    refine lv_iload_n hx hb dX9_withdraw_31 rfl (lv_at hl 2 rfl) ?_
    refine lv_iload_n hx hb dX9_withdraw_32 rfl (lv_at hl 3 rfl) ?_
    refine lv_iload_n hx hb dX9_withdraw_33 rfl (lv_at hl 4 rfl) ?_
    refine call_i (run_V (cc := cX9_withdraw) (As := [.int a1, .int a2, .int a3]) (rest := []) hx hb hml hown hE hz (okX9_withdraws X l hfl  hw) qw_1711 qw_1713 qw_36 qw_86 qw_1714 (myX9_withdraws) ⟨Nat.le_of_ble_eq_true rfl, Nat.le_of_ble_eq_true rfl⟩ (rv_X9 hE hP rfl) hP hD hS rfl hl.1 rfl (Nat.le_of_ble_eq_true rfl) dX9_withdraw_34 ⟨Nat.le_of_ble_eq_true rfl, Nat.le_of_ble_eq_true rfl⟩) hS (fun r7 G6 H locs hw hP hD hS => ?_)
    exact end_i hx hb hr hlk rfl hw hP hD hS dX9_withdraw_37
  · replace hw := ite_f hw c4
    refine lv_aload_n hx hb dX9_withdraw_19 rfl (lv_at hl 1 rfl) ?_
    refine lv_iload hx hb dX9_withdraw_20 (lv_at hl 0 rfl) ?_
    refine call_i (run_V (cc := cX9_withdraw) (As := [.int r3]) (rest := []) hx hb hml hown hE hz (okX9_fails X l hfl  hw) qw_1636 qw_1638 qw_20 qw_86 qw_1639 (myX9_fails) ⟨Nat.le_of_ble_eq_true rfl, Nat.le_of_ble_eq_true rfl⟩ (rv_X9 hE hP rfl) hP hD hS rfl hl.1 rfl (Nat.le_of_ble_eq_true rfl) dX9_withdraw_22 ⟨Nat.le_of_ble_eq_true rfl, Nat.le_of_ble_eq_true rfl⟩) hS (fun r9 G8 H locs hw hP hD hS => ?_)
    exact end_i hx hb hr hlk rfl hw hP hD hS dX9_withdraw_25
def wpX9_legsOf (post : Int32 → GS → Prop) (a1 : Int32) (a2 : Int32) (a3 : Int32) (G : GS) : Prop :=
  vp_in (2 + a2) (ln 190) ∧
  wpX9_of (fun (r3 : Int32) (G2 : GS) =>
  post ((a3 * (G.1 190 (2 + a2).toNatClampNeg)) + r3) G2) a1 3 G
set_option maxHeartbeats 4000000 in
set_option maxRecDepth 100000 in
theorem okX9_legsOf (X : Cx) (l : Launch) (hfl : l.stackTraces = false) {post : Int32 → GS → Prop} {a1 : Int32} {a2 : Int32} {a3 : Int32} {G : GS}  (hw : wpX9_legsOf post a1 a2 a3 G) : CT X l yX9_legsOf cX9_legsOf 4 (some FieldType.int) 2 0 0 [.ref (xa X 189), .int a1, .int a2, .int a3] G (Qi X post) := by
  refine mbegin (by decide) (Nat.le_of_ble_eq_true rfl) (fun p e s m below meth c hx hb hr hml hlk hown hE hz ls hl hP hD hS => ?_)
  have hl : lv_has ls 4 [(0, .ref (xa X 189)), (1, .int a1), (2, .int a2), (3, .int a3)] := hl
  have hown : s.vm.findClass "FlyTreasuryModel" = some m.cls := hown
  unfold wpX9_legsOf at hw
  refine lv_iload_n hx hb dX9_legsOf_0 rfl (lv_at hl 3 rfl) ?_
  refine lv_aload_n hx hb dX9_legsOf_1 rfl (lv_at hl 0 rfl) ?_
  refine gf_X9_1 hx hb hE hP hown rfl (hE.w qw_1571 rfl _) dX9_legsOf_2 ?_
  refine lv_iconst (v := 2) hx hb dX9_legsOf_5 (by decide) ?_
  refine lv_iload_n hx hb dX9_legsOf_6 rfl (lv_at hl 2 rfl) ?_
  refine lv_iadd hx hb dX9_legsOf_7 ?_
  obtain ⟨y1, hw⟩ := hw
  refine ald_2 hx hb hE hP rfl y1 dX9_legsOf_8 ?_
  refine lv_imul hx hb dX9_legsOf_9 ?_
  refine lv_aload_n hx hb dX9_legsOf_10 rfl (lv_at hl 0 rfl) ?_
  refine lv_iload_n hx hb dX9_legsOf_11 rfl (lv_at hl 1 rfl) ?_
  refine lv_iconst (v := 3) hx hb dX9_legsOf_12 (by decide) ?_
  refine call_i (run_V (cc := cX9_legsOf) (As := [.int a1, .int 3]) (rest := [.int (a3 * (G.1 190 (2 + a2).toNatClampNeg))]) hx hb hml hown hE hz (okX9_of X l hfl  hw) qw_1675 qw_1677 qw_28 qw_86 qw_1678 (myX9_of) ⟨Nat.le_of_ble_eq_true rfl, Nat.le_of_ble_eq_true rfl⟩ (rv_X9 hE hP rfl) hP hD hS rfl hl.1 rfl (Nat.le_of_ble_eq_true rfl) dX9_legsOf_13 ⟨Nat.le_of_ble_eq_true rfl, Nat.le_of_ble_eq_true rfl⟩) hS (fun r3 G2 H locs hw hP hD hS => ?_)
  refine lv_iadd hx hb dX9_legsOf_16 ?_
  exact end_i hx hb hr hlk rfl hw hP hD hS dX9_legsOf_17
def wpX9_notExchange (post : Int32 → GS → Prop) (a1 : Int32) (a2 : Int32) (a3 : Int32) (a4 : Int32) (G : GS) : Prop :=
  wpX9_isVault (fun (r2 : Int32) (G1 : GS) =>
  if r2 = 0 then
    post 1 G1
  else
    wpX9_kindOf (fun (r5 : Int32) (G4 : GS) =>
      if r5 < 0 then
        post 2 G4
      else
        wpX9_kindOf (fun (r8 : Int32) (G7 : GS) =>
          if r8 < 0 then
            post 2 G7
          else
            if a2 = a3 then
              post 2 G7
            else
              wpX9_isBetween (fun (r12 : Int32) (G11 : GS) =>
                if r12 = 0 then
                  post 2 G11
                else
                  wpX9_of (fun (r15 : Int32) (G14 : GS) =>
                    if r15 ≤ 0 then
                      wpX9_kindOf (fun (r18 : Int32) (G17 : GS) =>
                        wpX9_legsOf (fun (r20 : Int32) (G19 : GS) =>
                          wpX9_kindOf (fun (r22 : Int32) (G21 : GS) =>
                            vp_in (2 + r22) (ln 190) ∧
                              ¬ (G21.1 190 (2 + r22).toNatClampNeg) = 0 ∧
                              ∀ z25 : Int32, z25 = (r20 / (G21.1 190 (2 + r22).toNatClampNeg)) →
                              wpX9_kindOf (fun (r27 : Int32) (G26 : GS) =>
                              wpX9_of (fun (r29 : Int32) (G28 : GS) =>
                                if r29 < a4 then
                                  post 4 G28
                                else
                                  wpX9_kindOf (fun (r32 : Int32) (G31 : GS) =>
                                    wpX9_of (fun (r34 : Int32) (G33 : GS) =>
                                      if (r34 + z25) ≤ 99 then
                                        post 0 G33
                                      else
                                        post 4 G33) a1 r32 G31) a3 G28) a1 r27 G26) a2 G21) a3 G19) a1 r18 a4 G17) a2 G14
                    else
                      post 3 G14) a1 7 G11) a4 1 30 G7) a3 G4) a2 G1) a1 G
set_option maxHeartbeats 4000000 in
set_option maxRecDepth 100000 in
theorem okX9_notExchange (X : Cx) (l : Launch) (hfl : l.stackTraces = false) {post : Int32 → GS → Prop} {a1 : Int32} {a2 : Int32} {a3 : Int32} {a4 : Int32} {G : GS}  (hw : wpX9_notExchange post a1 a2 a3 a4 G) : CT X l yX9_notExchange cX9_notExchange 6 (some FieldType.int) 3 0 0 [.ref (xa X 189), .int a1, .int a2, .int a3, .int a4] G (Qi X post) := by
  refine mbegin (by decide) (Nat.le_of_ble_eq_true rfl) (fun p e s m below meth c hx hb hr hml hlk hown hE hz ls hl hP hD hS => ?_)
  have hl : lv_has ls 6 [(0, .ref (xa X 189)), (1, .int a1), (2, .int a2), (3, .int a3), (4, .int a4)] := hl
  have hown : s.vm.findClass "FlyTreasuryModel" = some m.cls := hown
  unfold wpX9_notExchange at hw
  refine lv_aload_n hx hb dX9_notExchange_0 rfl (lv_at hl 0 rfl) ?_
  refine lv_iload_n hx hb dX9_notExchange_1 rfl (lv_at hl 1 rfl) ?_
  refine call_i (run_V (cc := cX9_notExchange) (As := [.int a1]) (rest := []) hx hb hml hown hE hz (okX9_isVault X l hfl  hw) qw_1668 qw_1670 qw_27 qw_86 qw_1671 (myX9_isVault) ⟨Nat.le_of_ble_eq_true rfl, Nat.le_of_ble_eq_true rfl⟩ (rv_X9 hE hP rfl) hP hD hS rfl hl.1 rfl (Nat.le_of_ble_eq_true rfl) dX9_notExchange_2 ⟨Nat.le_of_ble_eq_true rfl, Nat.le_of_ble_eq_true rfl⟩) hS (fun r2 G1 H locs hw hP hD hS => ?_)
  refine lv_if_ne (tgt := 10) hx hb dX9_notExchange_5 (by decide) (fun c3 => ?_) (fun c3 => ?_)
  · replace hw := ite_f hw c3
    refine lv_iload_n hx hb dX9_notExchange_10 rfl (lv_at hl 2 rfl) ?_
    refine call_i (run_S (cc := cX9_notExchange) (As := [.int a2]) (rest := []) hx hb hml hown hE hz (okX9_kindOf X l hfl  hw) qw_1672 qw_1673 qw_86 qw_1674 (myX9_kindOf).2 ⟨Nat.le_of_ble_eq_true rfl, Nat.le_of_ble_eq_true rfl⟩ hP hD hS rfl hl.1 rfl (Nat.le_of_ble_eq_true rfl) dX9_notExchange_11 ⟨Nat.le_of_ble_eq_true rfl, Nat.le_of_ble_eq_true rfl⟩) hS (fun r5 G4 H locs hw hP hD hS => ?_)
    refine lv_if_lt (tgt := 40) hx hb dX9_notExchange_14 (by decide) (fun c6 => ?_) (fun c6 => ?_)
    · replace hw := ite_t hw c6
      refine lv_iconst (v := 2) hx hb dX9_notExchange_40 (by decide) ?_
      exact end_i hx hb hr hlk rfl hw hP hD hS dX9_notExchange_41
    · replace hw := ite_f hw c6
      refine lv_iload_n hx hb dX9_notExchange_17 rfl (lv_at hl 3 rfl) ?_
      refine call_i (run_S (cc := cX9_notExchange) (As := [.int a3]) (rest := []) hx hb hml hown hE hz (okX9_kindOf X l hfl  hw) qw_1672 qw_1673 qw_86 qw_1674 (myX9_kindOf).2 ⟨Nat.le_of_ble_eq_true rfl, Nat.le_of_ble_eq_true rfl⟩ hP hD hS rfl hl.1 rfl (Nat.le_of_ble_eq_true rfl) dX9_notExchange_18 ⟨Nat.le_of_ble_eq_true rfl, Nat.le_of_ble_eq_true rfl⟩) hS (fun r8 G7 H locs hw hP hD hS => ?_)
      refine lv_if_lt (tgt := 40) hx hb dX9_notExchange_21 (by decide) (fun c9 => ?_) (fun c9 => ?_)
      · replace hw := ite_t hw c9
        refine lv_iconst (v := 2) hx hb dX9_notExchange_40 (by decide) ?_
        exact end_i hx hb hr hlk rfl hw hP hD hS dX9_notExchange_41
      · replace hw := ite_f hw c9
        refine lv_iload_n hx hb dX9_notExchange_24 rfl (lv_at hl 2 rfl) ?_
        refine lv_iload_n hx hb dX9_notExchange_25 rfl (lv_at hl 3 rfl) ?_
        refine lv_icmp_eq (tgt := 40) hx hb dX9_notExchange_26 (by decide) (fun c10 => ?_) (fun c10 => ?_)
        · replace hw := ite_t hw c10
          refine lv_iconst (v := 2) hx hb dX9_notExchange_40 (by decide) ?_
          exact end_i hx hb hr hlk rfl hw hP hD hS dX9_notExchange_41
        · replace hw := ite_f hw c10
          refine lv_iload hx hb dX9_notExchange_29 (lv_at hl 4 rfl) ?_
          refine lv_iconst (v := 1) hx hb dX9_notExchange_31 (by decide) ?_
          refine lv_bipush (v := 30) hx hb dX9_notExchange_32 (by decide) ?_
          refine call_i (run_S (cc := cX9_notExchange) (As := [.int a4, .int 1, .int 30]) (rest := []) hx hb hml hown hE hz (okX9_isBetween X l hfl  hw) qw_1633 qw_1634 qw_86 qw_1635 (myX9_isBetween).2 ⟨Nat.le_of_ble_eq_true rfl, Nat.le_of_ble_eq_true rfl⟩ hP hD hS rfl hl.1 rfl (Nat.le_of_ble_eq_true rfl) dX9_notExchange_34 ⟨Nat.le_of_ble_eq_true rfl, Nat.le_of_ble_eq_true rfl⟩) hS (fun r12 G11 H locs hw hP hD hS => ?_)
          refine lv_if_ne (tgt := 42) hx hb dX9_notExchange_37 (by decide) (fun c13 => ?_) (fun c13 => ?_)
          · replace hw := ite_f hw c13
            refine lv_aload_n hx hb dX9_notExchange_42 rfl (lv_at hl 0 rfl) ?_
            refine lv_iload_n hx hb dX9_notExchange_43 rfl (lv_at hl 1 rfl) ?_
            refine lv_bipush (v := 7) hx hb dX9_notExchange_44 (by decide) ?_
            refine call_i (run_V (cc := cX9_notExchange) (As := [.int a1, .int 7]) (rest := []) hx hb hml hown hE hz (okX9_of X l hfl  hw) qw_1675 qw_1677 qw_28 qw_86 qw_1678 (myX9_of) ⟨Nat.le_of_ble_eq_true rfl, Nat.le_of_ble_eq_true rfl⟩ (rv_X9 hE hP rfl) hP hD hS rfl hl.1 rfl (Nat.le_of_ble_eq_true rfl) dX9_notExchange_46 ⟨Nat.le_of_ble_eq_true rfl, Nat.le_of_ble_eq_true rfl⟩) hS (fun r15 G14 H locs hw hP hD hS => ?_)
            refine lv_if_le (tgt := 54) hx hb dX9_notExchange_49 (by decide) (fun c16 => ?_) (fun c16 => ?_)
            · replace hw := ite_t hw c16
              refine lv_aload_n hx hb dX9_notExchange_54 rfl (lv_at hl 0 rfl) ?_
              refine lv_iload_n hx hb dX9_notExchange_55 rfl (lv_at hl 1 rfl) ?_
              refine lv_iload_n hx hb dX9_notExchange_56 rfl (lv_at hl 2 rfl) ?_
              refine call_i (run_S (cc := cX9_notExchange) (As := [.int a2]) (rest := [.int a1, .ref (xa X 189)]) hx hb hml hown hE hz (okX9_kindOf X l hfl  hw) qw_1672 qw_1673 qw_86 qw_1674 (myX9_kindOf).2 ⟨Nat.le_of_ble_eq_true rfl, Nat.le_of_ble_eq_true rfl⟩ hP hD hS rfl hl.1 rfl (Nat.le_of_ble_eq_true rfl) dX9_notExchange_57 ⟨Nat.le_of_ble_eq_true rfl, Nat.le_of_ble_eq_true rfl⟩) hS (fun r18 G17 H locs hw hP hD hS => ?_)
              refine lv_iload hx hb dX9_notExchange_60 (lv_at hl 4 rfl) ?_
              refine call_i (run_V (cc := cX9_notExchange) (As := [.int a1, .int r18, .int a4]) (rest := []) hx hb hml hown hE hz (okX9_legsOf X l hfl  hw) qw_1723 qw_1725 qw_38 qw_86 qw_1726 (myX9_legsOf) ⟨Nat.le_of_ble_eq_true rfl, Nat.le_of_ble_eq_true rfl⟩ (rv_X9 hE hP rfl) hP hD hS rfl hl.1 rfl (Nat.le_of_ble_eq_true rfl) dX9_notExchange_62 ⟨Nat.le_of_ble_eq_true rfl, Nat.le_of_ble_eq_true rfl⟩) hS (fun r20 G19 H locs hw hP hD hS => ?_)
              refine lv_aload_n hx hb dX9_notExchange_65 rfl (lv_at hl 0 rfl) ?_
              refine gf_X9_1 hx hb hE hP hown rfl (hE.w qw_1571 rfl _) dX9_notExchange_66 ?_
              refine lv_iconst (v := 2) hx hb dX9_notExchange_69 (by decide) ?_
              refine lv_iload_n hx hb dX9_notExchange_70 rfl (lv_at hl 3 rfl) ?_
              refine call_i (run_S (cc := cX9_notExchange) (As := [.int a3]) (rest := [.int 2, .ref (xa X 190), .int r20]) hx hb hml hown hE hz (okX9_kindOf X l hfl  hw) qw_1672 qw_1673 qw_86 qw_1674 (myX9_kindOf).2 ⟨Nat.le_of_ble_eq_true rfl, Nat.le_of_ble_eq_true rfl⟩ hP hD hS rfl hl.1 rfl (Nat.le_of_ble_eq_true rfl) dX9_notExchange_71 ⟨Nat.le_of_ble_eq_true rfl, Nat.le_of_ble_eq_true rfl⟩) hS (fun r22 G21 H locs hw hP hD hS => ?_)
              refine lv_iadd hx hb dX9_notExchange_74 ?_
              obtain ⟨y23, hw⟩ := hw
              refine ald_2 hx hb hE hP rfl y23 dX9_notExchange_75 ?_
              obtain ⟨y24, hw⟩ := hw
              refine lv_idiv hx hb dX9_notExchange_76 y24 ?_
              refine lv_topi (fun z25 ez25 => ?_)
              replace hw := hw z25 ez25
              refine lv_istore (lv' := [(5, .int z25), (0, .ref (xa X 189)), (1, .int a1), (2, .int a2), (3, .int a3), (4, .int a4)]) hx hb dX9_notExchange_77 hl (by decide) rfl (fun ls hl => ?_)
              refine lv_aload_n hx hb dX9_notExchange_79 rfl (lv_at hl 1 rfl) ?_
              refine lv_iload_n hx hb dX9_notExchange_80 rfl (lv_at hl 2 rfl) ?_
              refine lv_iload_n hx hb dX9_notExchange_81 rfl (lv_at hl 3 rfl) ?_
              refine call_i (run_S (cc := cX9_notExchange) (As := [.int a2]) (rest := [.int a1, .ref (xa X 189)]) hx hb hml hown hE hz (okX9_kindOf X l hfl  hw) qw_1672 qw_1673 qw_86 qw_1674 (myX9_kindOf).2 ⟨Nat.le_of_ble_eq_true rfl, Nat.le_of_ble_eq_true rfl⟩ hP hD hS rfl hl.1 rfl (Nat.le_of_ble_eq_true rfl) dX9_notExchange_82 ⟨Nat.le_of_ble_eq_true rfl, Nat.le_of_ble_eq_true rfl⟩) hS (fun r27 G26 H locs hw hP hD hS => ?_)
              refine call_i (run_V (cc := cX9_notExchange) (As := [.int a1, .int r27]) (rest := []) hx hb hml hown hE hz (okX9_of X l hfl  hw) qw_1675 qw_1677 qw_28 qw_86 qw_1678 (myX9_of) ⟨Nat.le_of_ble_eq_true rfl, Nat.le_of_ble_eq_true rfl⟩ (rv_X9 hE hP rfl) hP hD hS rfl hl.1 rfl (Nat.le_of_ble_eq_true rfl) dX9_notExchange_85 ⟨Nat.le_of_ble_eq_true rfl, Nat.le_of_ble_eq_true rfl⟩) hS (fun r29 G28 H locs hw hP hD hS => ?_)
              refine lv_iload hx hb dX9_notExchange_88 (lv_at hl 5 rfl) ?_
              refine lv_icmp_lt (tgt := 110) hx hb dX9_notExchange_90 (by decide) (fun c30 => ?_) (fun c30 => ?_)
              · replace hw := ite_t hw c30
                refine lv_iconst (v := 4) hx hb dX9_notExchange_110 (by decide) ?_
                refine lv_goto (tgt := 115) hx hb dX9_notExchange_111 (by decide) ?_
                exact end_i hx hb hr hlk rfl hw hP hD hS dX9_notExchange_115
              · replace hw := ite_f hw c30
                refine lv_aload_n hx hb dX9_notExchange_93 rfl (lv_at hl 1 rfl) ?_
                refine lv_iload_n hx hb dX9_notExchange_94 rfl (lv_at hl 2 rfl) ?_
                refine lv_iload_n hx hb dX9_notExchange_95 rfl (lv_at hl 4 rfl) ?_
                refine call_i (run_S (cc := cX9_notExchange) (As := [.int a3]) (rest := [.int a1, .ref (xa X 189)]) hx hb hml hown hE hz (okX9_kindOf X l hfl  hw) qw_1672 qw_1673 qw_86 qw_1674 (myX9_kindOf).2 ⟨Nat.le_of_ble_eq_true rfl, Nat.le_of_ble_eq_true rfl⟩ hP hD hS rfl hl.1 rfl (Nat.le_of_ble_eq_true rfl) dX9_notExchange_96 ⟨Nat.le_of_ble_eq_true rfl, Nat.le_of_ble_eq_true rfl⟩) hS (fun r32 G31 H locs hw hP hD hS => ?_)
                refine call_i (run_V (cc := cX9_notExchange) (As := [.int a1, .int r32]) (rest := []) hx hb hml hown hE hz (okX9_of X l hfl  hw) qw_1675 qw_1677 qw_28 qw_86 qw_1678 (myX9_of) ⟨Nat.le_of_ble_eq_true rfl, Nat.le_of_ble_eq_true rfl⟩ (rv_X9 hE hP rfl) hP hD hS rfl hl.1 rfl (Nat.le_of_ble_eq_true rfl) dX9_notExchange_99 ⟨Nat.le_of_ble_eq_true rfl, Nat.le_of_ble_eq_true rfl⟩) hS (fun r34 G33 H locs hw hP hD hS => ?_)
                refine lv_iload hx hb dX9_notExchange_102 (lv_at hl 0 rfl) ?_
                refine lv_iadd hx hb dX9_notExchange_104 ?_
                refine lv_bipush (v := 99) hx hb dX9_notExchange_105 (by decide) ?_
                refine lv_icmp_le (tgt := 114) hx hb dX9_notExchange_107 (by decide) (fun c35 => ?_) (fun c35 => ?_)
                · replace hw := ite_t hw c35
                  refine lv_iconst (v := 0) hx hb dX9_notExchange_114 (by decide) ?_
                  exact end_i hx hb hr hlk rfl hw hP hD hS dX9_notExchange_115
                · replace hw := ite_f hw c35
                  refine lv_iconst (v := 4) hx hb dX9_notExchange_110 (by decide) ?_
                  refine lv_goto (tgt := 115) hx hb dX9_notExchange_111 (by decide) ?_
                  exact end_i hx hb hr hlk rfl hw hP hD hS dX9_notExchange_115
            · replace hw := ite_f hw c16
              refine lv_iconst (v := 3) hx hb dX9_notExchange_52 (by decide) ?_
              exact end_i hx hb hr hlk rfl hw hP hD hS dX9_notExchange_53
          · replace hw := ite_t hw c13
            refine lv_iconst (v := 2) hx hb dX9_notExchange_40 (by decide) ?_
            exact end_i hx hb hr hlk rfl hw hP hD hS dX9_notExchange_41
  · replace hw := ite_t hw c3
    refine lv_iconst (v := 1) hx hb dX9_notExchange_8 (by decide) ?_
    exact end_i hx hb hr hlk rfl hw hP hD hS dX9_notExchange_9
def wpX9_exchanges (post : Int32 → GS → Prop) (a1 : Int32) (a2 : Int32) (a3 : Int32) (a4 : Int32) (G : GS) : Prop :=
  wpX9_kindOf (fun (r2 : Int32) (G1 : GS) =>
  wpX9_legsOf (fun (r4 : Int32) (G3 : GS) =>
    wpX9_kindOf (fun (r6 : Int32) (G5 : GS) =>
      vp_in (2 + r6) (ln 190) ∧
        ¬ (G5.1 190 (2 + r6).toNatClampNeg) = 0 ∧
        ∀ z9 : Int32, z9 = (r4 / (G5.1 190 (2 + r6).toNatClampNeg)) →
        wpX9_kindOf (fun (r11 : Int32) (G10 : GS) =>
        vp_in (2 + r11) (ln 190) ∧
          ¬ (G10.1 190 (2 + r11).toNatClampNeg) = 0 ∧
          wpX9_puts (fun (G14 : GS) =>
          wpX9_kindOf (fun (r16 : Int32) (G15 : GS) =>
            wpX9_adds (fun (G17 : GS) =>
              wpX9_kindOf (fun (r19 : Int32) (G18 : GS) =>
                wpX9_adds (fun (G20 : GS) =>
                  wpX9_kindOf (fun (r22 : Int32) (G21 : GS) =>
                    vp_in (8 + r22) (ln 190) ∧
                      vp_in (8 + r22) (ln 190) ∧ ∀ G25 : GS, G25 = gI G21 190 ((8 + r22).toNatClampNeg) ((G21.1 190 (8 + r22).toNatClampNeg) + a4) →
                      wpX9_kindOf (fun (r27 : Int32) (G26 : GS) =>
                      vp_in (5 + r27) (ln 190) ∧
                        vp_in (5 + r27) (ln 190) ∧ ∀ G30 : GS, G30 = gI G26 190 ((5 + r27).toNatClampNeg) ((G26.1 190 (5 + r27).toNatClampNeg) + z9) →
                        post z9 G30) a3 G25) a2 G20) a1 r19 z9 G18) a3 G17) a1 r16 (-a4) G15) a2 G14) a1 3 (r4 - r4 / (G10.1 190 (2 + r11).toNatClampNeg) * (G10.1 190 (2 + r11).toNatClampNeg)) G10) a3 G5) a3 G3) a1 r2 a4 G1) a2 G
set_option maxHeartbeats 4000000 in
set_option maxRecDepth 100000 in
theorem okX9_exchanges (X : Cx) (l : Launch) (hfl : l.stackTraces = false) {post : Int32 → GS → Prop} {a1 : Int32} {a2 : Int32} {a3 : Int32} {a4 : Int32} {G : GS}  (hw : wpX9_exchanges post a1 a2 a3 a4 G) : CT X l yX9_exchanges cX9_exchanges 7 (some FieldType.int) 3 0 0 [.ref (xa X 189), .int a1, .int a2, .int a3, .int a4] G (Qi X post) := by
  refine mbegin (by decide) (Nat.le_of_ble_eq_true rfl) (fun p e s m below meth c hx hb hr hml hlk hown hE hz ls hl hP hD hS => ?_)
  have hl : lv_has ls 7 [(0, .ref (xa X 189)), (1, .int a1), (2, .int a2), (3, .int a3), (4, .int a4)] := hl
  have hown : s.vm.findClass "FlyTreasuryModel" = some m.cls := hown
  unfold wpX9_exchanges at hw
  refine lv_aload_n hx hb dX9_exchanges_0 rfl (lv_at hl 0 rfl) ?_
  refine lv_iload_n hx hb dX9_exchanges_1 rfl (lv_at hl 1 rfl) ?_
  refine lv_iload_n hx hb dX9_exchanges_2 rfl (lv_at hl 2 rfl) ?_
  refine call_i (run_S (cc := cX9_exchanges) (As := [.int a2]) (rest := [.int a1, .ref (xa X 189)]) hx hb hml hown hE hz (okX9_kindOf X l hfl  hw) qw_1672 qw_1673 qw_86 qw_1674 (myX9_kindOf).2 ⟨Nat.le_of_ble_eq_true rfl, Nat.le_of_ble_eq_true rfl⟩ hP hD hS rfl hl.1 rfl (Nat.le_of_ble_eq_true rfl) dX9_exchanges_3 ⟨Nat.le_of_ble_eq_true rfl, Nat.le_of_ble_eq_true rfl⟩) hS (fun r2 G1 H locs hw hP hD hS => ?_)
  refine lv_iload hx hb dX9_exchanges_6 (lv_at hl 4 rfl) ?_
  refine call_i (run_V (cc := cX9_exchanges) (As := [.int a1, .int r2, .int a4]) (rest := []) hx hb hml hown hE hz (okX9_legsOf X l hfl  hw) qw_1723 qw_1725 qw_38 qw_86 qw_1726 (myX9_legsOf) ⟨Nat.le_of_ble_eq_true rfl, Nat.le_of_ble_eq_true rfl⟩ (rv_X9 hE hP rfl) hP hD hS rfl hl.1 rfl (Nat.le_of_ble_eq_true rfl) dX9_exchanges_8 ⟨Nat.le_of_ble_eq_true rfl, Nat.le_of_ble_eq_true rfl⟩) hS (fun r4 G3 H locs hw hP hD hS => ?_)
  refine lv_istore (lv' := [(5, .int r4), (0, .ref (xa X 189)), (1, .int a1), (2, .int a2), (3, .int a3), (4, .int a4)]) hx hb dX9_exchanges_11 hl (by decide) rfl (fun ls hl => ?_)
  refine lv_iload hx hb dX9_exchanges_13 (lv_at hl 0 rfl) ?_
  refine lv_aload_n hx hb dX9_exchanges_15 rfl (lv_at hl 1 rfl) ?_
  refine gf_X9_1 hx hb hE hP hown rfl (hE.w qw_1571 rfl _) dX9_exchanges_16 ?_
  refine lv_iconst (v := 2) hx hb dX9_exchanges_19 (by decide) ?_
  refine lv_iload_n hx hb dX9_exchanges_20 rfl (lv_at hl 4 rfl) ?_
  refine call_i (run_S (cc := cX9_exchanges) (As := [.int a3]) (rest := [.int 2, .ref (xa X 190), .int r4]) hx hb hml hown hE hz (okX9_kindOf X l hfl  hw) qw_1672 qw_1673 qw_86 qw_1674 (myX9_kindOf).2 ⟨Nat.le_of_ble_eq_true rfl, Nat.le_of_ble_eq_true rfl⟩ hP hD hS rfl hl.1 rfl (Nat.le_of_ble_eq_true rfl) dX9_exchanges_21 ⟨Nat.le_of_ble_eq_true rfl, Nat.le_of_ble_eq_true rfl⟩) hS (fun r6 G5 H locs hw hP hD hS => ?_)
  refine lv_iadd hx hb dX9_exchanges_24 ?_
  obtain ⟨y7, hw⟩ := hw
  refine ald_2 hx hb hE hP rfl y7 dX9_exchanges_25 ?_
  obtain ⟨y8, hw⟩ := hw
  refine lv_idiv hx hb dX9_exchanges_26 y8 ?_
  refine lv_topi (fun z9 ez9 => ?_)
  replace hw := hw z9 ez9
  refine lv_istore (lv' := [(6, .int z9), (5, .int r4), (0, .ref (xa X 189)), (1, .int a1), (2, .int a2), (3, .int a3), (4, .int a4)]) hx hb dX9_exchanges_27 hl (by decide) rfl (fun ls hl => ?_)
  refine lv_aload_n hx hb dX9_exchanges_29 rfl (lv_at hl 2 rfl) ?_
  refine lv_iload_n hx hb dX9_exchanges_30 rfl (lv_at hl 3 rfl) ?_
  refine lv_iconst (v := 3) hx hb dX9_exchanges_31 (by decide) ?_
  refine lv_iload hx hb dX9_exchanges_32 (lv_at hl 1 rfl) ?_
  refine lv_aload_n hx hb dX9_exchanges_34 rfl (lv_at hl 2 rfl) ?_
  refine gf_X9_1 hx hb hE hP hown rfl (hE.w qw_1571 rfl _) dX9_exchanges_35 ?_
  refine lv_iconst (v := 2) hx hb dX9_exchanges_38 (by decide) ?_
  refine lv_iload_n hx hb dX9_exchanges_39 rfl (lv_at hl 5 rfl) ?_
  refine call_i (run_S (cc := cX9_exchanges) (As := [.int a3]) (rest := [.int 2, .ref (xa X 190), .int r4, .int 3, .int a1, .ref (xa X 189)]) hx hb hml hown hE hz (okX9_kindOf X l hfl  hw) qw_1672 qw_1673 qw_86 qw_1674 (myX9_kindOf).2 ⟨Nat.le_of_ble_eq_true rfl, Nat.le_of_ble_eq_true rfl⟩ hP hD hS rfl hl.1 rfl (Nat.le_of_ble_eq_true rfl) dX9_exchanges_40 ⟨Nat.le_of_ble_eq_true rfl, Nat.le_of_ble_eq_true rfl⟩) hS (fun r11 G10 H locs hw hP hD hS => ?_)
  refine lv_iadd hx hb dX9_exchanges_43 ?_
  obtain ⟨y12, hw⟩ := hw
  refine ald_2 hx hb hE hP rfl y12 dX9_exchanges_44 ?_
  obtain ⟨y13, hw⟩ := hw
  refine lv_irem hx hb dX9_exchanges_45 y13 ?_
  refine call_v (run_V (cc := cX9_exchanges) (As := [.int a1, .int 3, .int (r4 - r4 / (G10.1 190 (2 + r11).toNatClampNeg) * (G10.1 190 (2 + r11).toNatClampNeg))]) (rest := []) hx hb hml hown hE hz (okX9_puts X l hfl  hw) qw_1656 qw_1658 qw_25 qw_86 qw_1659 (myX9_puts) ⟨Nat.le_of_ble_eq_true rfl, Nat.le_of_ble_eq_true rfl⟩ (rv_X9 hE hP rfl) hP hD hS rfl hl.1 rfl (Nat.le_of_ble_eq_true rfl) dX9_exchanges_46 ⟨Nat.le_of_ble_eq_true rfl, Nat.le_of_ble_eq_true rfl⟩) hS (fun G14 H locs hw hP hD hS => ?_)
  refine lv_aload_n hx hb dX9_exchanges_49 rfl (lv_at hl 2 rfl) ?_
  refine lv_iload_n hx hb dX9_exchanges_50 rfl (lv_at hl 3 rfl) ?_
  refine lv_iload_n hx hb dX9_exchanges_51 rfl (lv_at hl 4 rfl) ?_
  refine call_i (run_S (cc := cX9_exchanges) (As := [.int a2]) (rest := [.int a1, .ref (xa X 189)]) hx hb hml hown hE hz (okX9_kindOf X l hfl  hw) qw_1672 qw_1673 qw_86 qw_1674 (myX9_kindOf).2 ⟨Nat.le_of_ble_eq_true rfl, Nat.le_of_ble_eq_true rfl⟩ hP hD hS rfl hl.1 rfl (Nat.le_of_ble_eq_true rfl) dX9_exchanges_52 ⟨Nat.le_of_ble_eq_true rfl, Nat.le_of_ble_eq_true rfl⟩) hS (fun r16 G15 H locs hw hP hD hS => ?_)
  refine lv_iload hx hb dX9_exchanges_55 (lv_at hl 6 rfl) ?_
  refine lv_ineg hx hb dX9_exchanges_57 ?_
  refine call_v (run_V (cc := cX9_exchanges) (As := [.int a1, .int r16, .int (-a4)]) (rest := []) hx hb hml hown hE hz (okX9_adds X l hfl  hw) qw_1683 qw_1685 qw_30 qw_86 qw_1686 (myX9_adds) ⟨Nat.le_of_ble_eq_true rfl, Nat.le_of_ble_eq_true rfl⟩ (rv_X9 hE hP rfl) hP hD hS rfl hl.1 rfl (Nat.le_of_ble_eq_true rfl) dX9_exchanges_58 ⟨Nat.le_of_ble_eq_true rfl, Nat.le_of_ble_eq_true rfl⟩) hS (fun G17 H locs hw hP hD hS => ?_)
  refine lv_aload_n hx hb dX9_exchanges_61 rfl (lv_at hl 2 rfl) ?_
  refine lv_iload_n hx hb dX9_exchanges_62 rfl (lv_at hl 3 rfl) ?_
  refine lv_iload_n hx hb dX9_exchanges_63 rfl (lv_at hl 5 rfl) ?_
  refine call_i (run_S (cc := cX9_exchanges) (As := [.int a3]) (rest := [.int a1, .ref (xa X 189)]) hx hb hml hown hE hz (okX9_kindOf X l hfl  hw) qw_1672 qw_1673 qw_86 qw_1674 (myX9_kindOf).2 ⟨Nat.le_of_ble_eq_true rfl, Nat.le_of_ble_eq_true rfl⟩ hP hD hS rfl hl.1 rfl (Nat.le_of_ble_eq_true rfl) dX9_exchanges_64 ⟨Nat.le_of_ble_eq_true rfl, Nat.le_of_ble_eq_true rfl⟩) hS (fun r19 G18 H locs hw hP hD hS => ?_)
  refine lv_iload hx hb dX9_exchanges_67 (lv_at hl 0 rfl) ?_
  refine call_v (run_V (cc := cX9_exchanges) (As := [.int a1, .int r19, .int z9]) (rest := []) hx hb hml hown hE hz (okX9_adds X l hfl  hw) qw_1683 qw_1685 qw_30 qw_86 qw_1686 (myX9_adds) ⟨Nat.le_of_ble_eq_true rfl, Nat.le_of_ble_eq_true rfl⟩ (rv_X9 hE hP rfl) hP hD hS rfl hl.1 rfl (Nat.le_of_ble_eq_true rfl) dX9_exchanges_69 ⟨Nat.le_of_ble_eq_true rfl, Nat.le_of_ble_eq_true rfl⟩) hS (fun G20 H locs hw hP hD hS => ?_)
  refine lv_aload_n hx hb dX9_exchanges_72 rfl (lv_at hl 2 rfl) ?_
  refine gf_X9_1 hx hb hE hP hown rfl (hE.w qw_1571 rfl _) dX9_exchanges_73 ?_
  refine lv_bipush (v := 8) hx hb dX9_exchanges_76 (by decide) ?_
  refine lv_iload_n hx hb dX9_exchanges_78 rfl (lv_at hl 4 rfl) ?_
  refine call_i (run_S (cc := cX9_exchanges) (As := [.int a2]) (rest := [.int 8, .ref (xa X 190)]) hx hb hml hown hE hz (okX9_kindOf X l hfl  hw) qw_1672 qw_1673 qw_86 qw_1674 (myX9_kindOf).2 ⟨Nat.le_of_ble_eq_true rfl, Nat.le_of_ble_eq_true rfl⟩ hP hD hS rfl hl.1 rfl (Nat.le_of_ble_eq_true rfl) dX9_exchanges_79 ⟨Nat.le_of_ble_eq_true rfl, Nat.le_of_ble_eq_true rfl⟩) hS (fun r22 G21 H locs hw hP hD hS => ?_)
  refine lv_iadd hx hb dX9_exchanges_82 ?_
  refine lv_dup2_11 hx hb dX9_exchanges_83 rfl rfl ?_
  obtain ⟨y23, hw⟩ := hw
  refine ald_2 hx hb hE hP rfl y23 dX9_exchanges_84 ?_
  refine lv_iload hx hb dX9_exchanges_85 (lv_at hl 6 rfl) ?_
  refine lv_iadd hx hb dX9_exchanges_87 ?_
  obtain ⟨y24, hw⟩ := hw
  refine ast_2 hx hb hE hP hD hS rfl y24 dX9_exchanges_88 (fun G25 H locs eG25 hP hD hS => ?_)
  replace hw := hw G25 eG25
  refine lv_aload_n hx hb dX9_exchanges_89 rfl (lv_at hl 2 rfl) ?_
  refine gf_X9_1 hx hb hE hP hown rfl (hE.w qw_1571 rfl _) dX9_exchanges_90 ?_
  refine lv_iconst (v := 5) hx hb dX9_exchanges_93 (by decide) ?_
  refine lv_iload_n hx hb dX9_exchanges_94 rfl (lv_at hl 5 rfl) ?_
  refine call_i (run_S (cc := cX9_exchanges) (As := [.int a3]) (rest := [.int 5, .ref (xa X 190)]) hx hb hml hown hE hz (okX9_kindOf X l hfl  hw) qw_1672 qw_1673 qw_86 qw_1674 (myX9_kindOf).2 ⟨Nat.le_of_ble_eq_true rfl, Nat.le_of_ble_eq_true rfl⟩ hP hD hS rfl hl.1 rfl (Nat.le_of_ble_eq_true rfl) dX9_exchanges_95 ⟨Nat.le_of_ble_eq_true rfl, Nat.le_of_ble_eq_true rfl⟩) hS (fun r27 G26 H locs hw hP hD hS => ?_)
  refine lv_iadd hx hb dX9_exchanges_98 ?_
  refine lv_dup2_11 hx hb dX9_exchanges_99 rfl rfl ?_
  obtain ⟨y28, hw⟩ := hw
  refine ald_2 hx hb hE hP rfl y28 dX9_exchanges_100 ?_
  refine lv_iload hx hb dX9_exchanges_101 (lv_at hl 0 rfl) ?_
  refine lv_iadd hx hb dX9_exchanges_103 ?_
  obtain ⟨y29, hw⟩ := hw
  refine ast_2 hx hb hE hP hD hS rfl y29 dX9_exchanges_104 (fun G30 H locs eG30 hP hD hS => ?_)
  replace hw := hw G30 eG30
  refine lv_iload hx hb dX9_exchanges_105 (lv_at hl 0 rfl) ?_
  exact end_i hx hb hr hlk rfl hw hP hD hS dX9_exchanges_107
