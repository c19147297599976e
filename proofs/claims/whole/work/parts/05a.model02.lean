def wpX9_exchange (post : Int32 → GS → Prop) (a1 : Int32) (a2 : Int32) (a3 : Int32) (a4 : Int32) (G : GS) : Prop :=
  ∀ G1 : GS, G1 = gI G 189 0 0 →
  wpX9_notExchange (fun (r3 : Int32) (G2 : GS) =>
  if r3 = 0 then
    wpX9_remembers (fun (G5 : GS) =>
      wpX9_exchanges (fun (r7 : Int32) (G6 : GS) =>
        post r7 G6) a1 a2 a3 a4 G5)  G2
  else
    wpX9_fails (fun (r9 : Int32) (G8 : GS) =>
      post r9 G8) r3 G2) a1 a2 a3 a4 G1
set_option maxHeartbeats 4000000 in
set_option maxRecDepth 100000 in
theorem okX9_exchange (X : Cx) (l : Launch) (hfl : l.stackTraces = false) {post : Int32 → GS → Prop} {a1 : Int32} {a2 : Int32} {a3 : Int32} {a4 : Int32} {G : GS}  (hw : wpX9_exchange post a1 a2 a3 a4 G) : CT X l yX9_exchange cX9_exchange 6 (some FieldType.int) 4 0 0 [.ref (xa X 189), .int a1, .int a2, .int a3, .int a4] G (Qi X post) := by
  refine mbegin (by decide) (Nat.le_of_ble_eq_true rfl) (fun p e s m below meth c hx hb hr hml hlk hown hE hz ls hl hP hD hS => ?_)
  have hl : lv_has ls 6 [(0, .ref (xa X 189)), (1, .int a1), (2, .int a2), (3, .int a3), (4, .int a4)] := hl
  have hown : s.vm.findClass "FlyTreasuryModel" = some m.cls := hown
  unfold wpX9_exchange at hw
  refine lv_aload_n hx hb dX9_exchange_0 rfl (lv_at hl 0 rfl) ?_
  refine lv_iconst (v := 0) hx hb dX9_exchange_1 (by decide) ?_
  refine pf_X9_0 hx hb hE hP hD hS hown rfl (hE.w qw_1570 rfl _) dX9_exchange_2 (fun G1 H locs eG1 hP hD hS => ?_)
  replace hw := hw G1 eG1
  refine lv_aload_n hx hb dX9_exchange_5 rfl (lv_at hl 0 rfl) ?_
  refine lv_iload_n hx hb dX9_exchange_6 rfl (lv_at hl 1 rfl) ?_
  refine lv_iload_n hx hb dX9_exchange_7 rfl (lv_at hl 2 rfl) ?_
  refine lv_iload_n hx hb dX9_exchange_8 rfl (lv_at hl 3 rfl) ?_
  refine lv_iload hx hb dX9_exchange_9 (lv_at hl 4 rfl) ?_
  refine call_i (run_V (cc := cX9_exchange) (As := [.int a1, .int a2, .int a3, .int a4]) (rest := []) hx hb hml hown hE hz (okX9_notExchange X l hfl  hw) qw_1719 qw_1721 qw_37 qw_86 qw_1722 (myX9_notExchange) ⟨Nat.le_of_ble_eq_true rfl, Nat.le_of_ble_eq_true rfl⟩ (rv_X9 hE hP rfl) hP hD hS rfl hl.1 rfl (Nat.le_of_ble_eq_true rfl) dX9_exchange_11 ⟨Nat.le_of_ble_eq_true rfl, Nat.le_of_ble_eq_true rfl⟩) hS (fun r3 G2 H locs hw hP hD hS => ?_)
  refine lv_istore (lv' := [(5, .int r3), (0, .ref (xa X 189)), (1, .int a1), (2, .int a2), (3, .int a3), (4, .int a4)]) hx hb dX9_exchange_14 hl (by decide) rfl (fun ls hl => ?_)
  refine lv_iload hx hb dX9_exchange_16 (lv_at hl 0 rfl) ?_
  refine lv_if_eq (tgt := 28) hx hb dX9_exchange_18 (by decide) (fun c4 => ?_) (fun c4 => ?_)
  · replace hw := ite_t hw c4
    refine lv_aload_n hx hb dX9_exchange_28 rfl (lv_at hl 1 rfl) ?_
    refine call_v (run_V (cc := cX9_exchange) (As := []) (rest := []) hx hb hml hown hE hz (okX9_remembers X l hfl  hw) qw_1640 qw_1642 qw_21 qw_86 qw_1643 (myX9_remembers) ⟨Nat.le_of_ble_eq_true rfl, Nat.le_of_ble_eq_true rfl⟩ (rv_X9 hE hP rfl) hP hD hS rfl hl.1 rfl (Nat.le_of_ble_eq_true rfl) dX9_exchange_29 ⟨Nat.le_of_ble_eq_true rfl, Nat.le_of_ble_eq_true rfl⟩) hS (fun G5 H locs hw hP hD hS => ?_)
    refine lv_aload_n hx hb dX9_exchange_32 rfl (lv_at hl 1 rfl) ?_
    refine lv_iload_n hx hb dX9_exchange_33 rfl (lv_at hl 2 rfl) ?_
    refine lv_iload_n hx hb dX9_exchange_34 rfl (lv_at hl 3 rfl) ?_
    refine lv_iload_n hx hb dX9_exchange_35 rfl (lv_at hl 4 rfl) ?_
    refine lv_iload hx hb dX9_exchange_36 (lv_at hl 5 rfl) ?_
    refine call_i (run_V (cc := cX9_exchange) (As := [.int a1, .int a2, .int a3, .int a4]) (rest := []) hx hb hml hown hE hz (okX9_exchanges X l hfl  hw) qw_1727 qw_1729 qw_39 qw_86 qw_1730 (myX9_exchanges) ⟨Nat.le_of_ble_eq_true rfl, Nat.le_of_ble_eq_true rfl⟩ (rv_X9 hE hP rfl) hP hD hS rfl hl.1 rfl (Nat.le_of_ble_eq_true rfl) dX9_exchange_38 ⟨Nat.le_of_ble_eq_true rfl, Nat.le_of_ble_eq_true rfl⟩) hS (fun r7 G6 H locs hw hP hD hS => ?_)
    exact end_i hx hb hr hlk rfl hw hP hD hS dX9_exchange_41
  · replace hw := ite_f hw c4
    refine lv_aload_n hx hb dX9_exchange_21 rfl (lv_at hl 1 rfl) ?_
    refine lv_iload hx hb dX9_exchange_22 (lv_at hl 0 rfl) ?_
    refine call_i (run_V (cc := cX9_exchange) (As := [.int r3]) (rest := []) hx hb hml hown hE hz (okX9_fails X l hfl  hw) qw_1636 qw_1638 qw_20 qw_86 qw_1639 (myX9_fails) ⟨Nat.le_of_ble_eq_true rfl, Nat.le_of_ble_eq_true rfl⟩ (rv_X9 hE hP rfl) hP hD hS rfl hl.1 rfl (Nat.le_of_ble_eq_true rfl) dX9_exchange_24 ⟨Nat.le_of_ble_eq_true rfl, Nat.le_of_ble_eq_true rfl⟩) hS (fun r9 G8 H locs hw hP hD hS => ?_)
    exact end_i hx hb hr hlk rfl hw hP hD hS dX9_exchange_27
def wpX9_notMint (post : Int32 → GS → Prop) (a1 : Int32) (a2 : Int32) (G : GS) : Prop :=
  wpX9_isVault (fun (r2 : Int32) (G1 : GS) =>
  if r2 = 0 then
    post 1 G1
  else
    wpX9_isBetween (fun (r5 : Int32) (G4 : GS) =>
      if r5 = 0 then
        post 2 G4
      else
        wpX9_of (fun (r8 : Int32) (G7 : GS) =>
          if r8 ≤ 0 then
            wpX9_spare (fun (r11 : Int32) (G10 : GS) =>
              if a2 ≤ r11 then
                post 0 G10
              else
                post 4 G10) a1 G7
          else
            post 3 G7) a1 7 G4) a2 1 99 G1) a1 G
set_option maxHeartbeats 4000000 in
set_option maxRecDepth 100000 in
theorem okX9_notMint (X : Cx) (l : Launch) (hfl : l.stackTraces = false) {post : Int32 → GS → Prop} {a1 : Int32} {a2 : Int32} {G : GS}  (hw : wpX9_notMint post a1 a2 G) : CT X l yX9_notMint cX9_notMint 3 (some FieldType.int) 5 0 0 [.ref (xa X 189), .int a1, .int a2] G (Qi X post) := by
  refine mbegin (by decide) (Nat.le_of_ble_eq_true rfl) (fun p e s m below meth c hx hb hr hml hlk hown hE hz ls hl hP hD hS => ?_)
  have hl : lv_has ls 3 [(0, .ref (xa X 189)), (1, .int a1), (2, .int a2)] := hl
  have hown : s.vm.findClass "FlyTreasuryModel" = some m.cls := hown
  unfold wpX9_notMint at hw
  refine lv_aload_n hx hb dX9_notMint_0 rfl (lv_at hl 0 rfl) ?_
  refine lv_iload_n hx hb dX9_notMint_1 rfl (lv_at hl 1 rfl) ?_
  refine call_i (run_V (cc := cX9_notMint) (As := [.int a1]) (rest := []) hx hb hml hown hE hz (okX9_isVault X l hfl  hw) qw_1668 qw_1670 qw_27 qw_86 qw_1671 (myX9_isVault) ⟨Nat.le_of_ble_eq_true rfl, Nat.le_of_ble_eq_true rfl⟩ (rv_X9 hE hP rfl) hP hD hS rfl hl.1 rfl (Nat.le_of_ble_eq_true rfl) dX9_notMint_2 ⟨Nat.le_of_ble_eq_true rfl, Nat.le_of_ble_eq_true rfl⟩) hS (fun r2 G1 H locs hw hP hD hS => ?_)
  refine lv_if_ne (tgt := 10) hx hb dX9_notMint_5 (by decide) (fun c3 => ?_) (fun c3 => ?_)
  · replace hw := ite_f hw c3
    refine lv_iload_n hx hb dX9_notMint_10 rfl (lv_at hl 2 rfl) ?_
    refine lv_iconst (v := 1) hx hb dX9_notMint_11 (by decide) ?_
    refine lv_bipush (v := 99) hx hb dX9_notMint_12 (by decide) ?_
    refine call_i (run_S (cc := cX9_notMint) (As := [.int a2, .int 1, .int 99]) (rest := []) hx hb hml hown hE hz (okX9_isBetween X l hfl  hw) qw_1633 qw_1634 qw_86 qw_1635 (myX9_isBetween).2 ⟨Nat.le_of_ble_eq_true rfl, Nat.le_of_ble_eq_true rfl⟩ hP hD hS rfl hl.1 rfl (Nat.le_of_ble_eq_true rfl) dX9_notMint_14 ⟨Nat.le_of_ble_eq_true rfl, Nat.le_of_ble_eq_true rfl⟩) hS (fun r5 G4 H locs hw hP hD hS => ?_)
    refine lv_if_ne (tgt := 22) hx hb dX9_notMint_17 (by decide) (fun c6 => ?_) (fun c6 => ?_)
    · replace hw := ite_f hw c6
      refine lv_aload_n hx hb dX9_notMint_22 rfl (lv_at hl 0 rfl) ?_
      refine lv_iload_n hx hb dX9_notMint_23 rfl (lv_at hl 1 rfl) ?_
      refine lv_bipush (v := 7) hx hb dX9_notMint_24 (by decide) ?_
      refine call_i (run_V (cc := cX9_notMint) (As := [.int a1, .int 7]) (rest := []) hx hb hml hown hE hz (okX9_of X l hfl  hw) qw_1675 qw_1677 qw_28 qw_86 qw_1678 (myX9_of) ⟨Nat.le_of_ble_eq_true rfl, Nat.le_of_ble_eq_true rfl⟩ (rv_X9 hE hP rfl) hP hD hS rfl hl.1 rfl (Nat.le_of_ble_eq_true rfl) dX9_notMint_26 ⟨Nat.le_of_ble_eq_true rfl, Nat.le_of_ble_eq_true rfl⟩) hS (fun r8 G7 H locs hw hP hD hS => ?_)
      refine lv_if_le (tgt := 34) hx hb dX9_notMint_29 (by decide) (fun c9 => ?_) (fun c9 => ?_)
      · replace hw := ite_t hw c9
        refine lv_aload_n hx hb dX9_notMint_34 rfl (lv_at hl 0 rfl) ?_
        refine lv_iload_n hx hb dX9_notMint_35 rfl (lv_at hl 1 rfl) ?_
        refine call_i (run_V (cc := cX9_notMint) (As := [.int a1]) (rest := []) hx hb hml hown hE hz (okX9_spare X l hfl  hw) qw_1699 qw_1701 qw_33 qw_86 qw_1702 (myX9_spare) ⟨Nat.le_of_ble_eq_true rfl, Nat.le_of_ble_eq_true rfl⟩ (rv_X9 hE hP rfl) hP hD hS rfl hl.1 rfl (Nat.le_of_ble_eq_true rfl) dX9_notMint_36 ⟨Nat.le_of_ble_eq_true rfl, Nat.le_of_ble_eq_true rfl⟩) hS (fun r11 G10 H locs hw hP hD hS => ?_)
        refine lv_iload_n hx hb dX9_notMint_39 rfl (lv_at hl 2 rfl) ?_
        refine lv_icmp_ge (tgt := 47) hx hb dX9_notMint_40 (by decide) (fun c12 => ?_) (fun c12 => ?_)
        · replace hw := ite_t hw c12
          refine lv_iconst (v := 0) hx hb dX9_notMint_47 (by decide) ?_
          exact end_i hx hb hr hlk rfl hw hP hD hS dX9_notMint_48
        · replace hw := ite_f hw c12
          refine lv_iconst (v := 4) hx hb dX9_notMint_43 (by decide) ?_
          refine lv_goto (tgt := 48) hx hb dX9_notMint_44 (by decide) ?_
          exact end_i hx hb hr hlk rfl hw hP hD hS dX9_notMint_48
      · replace hw := ite_f hw c9
        refine lv_iconst (v := 3) hx hb dX9_notMint_32 (by decide) ?_
        exact end_i hx hb hr hlk rfl hw hP hD hS dX9_notMint_33
    · replace hw := ite_t hw c6
      refine lv_iconst (v := 2) hx hb dX9_notMint_20 (by decide) ?_
      exact end_i hx hb hr hlk rfl hw hP hD hS dX9_notMint_21
  · replace hw := ite_t hw c3
    refine lv_iconst (v := 1) hx hb dX9_notMint_8 (by decide) ?_
    exact end_i hx hb hr hlk rfl hw hP hD hS dX9_notMint_9
def wpX9_mints (post : Int32 → GS → Prop) (a1 : Int32) (a2 : Int32) (G : GS) : Prop :=
  wpX9_adds (fun (G1 : GS) =>
  vp_in 11 (ln 190) ∧
    vp_in 11 (ln 190) ∧ ∀ G4 : GS, G4 = gI G1 190 ((11 : Int32).toNatClampNeg) ((G1.1 190 (11 : Int32).toNatClampNeg) + a2) →
    wpX9_of (fun (r6 : Int32) (G5 : GS) =>
    post r6 G5) a1 4 G4) a1 4 a2 G
set_option maxHeartbeats 4000000 in
set_option maxRecDepth 100000 in
theorem okX9_mints (X : Cx) (l : Launch) (hfl : l.stackTraces = false) {post : Int32 → GS → Prop} {a1 : Int32} {a2 : Int32} {G : GS}  (hw : wpX9_mints post a1 a2 G) : CT X l yX9_mints cX9_mints 3 (some FieldType.int) 2 0 0 [.ref (xa X 189), .int a1, .int a2] G (Qi X post) := by
  refine mbegin (by decide) (Nat.le_of_ble_eq_true rfl) (fun p e s m below meth c hx hb hr hml hlk hown hE hz ls hl hP hD hS => ?_)
  have hl : lv_has ls 3 [(0, .ref (xa X 189)), (1, .int a1), (2, .int a2)] := hl
  have hown : s.vm.findClass "FlyTreasuryModel" = some m.cls := hown
  unfold wpX9_mints at hw
  refine lv_aload_n hx hb dX9_mints_0 rfl (lv_at hl 0 rfl) ?_
  refine lv_iload_n hx hb dX9_mints_1 rfl (lv_at hl 1 rfl) ?_
  refine lv_iconst (v := 4) hx hb dX9_mints_2 (by decide) ?_
  refine lv_iload_n hx hb dX9_mints_3 rfl (lv_at hl 2 rfl) ?_
  refine call_v (run_V (cc := cX9_mints) (As := [.int a1, .int 4, .int a2]) (rest := []) hx hb hml hown hE hz (okX9_adds X l hfl  hw) qw_1683 qw_1685 qw_30 qw_86 qw_1686 (myX9_adds) ⟨Nat.le_of_ble_eq_true rfl, Nat.le_of_ble_eq_true rfl⟩ (rv_X9 hE hP rfl) hP hD hS rfl hl.1 rfl (Nat.le_of_ble_eq_true rfl) dX9_mints_4 ⟨Nat.le_of_ble_eq_true rfl, Nat.le_of_ble_eq_true rfl⟩) hS (fun G1 H locs hw hP hD hS => ?_)
  refine lv_aload_n hx hb dX9_mints_7 rfl (lv_at hl 0 rfl) ?_
  refine gf_X9_1 hx hb hE hP hown rfl (hE.w qw_1571 rfl _) dX9_mints_8 ?_
  refine lv_bipush (v := 11) hx hb dX9_mints_11 (by decide) ?_
  refine lv_dup2_11 hx hb dX9_mints_13 rfl rfl ?_
  obtain ⟨y2, hw⟩ := hw
  refine ald_2 hx hb hE hP rfl y2 dX9_mints_14 ?_
  refine lv_iload_n hx hb dX9_mints_15 rfl (lv_at hl 2 rfl) ?_
  refine lv_iadd hx hb dX9_mints_16 ?_
  obtain ⟨y3, hw⟩ := hw
  refine ast_2 hx hb hE hP hD hS rfl y3 dX9_mints_17 (fun G4 H locs eG4 hP hD hS => ?_)
  replace hw := hw G4 eG4
  refine lv_aload_n hx hb dX9_mints_18 rfl (lv_at hl 0 rfl) ?_
  refine lv_iload_n hx hb dX9_mints_19 rfl (lv_at hl 1 rfl) ?_
  refine lv_iconst (v := 4) hx hb dX9_mints_20 (by decide) ?_
  refine call_i (run_V (cc := cX9_mints) (As := [.int a1, .int 4]) (rest := []) hx hb hml hown hE hz (okX9_of X l hfl  hw) qw_1675 qw_1677 qw_28 qw_86 qw_1678 (myX9_of) ⟨Nat.le_of_ble_eq_true rfl, Nat.le_of_ble_eq_true rfl⟩ (rv_X9 hE hP rfl) hP hD hS rfl hl.1 rfl (Nat.le_of_ble_eq_true rfl) dX9_mints_21 ⟨Nat.le_of_ble_eq_true rfl, Nat.le_of_ble_eq_true rfl⟩) hS (fun r6 G5 H locs hw hP hD hS => ?_)
  exact end_i hx hb hr hlk rfl hw hP hD hS dX9_mints_24
def wpX9_mint (post : Int32 → GS → Prop) (a1 : Int32) (a2 : Int32) (G : GS) : Prop :=
  ∀ G1 : GS, G1 = gI G 189 0 0 →
  wpX9_notMint (fun (r3 : Int32) (G2 : GS) =>
  if r3 = 0 then
    wpX9_remembers (fun (G5 : GS) =>
      wpX9_mints (fun (r7 : Int32) (G6 : GS) =>
        post r7 G6) a1 a2 G5)  G2
  else
    wpX9_fails (fun (r9 : Int32) (G8 : GS) =>
      post r9 G8) r3 G2) a1 a2 G1
set_option maxHeartbeats 4000000 in
set_option maxRecDepth 100000 in
theorem okX9_mint (X : Cx) (l : Launch) (hfl : l.stackTraces = false) {post : Int32 → GS → Prop} {a1 : Int32} {a2 : Int32} {G : GS}  (hw : wpX9_mint post a1 a2 G) : CT X l yX9_mint cX9_mint 4 (some FieldType.int) 6 0 0 [.ref (xa X 189), .int a1, .int a2] G (Qi X post) := by
  refine mbegin (by decide) (Nat.le_of_ble_eq_true rfl) (fun p e s m below meth c hx hb hr hml hlk hown hE hz ls hl hP hD hS => ?_)
  have hl : lv_has ls 4 [(0, .ref (xa X 189)), (1, .int a1), (2, .int a2)] := hl
  have hown : s.vm.findClass "FlyTreasuryModel" = some m.cls := hown
  unfold wpX9_mint at hw
  refine lv_aload_n hx hb dX9_mint_0 rfl (lv_at hl 0 rfl) ?_
  refine lv_iconst (v := 0) hx hb dX9_mint_1 (by decide) ?_
  refine pf_X9_0 hx hb hE hP hD hS hown rfl (hE.w qw_1570 rfl _) dX9_mint_2 (fun G1 H locs eG1 hP hD hS => ?_)
  replace hw := hw G1 eG1
  refine lv_aload_n hx hb dX9_mint_5 rfl (lv_at hl 0 rfl) ?_
  refine lv_iload_n hx hb dX9_mint_6 rfl (lv_at hl 1 rfl) ?_
  refine lv_iload_n hx hb dX9_mint_7 rfl (lv_at hl 2 rfl) ?_
  refine call_i (run_V (cc := cX9_mint) (As := [.int a1, .int a2]) (rest := []) hx hb hml hown hE hz (okX9_notMint X l hfl  hw) qw_1735 qw_1737 qw_40 qw_86 qw_1738 (myX9_notMint) ⟨Nat.le_of_ble_eq_true rfl, Nat.le_of_ble_eq_true rfl⟩ (rv_X9 hE hP rfl) hP hD hS rfl hl.1 rfl (Nat.le_of_ble_eq_true rfl) dX9_mint_8 ⟨Nat.le_of_ble_eq_true rfl, Nat.le_of_ble_eq_true rfl⟩) hS (fun r3 G2 H locs hw hP hD hS => ?_)
  refine lv_istore_n (lv' := [(3, .int r3), (0, .ref (xa X 189)), (1, .int a1), (2, .int a2)]) hx hb dX9_mint_11 rfl hl (by decide) rfl (fun ls hl => ?_)
  refine lv_iload_n hx hb dX9_mint_12 rfl (lv_at hl 0 rfl) ?_
  refine lv_if_eq (tgt := 22) hx hb dX9_mint_13 (by decide) (fun c4 => ?_) (fun c4 => ?_)
  · replace hw := ite_t hw c4
    refine lv_aload_n hx hb dX9_mint_22 rfl (lv_at hl 1 rfl) ?_
    refine call_v (run_V (cc := cX9_mint) (As := []) (rest := []) hx hb hml hown hE hz (okX9_remembers X l hfl  hw) qw_1640 qw_1642 qw_21 qw_86 qw_1643 (myX9_remembers) ⟨Nat.le_of_ble_eq_true rfl, Nat.le_of_ble_eq_true rfl⟩ (rv_X9 hE hP rfl) hP hD hS rfl hl.1 rfl (Nat.le_of_ble_eq_true rfl) dX9_mint_23 ⟨Nat.le_of_ble_eq_true rfl, Nat.le_of_ble_eq_true rfl⟩) hS (fun G5 H locs hw hP hD hS => ?_)
    refine lv_aload_n hx hb dX9_mint_26 rfl (lv_at hl 1 rfl) ?_
    refine lv_iload_n hx hb dX9_mint_27 rfl (lv_at hl 2 rfl) ?_
    refine lv_iload_n hx hb dX9_mint_28 rfl (lv_at hl 3 rfl) ?_
    refine call_i (run_V (cc := cX9_mint) (As := [.int a1, .int a2]) (rest := []) hx hb hml hown hE hz (okX9_mints X l hfl  hw) qw_1739 qw_1741 qw_41 qw_86 qw_1742 (myX9_mints) ⟨Nat.le_of_ble_eq_true rfl, Nat.le_of_ble_eq_true rfl⟩ (rv_X9 hE hP rfl) hP hD hS rfl hl.1 rfl (Nat.le_of_ble_eq_true rfl) dX9_mint_29 ⟨Nat.le_of_ble_eq_true rfl, Nat.le_of_ble_eq_true rfl⟩) hS (fun r7 G6 H locs hw hP hD hS => ?_)
    exact end_i hx hb hr hlk rfl hw hP hD hS dX9_mint_32
  · replace hw := ite_f hw c4
    refine lv_aload_n hx hb dX9_mint_16 rfl (lv_at hl 1 rfl) ?_
    refine lv_iload_n hx hb dX9_mint_17 rfl (lv_at hl 0 rfl) ?_
    refine call_i (run_V (cc := cX9_mint) (As := [.int r3]) (rest := []) hx hb hml hown hE hz (okX9_fails X l hfl  hw) qw_1636 qw_1638 qw_20 qw_86 qw_1639 (myX9_fails) ⟨Nat.le_of_ble_eq_true rfl, Nat.le_of_ble_eq_true rfl⟩ (rv_X9 hE hP rfl) hP hD hS rfl hl.1 rfl (Nat.le_of_ble_eq_true rfl) dX9_mint_18 ⟨Nat.le_of_ble_eq_true rfl, Nat.le_of_ble_eq_true rfl⟩) hS (fun r9 G8 H locs hw hP hD hS => ?_)
    exact end_i hx hb hr hlk rfl hw hP hD hS dX9_mint_21
def wpX9_notRedeem (post : Int32 → GS → Prop) (a1 : Int32) (a2 : Int32) (G : GS) : Prop :=
  wpX9_isVault (fun (r2 : Int32) (G1 : GS) =>
  if r2 = 0 then
    post 1 G1
  else
    wpX9_isBetween (fun (r5 : Int32) (G4 : GS) =>
      if r5 = 0 then
        post 2 G4
      else
        wpX9_of (fun (r8 : Int32) (G7 : GS) =>
          if a2 ≤ r8 then
            post 0 G7
          else
            post 3 G7) a1 4 G4) a2 1 99 G1) a1 G
set_option maxHeartbeats 4000000 in
set_option maxRecDepth 100000 in
theorem okX9_notRedeem (X : Cx) (l : Launch) (hfl : l.stackTraces = false) {post : Int32 → GS → Prop} {a1 : Int32} {a2 : Int32} {G : GS}  (hw : wpX9_notRedeem post a1 a2 G) : CT X l yX9_notRedeem cX9_notRedeem 3 (some FieldType.int) 3 0 0 [.ref (xa X 189), .int a1, .int a2] G (Qi X post) := by
  refine mbegin (by decide) (Nat.le_of_ble_eq_true rfl) (fun p e s m below meth c hx hb hr hml hlk hown hE hz ls hl hP hD hS => ?_)
  have hl : lv_has ls 3 [(0, .ref (xa X 189)), (1, .int a1), (2, .int a2)] := hl
  have hown : s.vm.findClass "FlyTreasuryModel" = some m.cls := hown
  unfold wpX9_notRedeem at hw
  refine lv_aload_n hx hb dX9_notRedeem_0 rfl (lv_at hl 0 rfl) ?_
  refine lv_iload_n hx hb dX9_notRedeem_1 rfl (lv_at hl 1 rfl) ?_
  refine call_i (run_V (cc := cX9_notRedeem) (As := [.int a1]) (rest := []) hx hb hml hown hE hz (okX9_isVault X l hfl  hw) qw_1668 qw_1670 qw_27 qw_86 qw_1671 (myX9_isVault) ⟨Nat.le_of_ble_eq_true rfl, Nat.le_of_ble_eq_true rfl⟩ (rv_X9 hE hP rfl) hP hD hS rfl hl.1 rfl (Nat.le_of_ble_eq_true rfl) dX9_notRedeem_2 ⟨Nat.le_of_ble_eq_true rfl, Nat.le_of_ble_eq_true rfl⟩) hS (fun r2 G1 H locs hw hP hD hS => ?_)
  refine lv_if_ne (tgt := 10) hx hb dX9_notRedeem_5 (by decide) (fun c3 => ?_) (fun c3 => ?_)
  · replace hw := ite_f hw c3
    refine lv_iload_n hx hb dX9_notRedeem_10 rfl (lv_at hl 2 rfl) ?_
    refine lv_iconst (v := 1) hx hb dX9_notRedeem_11 (by decide) ?_
    refine lv_bipush (v := 99) hx hb dX9_notRedeem_12 (by decide) ?_
    refine call_i (run_S (cc := cX9_notRedeem) (As := [.int a2, .int 1, .int 99]) (rest := []) hx hb hml hown hE hz (okX9_isBetween X l hfl  hw) qw_1633 qw_1634 qw_86 qw_1635 (myX9_isBetween).2 ⟨Nat.le_of_ble_eq_true rfl, Nat.le_of_ble_eq_true rfl⟩ hP hD hS rfl hl.1 rfl (Nat.le_of_ble_eq_true rfl) dX9_notRedeem_14 ⟨Nat.le_of_ble_eq_true rfl, Nat.le_of_ble_eq_true rfl⟩) hS (fun r5 G4 H locs hw hP hD hS => ?_)
    refine lv_if_ne (tgt := 22) hx hb dX9_notRedeem_17 (by decide) (fun c6 => ?_) (fun c6 => ?_)
    · replace hw := ite_f hw c6
      refine lv_aload_n hx hb dX9_notRedeem_22 rfl (lv_at hl 0 rfl) ?_
      refine lv_iload_n hx hb dX9_notRedeem_23 rfl (lv_at hl 1 rfl) ?_
      refine lv_iconst (v := 4) hx hb dX9_notRedeem_24 (by decide) ?_
      refine call_i (run_V (cc := cX9_notRedeem) (As := [.int a1, .int 4]) (rest := []) hx hb hml hown hE hz (okX9_of X l hfl  hw) qw_1675 qw_1677 qw_28 qw_86 qw_1678 (myX9_of) ⟨Nat.le_of_ble_eq_true rfl, Nat.le_of_ble_eq_true rfl⟩ (rv_X9 hE hP rfl) hP hD hS rfl hl.1 rfl (Nat.le_of_ble_eq_true rfl) dX9_notRedeem_25 ⟨Nat.le_of_ble_eq_true rfl, Nat.le_of_ble_eq_true rfl⟩) hS (fun r8 G7 H locs hw hP hD hS => ?_)
      refine lv_iload_n hx hb dX9_notRedeem_28 rfl (lv_at hl 2 rfl) ?_
      refine lv_icmp_ge (tgt := 36) hx hb dX9_notRedeem_29 (by decide) (fun c9 => ?_) (fun c9 => ?_)
      · replace hw := ite_t hw c9
        refine lv_iconst (v := 0) hx hb dX9_notRedeem_36 (by decide) ?_
        exact end_i hx hb hr hlk rfl hw hP hD hS dX9_notRedeem_37
      · replace hw := ite_f hw c9
        refine lv_iconst (v := 3) hx hb dX9_notRedeem_32 (by decide) ?_
        refine lv_goto (tgt := 37) hx hb dX9_notRedeem_33 (by decide) ?_
        exact end_i hx hb hr hlk rfl hw hP hD hS dX9_notRedeem_37
    · replace hw := ite_t hw c6
      refine lv_iconst (v := 2) hx hb dX9_notRedeem_20 (by decide) ?_
      exact end_i hx hb hr hlk rfl hw hP hD hS dX9_notRedeem_21
  · replace hw := ite_t hw c3
    refine lv_iconst (v := 1) hx hb dX9_notRedeem_8 (by decide) ?_
    exact end_i hx hb hr hlk rfl hw hP hD hS dX9_notRedeem_9
def wpX9_redeems (post : Int32 → GS → Prop) (a1 : Int32) (a2 : Int32) (G : GS) : Prop :=
  wpX9_adds (fun (G1 : GS) =>
  vp_in 12 (ln 190) ∧
    vp_in 12 (ln 190) ∧ ∀ G4 : GS, G4 = gI G1 190 ((12 : Int32).toNatClampNeg) ((G1.1 190 (12 : Int32).toNatClampNeg) + a2) →
    wpX9_of (fun (r6 : Int32) (G5 : GS) =>
    post r6 G5) a1 4 G4) a1 4 (-a2) G
set_option maxHeartbeats 4000000 in
set_option maxRecDepth 100000 in
theorem okX9_redeems (X : Cx) (l : Launch) (hfl : l.stackTraces = false) {post : Int32 → GS → Prop} {a1 : Int32} {a2 : Int32} {G : GS}  (hw : wpX9_redeems post a1 a2 G) : CT X l yX9_redeems cX9_redeems 3 (some FieldType.int) 2 0 0 [.ref (xa X 189), .int a1, .int a2] G (Qi X post) := by
  refine mbegin (by decide) (Nat.le_of_ble_eq_true rfl) (fun p e s m below meth c hx hb hr hml hlk hown hE hz ls hl hP hD hS => ?_)
  have hl : lv_has ls 3 [(0, .ref (xa X 189)), (1, .int a1), (2, .int a2)] := hl
  have hown : s.vm.findClass "FlyTreasuryModel" = some m.cls := hown
  unfold wpX9_redeems at hw
  refine lv_aload_n hx hb dX9_redeems_0 rfl (lv_at hl 0 rfl) ?_
  refine lv_iload_n hx hb dX9_redeems_1 rfl (lv_at hl 1 rfl) ?_
  refine lv_iconst (v := 4) hx hb dX9_redeems_2 (by decide) ?_
  refine lv_iload_n hx hb dX9_redeems_3 rfl (lv_at hl 2 rfl) ?_
  refine lv_ineg hx hb dX9_redeems_4 ?_
  refine call_v (run_V (cc := cX9_redeems) (As := [.int a1, .int 4, .int (-a2)]) (rest := []) hx hb hml hown hE hz (okX9_adds X l hfl  hw) qw_1683 qw_1685 qw_30 qw_86 qw_1686 (myX9_adds) ⟨Nat.le_of_ble_eq_true rfl, Nat.le_of_ble_eq_true rfl⟩ (rv_X9 hE hP rfl) hP hD hS rfl hl.1 rfl (Nat.le_of_ble_eq_true rfl) dX9_redeems_5 ⟨Nat.le_of_ble_eq_true rfl, Nat.le_of_ble_eq_true rfl⟩) hS (fun G1 H locs hw hP hD hS => ?_)
  refine lv_aload_n hx hb dX9_redeems_8 rfl (lv_at hl 0 rfl) ?_
  refine gf_X9_1 hx hb hE hP hown rfl (hE.w qw_1571 rfl _) dX9_redeems_9 ?_
  refine lv_bipush (v := 12) hx hb dX9_redeems_12 (by decide) ?_
  refine lv_dup2_11 hx hb dX9_redeems_14 rfl rfl ?_
  obtain ⟨y2, hw⟩ := hw
  refine ald_2 hx hb hE hP rfl y2 dX9_redeems_15 ?_
  refine lv_iload_n hx hb dX9_redeems_16 rfl (lv_at hl 2 rfl) ?_
  refine lv_iadd hx hb dX9_redeems_17 ?_
  obtain ⟨y3, hw⟩ := hw
  refine ast_2 hx hb hE hP hD hS rfl y3 dX9_redeems_18 (fun G4 H locs eG4 hP hD hS => ?_)
  replace hw := hw G4 eG4
  refine lv_aload_n hx hb dX9_redeems_19 rfl (lv_at hl 0 rfl) ?_
  refine lv_iload_n hx hb dX9_redeems_20 rfl (lv_at hl 1 rfl) ?_
  refine lv_iconst (v := 4) hx hb dX9_redeems_21 (by decide) ?_
  refine call_i (run_V (cc := cX9_redeems) (As := [.int a1, .int 4]) (rest := []) hx hb hml hown hE hz (okX9_of X l hfl  hw) qw_1675 qw_1677 qw_28 qw_86 qw_1678 (myX9_of) ⟨Nat.le_of_ble_eq_true rfl, Nat.le_of_ble_eq_true rfl⟩ (rv_X9 hE hP rfl) hP hD hS rfl hl.1 rfl (Nat.le_of_ble_eq_true rfl) dX9_redeems_22 ⟨Nat.le_of_ble_eq_true rfl, Nat.le_of_ble_eq_true rfl⟩) hS (fun r6 G5 H locs hw hP hD hS => ?_)
  exact end_i hx hb hr hlk rfl hw hP hD hS dX9_redeems_25
def wpX9_redeem (post : Int32 → GS → Prop) (a1 : Int32) (a2 : Int32) (G : GS) : Prop :=
  ∀ G1 : GS, G1 = gI G 189 0 0 →
  wpX9_notRedeem (fun (r3 : Int32) (G2 : GS) =>
  if r3 = 0 then
    wpX9_remembers (fun (G5 : GS) =>
      wpX9_redeems (fun (r7 : Int32) (G6 : GS) =>
        post r7 G6) a1 a2 G5)  G2
  else
    wpX9_fails (fun (r9 : Int32) (G8 : GS) =>
      post r9 G8) r3 G2) a1 a2 G1
set_option maxHeartbeats 4000000 in
set_option maxRecDepth 100000 in
theorem okX9_redeem (X : Cx) (l : Launch) (hfl : l.stackTraces = false) {post : Int32 → GS → Prop} {a1 : Int32} {a2 : Int32} {G : GS}  (hw : wpX9_redeem post a1 a2 G) : CT X l yX9_redeem cX9_redeem 4 (some FieldType.int) 4 0 0 [.ref (xa X 189), .int a1, .int a2] G (Qi X post) := by
  refine mbegin (by decide) (Nat.le_of_ble_eq_true rfl) (fun p e s m below meth c hx hb hr hml hlk hown hE hz ls hl hP hD hS => ?_)
  have hl : lv_has ls 4 [(0, .ref (xa X 189)), (1, .int a1), (2, .int a2)] := hl
  have hown : s.vm.findClass "FlyTreasuryModel" = some m.cls := hown
  unfold wpX9_redeem at hw
  refine lv_aload_n hx hb dX9_redeem_0 rfl (lv_at hl 0 rfl) ?_
  refine lv_iconst (v := 0) hx hb dX9_redeem_1 (by decide) ?_
  refine pf_X9_0 hx hb hE hP hD hS hown rfl (hE.w qw_1570 rfl _) dX9_redeem_2 (fun G1 H locs eG1 hP hD hS => ?_)
  replace hw := hw G1 eG1
  refine lv_aload_n hx hb dX9_redeem_5 rfl (lv_at hl 0 rfl) ?_
  refine lv_iload_n hx hb dX9_redeem_6 rfl (lv_at hl 1 rfl) ?_
  refine lv_iload_n hx hb dX9_redeem_7 rfl (lv_at hl 2 rfl) ?_
  refine call_i (run_V (cc := cX9_redeem) (As := [.int a1, .int a2]) (rest := []) hx hb hml hown hE hz (okX9_notRedeem X l hfl  hw) qw_1747 qw_1749 qw_42 qw_86 qw_1750 (myX9_notRedeem) ⟨Nat.le_of_ble_eq_true rfl, Nat.le_of_ble_eq_true rfl⟩ (rv_X9 hE hP rfl) hP hD hS rfl hl.1 rfl (Nat.le_of_ble_eq_true rfl) dX9_redeem_8 ⟨Nat.le_of_ble_eq_true rfl, Nat.le_of_ble_eq_true rfl⟩) hS (fun r3 G2 H locs hw hP hD hS => ?_)
  refine lv_istore_n (lv' := [(3, .int r3), (0, .ref (xa X 189)), (1, .int a1), (2, .int a2)]) hx hb dX9_redeem_11 rfl hl (by decide) rfl (fun ls hl => ?_)
  refine lv_iload_n hx hb dX9_redeem_12 rfl (lv_at hl 0 rfl) ?_
  refine lv_if_eq (tgt := 22) hx hb dX9_redeem_13 (by decide) (fun c4 => ?_) (fun c4 => ?_)
  · replace hw := ite_t hw c4
    refine lv_aload_n hx hb dX9_redeem_22 rfl (lv_at hl 1 rfl) ?_
    refine call_v (run_V (cc := cX9_redeem) (As := []) (rest := []) hx hb hml hown hE hz (okX9_remembers X l hfl  hw) qw_1640 qw_1642 qw_21 qw_86 qw_1643 (myX9_remembers) ⟨Nat.le_of_ble_eq_true rfl, Nat.le_of_ble_eq_true rfl⟩ (rv_X9 hE hP rfl) hP hD hS rfl hl.1 rfl (Nat.le_of_ble_eq_true rfl) dX9_redeem_23 ⟨Nat.le_of_ble_eq_true rfl, Nat.le_of_ble_eq_true rfl⟩) hS (fun G5 H locs hw hP hD hS => ?_)
    refine lv_aload_n hx hb dX9_redeem_26 rfl (lv_at hl 1 rfl) ?_
    refine lv_iload_n hx hb dX9_redeem_27 rfl (lv_at hl 2 rfl) ?_
    refine lv_iload_n hx hb dX9_redeem_28 rfl (lv_at hl 3 rfl) ?_
    refine call_i (run_V (cc := cX9_redeem) (As := [.int a1, .int a2]) (rest := []) hx hb hml hown hE hz (okX9_redeems X l hfl  hw) qw_1751 qw_1753 qw_43 qw_86 qw_1754 (myX9_redeems) ⟨Nat.le_of_ble_eq_true rfl, Nat.le_of_ble_eq_true rfl⟩ (rv_X9 hE hP rfl) hP hD hS rfl hl.1 rfl (Nat.le_of_ble_eq_true rfl) dX9_redeem_29 ⟨Nat.le_of_ble_eq_true rfl, Nat.le_of_ble_eq_true rfl⟩) hS (fun r7 G6 H locs hw hP hD hS => ?_)
    exact end_i hx hb hr hlk rfl hw hP hD hS dX9_redeem_32
  · replace hw := ite_f hw c4
    refine lv_aload_n hx hb dX9_redeem_16 rfl (lv_at hl 1 rfl) ?_
    refine lv_iload_n hx hb dX9_redeem_17 rfl (lv_at hl 0 rfl) ?_
    refine call_i (run_V (cc := cX9_redeem) (As := [.int r3]) (rest := []) hx hb hml hown hE hz (okX9_fails X l hfl  hw) qw_1636 qw_1638 qw_20 qw_86 qw_1639 (myX9_fails) ⟨Nat.le_of_ble_eq_true rfl, Nat.le_of_ble_eq_true rfl⟩ (rv_X9 hE hP rfl) hP hD hS rfl hl.1 rfl (Nat.le_of_ble_eq_true rfl) dX9_redeem_18 ⟨Nat.le_of_ble_eq_true rfl, Nat.le_of_ble_eq_true rfl⟩) hS (fun r9 G8 H locs hw hP hD hS => ?_)
    exact end_i hx hb hr hlk rfl hw hP hD hS dX9_redeem_21
def wpX9_notAudit (post : Int32 → GS → Prop) (a1 : Int32) (G : GS) : Prop :=
  wpX9_isVault (fun (r2 : Int32) (G1 : GS) =>
  if r2 = 0 then
    post 1 G1
  else
    wpX9_of (fun (r5 : Int32) (G4 : GS) =>
      if r5 ≤ 0 then
        post 0 G4
      else
        post 2 G4) a1 7 G1) a1 G
set_option maxHeartbeats 4000000 in
set_option maxRecDepth 100000 in
theorem okX9_notAudit (X : Cx) (l : Launch) (hfl : l.stackTraces = false) {post : Int32 → GS → Prop} {a1 : Int32} {G : GS}  (hw : wpX9_notAudit post a1 G) : CT X l yX9_notAudit cX9_notAudit 2 (some FieldType.int) 3 0 0 [.ref (xa X 189), .int a1] G (Qi X post) := by
  refine mbegin (by decide) (Nat.le_of_ble_eq_true rfl) (fun p e s m below meth c hx hb hr hml hlk hown hE hz ls hl hP hD hS => ?_)
  have hl : lv_has ls 2 [(0, .ref (xa X 189)), (1, .int a1)] := hl
  have hown : s.vm.findClass "FlyTreasuryModel" = some m.cls := hown
  unfold wpX9_notAudit at hw
  refine lv_aload_n hx hb dX9_notAudit_0 rfl (lv_at hl 0 rfl) ?_
  refine lv_iload_n hx hb dX9_notAudit_1 rfl (lv_at hl 1 rfl) ?_
  refine call_i (run_V (cc := cX9_notAudit) (As := [.int a1]) (rest := []) hx hb hml hown hE hz (okX9_isVault X l hfl  hw) qw_1668 qw_1670 qw_27 qw_86 qw_1671 (myX9_isVault) ⟨Nat.le_of_ble_eq_true rfl, Nat.le_of_ble_eq_true rfl⟩ (rv_X9 hE hP rfl) hP hD hS rfl hl.1 rfl (Nat.le_of_ble_eq_true rfl) dX9_notAudit_2 ⟨Nat.le_of_ble_eq_true rfl, Nat.le_of_ble_eq_true rfl⟩) hS (fun r2 G1 H locs hw hP hD hS => ?_)
  refine lv_if_ne (tgt := 10) hx hb dX9_notAudit_5 (by decide) (fun c3 => ?_) (fun c3 => ?_)
  · replace hw := ite_f hw c3
    refine lv_aload_n hx hb dX9_notAudit_10 rfl (lv_at hl 0 rfl) ?_
    refine lv_iload_n hx hb dX9_notAudit_11 rfl (lv_at hl 1 rfl) ?_
    refine lv_bipush (v := 7) hx hb dX9_notAudit_12 (by decide) ?_
    refine call_i (run_V (cc := cX9_notAudit) (As := [.int a1, .int 7]) (rest := []) hx hb hml hown hE hz (okX9_of X l hfl  hw) qw_1675 qw_1677 qw_28 qw_86 qw_1678 (myX9_of) ⟨Nat.le_of_ble_eq_true rfl, Nat.le_of_ble_eq_true rfl⟩ (rv_X9 hE hP rfl) hP hD hS rfl hl.1 rfl (Nat.le_of_ble_eq_true rfl) dX9_notAudit_14 ⟨Nat.le_of_ble_eq_true rfl, Nat.le_of_ble_eq_true rfl⟩) hS (fun r5 G4 H locs hw hP hD hS => ?_)
    refine lv_if_le (tgt := 24) hx hb dX9_notAudit_17 (by decide) (fun c6 => ?_) (fun c6 => ?_)
    · replace hw := ite_t hw c6
      refine lv_iconst (v := 0) hx hb dX9_notAudit_24 (by decide) ?_
      exact end_i hx hb hr hlk rfl hw hP hD hS dX9_notAudit_25
    · replace hw := ite_f hw c6
      refine lv_iconst (v := 2) hx hb dX9_notAudit_20 (by decide) ?_
      refine lv_goto (tgt := 25) hx hb dX9_notAudit_21 (by decide) ?_
      exact end_i hx hb hr hlk rfl hw hP hD hS dX9_notAudit_25
  · replace hw := ite_t hw c3
    refine lv_iconst (v := 1) hx hb dX9_notAudit_8 (by decide) ?_
    exact end_i hx hb hr hlk rfl hw hP hD hS dX9_notAudit_9
def wbX9_audits_65 (post : Int32 → GS → Prop) (a1 : Int32) (G : GS) : Prop :=
  wpX9_of (fun (r11 : Int32) (G10 : GS) =>
  if r11 = 0 then
    wpX9_puts (fun (G13 : GS) =>
      post 0 G13) a1 7 5 G10
  else
    post 0 G10) a1 5 G
def wpX9_audits (post : Int32 → GS → Prop) (a1 : Int32) (G : GS) : Prop :=
  vp_in 14 (ln 190) ∧
  vp_in 14 (ln 190) ∧ ∀ G3 : GS, G3 = gI G 190 ((14 : Int32).toNatClampNeg) ((G.1 190 (14 : Int32).toNatClampNeg) + 1) →
  wpX9_spare (fun (r5 : Int32) (G4 : GS) =>
  if r5 < 0 then
    wpX9_of (fun (r8 : Int32) (G7 : GS) =>
      if r8 ≤ 0 then
        wbX9_audits_65 post a1 G7
      else
        wpX9_adds (fun (G18 : GS) =>
          wbX9_audits_65 post a1 G18) a1 5 (-1) G7) a1 5 G4
  else
    vp_in 15 (ln 190) ∧
      vp_in 15 (ln 190) ∧ ∀ G21 : GS, G21 = gI G4 190 ((15 : Int32).toNatClampNeg) ((G4.1 190 (15 : Int32).toNatClampNeg) + 1) →
      wpX9_of (fun (r23 : Int32) (G22 : GS) =>
      if 3 ≤ r23 then
        post 1 G22
      else
        wpX9_adds (fun (G25 : GS) =>
          post 1 G25) a1 5 1 G22) a1 5 G21) a1 G3
set_option maxHeartbeats 4000000 in
set_option maxRecDepth 100000 in
theorem okX9_audits (X : Cx) (l : Launch) (hfl : l.stackTraces = false) {post : Int32 → GS → Prop} {a1 : Int32} {G : GS}  (hw : wpX9_audits post a1 G) : CT X l yX9_audits cX9_audits 2 (some FieldType.int) 5 0 0 [.ref (xa X 189), .int a1] G (Qi X post) := by
  refine mbegin (by decide) (Nat.le_of_ble_eq_true rfl) (fun p e s m below meth c hx hb hr hml hlk hown hE hz ls hl hP hD hS => ?_)
  have hl : lv_has ls 2 [(0, .ref (xa X 189)), (1, .int a1)] := hl
  have hown : s.vm.findClass "FlyTreasuryModel" = some m.cls := hown
  have B65 : ∀ (G : GS) (H : Heap) (locs : List Loc) (ls : Array Slot), wbX9_audits_65 post a1 G  → va_P (xD X) vwCl (pool X G) H → va_D (xA X) (pool X G) → va_S (xA X) s.heap H locs → lv_has ls 2 [(0, .ref (xa X 189)), (1, .int a1)] → W p l e (rmL 5 0 0) s m [.ref (xa X 189), .int a1].toArray below meth c H locs 0 0 (MQ below (Qi X post) [.ref (xa X 189), .int a1].toArray s 0 0 (xA X)) (F0 m 65 ls []) := by
    intro G   H locs ls hw hP hD hS hl
    unfold wbX9_audits_65 at hw
    refine lv_aload_n hx hb dX9_audits_65 rfl (lv_at hl 0 rfl) ?_
    refine lv_iload_n hx hb dX9_audits_66 rfl (lv_at hl 1 rfl) ?_
    refine lv_iconst (v := 5) hx hb dX9_audits_67 (by decide) ?_
    refine call_i (run_V (cc := cX9_audits) (As := [.int a1, .int 5]) (rest := []) hx hb hml hown hE hz (okX9_of X l hfl  hw) qw_1675 qw_1677 qw_28 qw_86 qw_1678 (myX9_of) ⟨Nat.le_of_ble_eq_true rfl, Nat.le_of_ble_eq_true rfl⟩ (rv_X9 hE hP rfl) hP hD hS rfl hl.1 rfl (Nat.le_of_ble_eq_true rfl) dX9_audits_68 ⟨Nat.le_of_ble_eq_true rfl, Nat.le_of_ble_eq_true rfl⟩) hS (fun r15 G14 H locs hw hP hD hS => ?_)
    refine lv_if_ne (tgt := 82) hx hb dX9_audits_71 (by decide) (fun c16 => ?_) (fun c16 => ?_)
    · replace hw := ite_f hw c16
      refine lv_iconst (v := 0) hx hb dX9_audits_82 (by decide) ?_
      exact end_i hx hb hr hlk rfl hw hP hD hS dX9_audits_83
    · replace hw := ite_t hw c16
      refine lv_aload_n hx hb dX9_audits_74 rfl (lv_at hl 0 rfl) ?_
      refine lv_iload_n hx hb dX9_audits_75 rfl (lv_at hl 1 rfl) ?_
      refine lv_bipush (v := 7) hx hb dX9_audits_76 (by decide) ?_
      refine lv_iconst (v := 5) hx hb dX9_audits_78 (by decide) ?_
      refine call_v (run_V (cc := cX9_audits) (As := [.int a1, .int 7, .int 5]) (rest := []) hx hb hml hown hE hz (okX9_puts X l hfl  hw) qw_1656 qw_1658 qw_25 qw_86 qw_1659 (myX9_puts) ⟨Nat.le_of_ble_eq_true rfl, Nat.le_of_ble_eq_true rfl⟩ (rv_X9 hE hP rfl) hP hD hS rfl hl.1 rfl (Nat.le_of_ble_eq_true rfl) dX9_audits_79 ⟨Nat.le_of_ble_eq_true rfl, Nat.le_of_ble_eq_true rfl⟩) hS (fun G17 H locs hw hP hD hS => ?_)
      refine lv_iconst (v := 0) hx hb dX9_audits_82 (by decide) ?_
      exact end_i hx hb hr hlk rfl hw hP hD hS dX9_audits_83
  unfold wpX9_audits at hw
  refine lv_aload_n hx hb dX9_audits_0 rfl (lv_at hl 0 rfl) ?_
  refine gf_X9_1 hx hb hE hP hown rfl (hE.w qw_1571 rfl _) dX9_audits_1 ?_
  refine lv_bipush (v := 14) hx hb dX9_audits_4 (by decide) ?_
  refine lv_dup2_11 hx hb dX9_audits_6 rfl rfl ?_
  obtain ⟨y1, hw⟩ := hw
  refine ald_2 hx hb hE hP rfl y1 dX9_audits_7 ?_
  refine lv_iconst (v := 1) hx hb dX9_audits_8 (by decide) ?_
  refine lv_iadd hx hb dX9_audits_9 ?_
  obtain ⟨y2, hw⟩ := hw
  refine ast_2 hx hb hE hP hD hS rfl y2 dX9_audits_10 (fun G3 H locs eG3 hP hD hS => ?_)
  replace hw := hw G3 eG3
  refine lv_aload_n hx hb dX9_audits_11 rfl (lv_at hl 0 rfl) ?_
  refine lv_iload_n hx hb dX9_audits_12 rfl (lv_at hl 1 rfl) ?_
  refine call_i (run_V (cc := cX9_audits) (As := [.int a1]) (rest := []) hx hb hml hown hE hz (okX9_spare X l hfl  hw) qw_1699 qw_1701 qw_33 qw_86 qw_1702 (myX9_spare) ⟨Nat.le_of_ble_eq_true rfl, Nat.le_of_ble_eq_true rfl⟩ (rv_X9 hE hP rfl) hP hD hS rfl hl.1 rfl (Nat.le_of_ble_eq_true rfl) dX9_audits_13 ⟨Nat.le_of_ble_eq_true rfl, Nat.le_of_ble_eq_true rfl⟩) hS (fun r5 G4 H locs hw hP hD hS => ?_)
  refine lv_if_lt (tgt := 49) hx hb dX9_audits_16 (by decide) (fun c6 => ?_) (fun c6 => ?_)
  · replace hw := ite_t hw c6
    refine lv_aload_n hx hb dX9_audits_49 rfl (lv_at hl 0 rfl) ?_
    refine lv_iload_n hx hb dX9_audits_50 rfl (lv_at hl 1 rfl) ?_
    refine lv_iconst (v := 5) hx hb dX9_audits_51 (by decide) ?_
    refine call_i (run_V (cc := cX9_audits) (As := [.int a1, .int 5]) (rest := []) hx hb hml hown hE hz (okX9_of X l hfl  hw) qw_1675 qw_1677 qw_28 qw_86 qw_1678 (myX9_of) ⟨Nat.le_of_ble_eq_true rfl, Nat.le_of_ble_eq_true rfl⟩ (rv_X9 hE hP rfl) hP hD hS rfl hl.1 rfl (Nat.le_of_ble_eq_true rfl) dX9_audits_52 ⟨Nat.le_of_ble_eq_true rfl, Nat.le_of_ble_eq_true rfl⟩) hS (fun r8 G7 H locs hw hP hD hS => ?_)
    refine lv_if_le (tgt := 65) hx hb dX9_audits_55 (by decide) (fun c9 => ?_) (fun c9 => ?_)
    · replace hw := ite_t hw c9
      exact B65 G7   _ _ _ hw hP hD hS (lv_sub hl [0, 1] rfl)
    · replace hw := ite_f hw c9
      refine lv_aload_n hx hb dX9_audits_58 rfl (lv_at hl 0 rfl) ?_
      refine lv_iload_n hx hb dX9_audits_59 rfl (lv_at hl 1 rfl) ?_
      refine lv_iconst (v := 5) hx hb dX9_audits_60 (by decide) ?_
      refine lv_iconst (v := -1) hx hb dX9_audits_61 (by decide) ?_
      refine call_v (run_V (cc := cX9_audits) (As := [.int a1, .int 5, .int (-1)]) (rest := []) hx hb hml hown hE hz (okX9_adds X l hfl  hw) qw_1683 qw_1685 qw_30 qw_86 qw_1686 (myX9_adds) ⟨Nat.le_of_ble_eq_true rfl, Nat.le_of_ble_eq_true rfl⟩ (rv_X9 hE hP rfl) hP hD hS rfl hl.1 rfl (Nat.le_of_ble_eq_true rfl) dX9_audits_62 ⟨Nat.le_of_ble_eq_true rfl, Nat.le_of_ble_eq_true rfl⟩) hS (fun G18 H locs hw hP hD hS => ?_)
      exact B65 G18   _ _ _ hw hP hD hS (lv_sub hl [0, 1] rfl)
  · replace hw := ite_f hw c6
    refine lv_aload_n hx hb dX9_audits_19 rfl (lv_at hl 0 rfl) ?_
    refine gf_X9_1 hx hb hE hP hown rfl (hE.w qw_1571 rfl _) dX9_audits_20 ?_
    refine lv_bipush (v := 15) hx hb dX9_audits_23 (by decide) ?_
    refine lv_dup2_11 hx hb dX9_audits_25 rfl rfl ?_
    obtain ⟨y19, hw⟩ := hw
    refine ald_2 hx hb hE hP rfl y19 dX9_audits_26 ?_
    refine lv_iconst (v := 1) hx hb dX9_audits_27 (by decide) ?_
    refine lv_iadd hx hb dX9_audits_28 ?_
    obtain ⟨y20, hw⟩ := hw
    refine ast_2 hx hb hE hP hD hS rfl y20 dX9_audits_29 (fun G21 H locs eG21 hP hD hS => ?_)
    replace hw := hw G21 eG21
    refine lv_aload_n hx hb dX9_audits_30 rfl (lv_at hl 0 rfl) ?_
    refine lv_iload_n hx hb dX9_audits_31 rfl (lv_at hl 1 rfl) ?_
    refine lv_iconst (v := 5) hx hb dX9_audits_32 (by decide) ?_
    refine call_i (run_V (cc := cX9_audits) (As := [.int a1, .int 5]) (rest := []) hx hb hml hown hE hz (okX9_of X l hfl  hw) qw_1675 qw_1677 qw_28 qw_86 qw_1678 (myX9_of) ⟨Nat.le_of_ble_eq_true rfl, Nat.le_of_ble_eq_true rfl⟩ (rv_X9 hE hP rfl) hP hD hS rfl hl.1 rfl (Nat.le_of_ble_eq_true rfl) dX9_audits_33 ⟨Nat.le_of_ble_eq_true rfl, Nat.le_of_ble_eq_true rfl⟩) hS (fun r23 G22 H locs hw hP hD hS => ?_)
    refine lv_iconst (v := 3) hx hb dX9_audits_36 (by decide) ?_
    refine lv_icmp_ge (tgt := 47) hx hb dX9_audits_37 (by decide) (fun c24 => ?_) (fun c24 => ?_)
    · replace hw := ite_t hw c24
      refine lv_iconst (v := 1) hx hb dX9_audits_47 (by decide) ?_
      exact end_i hx hb hr hlk rfl hw hP hD hS dX9_audits_48
    · replace hw := ite_f hw c24
      refine lv_aload_n hx hb dX9_audits_40 rfl (lv_at hl 0 rfl) ?_
      refine lv_iload_n hx hb dX9_audits_41 rfl (lv_at hl 1 rfl) ?_
      refine lv_iconst (v := 5) hx hb dX9_audits_42 (by decide) ?_
      refine lv_iconst (v := 1) hx hb dX9_audits_43 (by decide) ?_
      refine call_v (run_V (cc := cX9_audits) (As := [.int a1, .int 5, .int 1]) (rest := []) hx hb hml hown hE hz (okX9_adds X l hfl  hw) qw_1683 qw_1685 qw_30 qw_86 qw_1686 (myX9_adds) ⟨Nat.le_of_ble_eq_true rfl, Nat.le_of_ble_eq_true rfl⟩ (rv_X9 hE hP rfl) hP hD hS rfl hl.1 rfl (Nat.le_of_ble_eq_true rfl) dX9_audits_44 ⟨Nat.le_of_ble_eq_true rfl, Nat.le_of_ble_eq_true rfl⟩) hS (fun G25 H locs hw hP hD hS => ?_)
      refine lv_iconst (v := 1) hx hb dX9_audits_47 (by decide) ?_
      exact end_i hx hb hr hlk rfl hw hP hD hS dX9_audits_48
def wpX9_audit (post : Int32 → GS → Prop) (a1 : Int32) (G : GS) : Prop :=
  ∀ G1 : GS, G1 = gI G 189 0 0 →
  wpX9_notAudit (fun (r3 : Int32) (G2 : GS) =>
  if r3 = 0 then
    wpX9_remembers (fun (G5 : GS) =>
      wpX9_audits (fun (r7 : Int32) (G6 : GS) =>
        if r7 = 1 then
          post 1 G6
        else
          post 0 G6) a1 G5)  G2
  else
    wpX9_fails (fun (r10 : Int32) (G9 : GS) =>
      if r10 ≤ 0 then
        post 0 G9
      else
        post 1 G9) r3 G2) a1 G1
set_option maxHeartbeats 4000000 in
set_option maxRecDepth 100000 in
theorem okX9_audit (X : Cx) (l : Launch) (hfl : l.stackTraces = false) {post : Int32 → GS → Prop} {a1 : Int32} {G : GS}  (hw : wpX9_audit post a1 G) : CT X l yX9_audit cX9_audit 3 (some FieldType.boolean) 6 0 0 [.ref (xa X 189), .int a1] G (Qi X post) := by
  refine mbegin (by decide) (Nat.le_of_ble_eq_true rfl) (fun p e s m below meth c hx hb hr hml hlk hown hE hz ls hl hP hD hS => ?_)
  have hl : lv_has ls 3 [(0, .ref (xa X 189)), (1, .int a1)] := hl
  have hown : s.vm.findClass "FlyTreasuryModel" = some m.cls := hown
  unfold wpX9_audit at hw
  refine lv_aload_n hx hb dX9_audit_0 rfl (lv_at hl 0 rfl) ?_
  refine lv_iconst (v := 0) hx hb dX9_audit_1 (by decide) ?_
  refine pf_X9_0 hx hb hE hP hD hS hown rfl (hE.w qw_1570 rfl _) dX9_audit_2 (fun G1 H locs eG1 hP hD hS => ?_)
  replace hw := hw G1 eG1
  refine lv_aload_n hx hb dX9_audit_5 rfl (lv_at hl 0 rfl) ?_
  refine lv_iload_n hx hb dX9_audit_6 rfl (lv_at hl 1 rfl) ?_
  refine call_i (run_V (cc := cX9_audit) (As := [.int a1]) (rest := []) hx hb hml hown hE hz (okX9_notAudit X l hfl  hw) qw_1759 qw_1761 qw_44 qw_86 qw_1762 (myX9_notAudit) ⟨Nat.le_of_ble_eq_true rfl, Nat.le_of_ble_eq_true rfl⟩ (rv_X9 hE hP rfl) hP hD hS rfl hl.1 rfl (Nat.le_of_ble_eq_true rfl) dX9_audit_7 ⟨Nat.le_of_ble_eq_true rfl, Nat.le_of_ble_eq_true rfl⟩) hS (fun r3 G2 H locs hw hP hD hS => ?_)
  refine lv_istore_n (lv' := [(2, .int r3), (0, .ref (xa X 189)), (1, .int a1)]) hx hb dX9_audit_10 rfl hl (by decide) rfl (fun ls hl => ?_)
  refine lv_iload_n hx hb dX9_audit_11 rfl (lv_at hl 0 rfl) ?_
  refine lv_if_eq (tgt := 29) hx hb dX9_audit_12 (by decide) (fun c4 => ?_) (fun c4 => ?_)
  · replace hw := ite_t hw c4
    refine lv_aload_n hx hb dX9_audit_29 rfl (lv_at hl 1 rfl) ?_
    refine call_v (run_V (cc := cX9_audit) (As := []) (rest := []) hx hb hml hown hE hz (okX9_remembers X l hfl  hw) qw_1640 qw_1642 qw_21 qw_86 qw_1643 (myX9_remembers) ⟨Nat.le_of_ble_eq_true rfl, Nat.le_of_ble_eq_true rfl⟩ (rv_X9 hE hP rfl) hP hD hS rfl hl.1 rfl (Nat.le_of_ble_eq_true rfl) dX9_audit_30 ⟨Nat.le_of_ble_eq_true rfl, Nat.le_of_ble_eq_true rfl⟩) hS (fun G5 H locs hw hP hD hS => ?_)
    refine lv_aload_n hx hb dX9_audit_33 rfl (lv_at hl 1 rfl) ?_
    refine lv_iload_n hx hb dX9_audit_34 rfl (lv_at hl 2 rfl) ?_
    refine call_i (run_V (cc := cX9_audit) (As := [.int a1]) (rest := []) hx hb hml hown hE hz (okX9_audits X l hfl  hw) qw_1763 qw_1765 qw_45 qw_86 qw_1766 (myX9_audits) ⟨Nat.le_of_ble_eq_true rfl, Nat.le_of_ble_eq_true rfl⟩ (rv_X9 hE hP rfl) hP hD hS rfl hl.1 rfl (Nat.le_of_ble_eq_true rfl) dX9_audit_35 ⟨Nat.le_of_ble_eq_true rfl, Nat.le_of_ble_eq_true rfl⟩) hS (fun r7 G6 H locs hw hP hD hS => ?_)
    refine lv_iconst (v := 1) hx hb dX9_audit_38 (by decide) ?_
    refine lv_icmp_ne (tgt := 46) hx hb dX9_audit_39 (by decide) (fun c8 => ?_) (fun c8 => ?_)
    · replace hw := ite_f hw c8
      refine lv_iconst (v := 0) hx hb dX9_audit_46 (by decide) ?_
      exact end_i hx hb hr hlk (by decide) hw hP hD hS dX9_audit_47
    · replace hw := ite_t hw c8
      refine lv_iconst (v := 1) hx hb dX9_audit_42 (by decide) ?_
      refine lv_goto (tgt := 47) hx hb dX9_audit_43 (by decide) ?_
      exact end_i hx hb hr hlk (by decide) hw hP hD hS dX9_audit_47
  · replace hw := ite_f hw c4
    refine lv_aload_n hx hb dX9_audit_15 rfl (lv_at hl 1 rfl) ?_
    refine lv_iload_n hx hb dX9_audit_16 rfl (lv_at hl 0 rfl) ?_
    refine call_i (run_V (cc := cX9_audit) (As := [.int r3]) (rest := []) hx hb hml hown hE hz (okX9_fails X l hfl  hw) qw_1636 qw_1638 qw_20 qw_86 qw_1639 (myX9_fails) ⟨Nat.le_of_ble_eq_true rfl, Nat.le_of_ble_eq_true rfl⟩ (rv_X9 hE hP rfl) hP hD hS rfl hl.1 rfl (Nat.le_of_ble_eq_true rfl) dX9_audit_17 ⟨Nat.le_of_ble_eq_true rfl, Nat.le_of_ble_eq_true rfl⟩) hS (fun r10 G9 H locs hw hP hD hS => ?_)
    refine lv_if_le (tgt := 27) hx hb dX9_audit_20 (by decide) (fun c11 => ?_) (fun c11 => ?_)
    · replace hw := ite_t hw c11
      refine lv_iconst (v := 0) hx hb dX9_audit_27 (by decide) ?_
      exact end_i hx hb hr hlk (by decide) hw hP hD hS dX9_audit_28
    · replace hw := ite_f hw c11
      refine lv_iconst (v := 1) hx hb dX9_audit_23 (by decide) ?_
      refine lv_goto (tgt := 28) hx hb dX9_audit_24 (by decide) ?_
      exact end_i hx hb hr hlk (by decide) hw hP hD hS dX9_audit_28
def wpX9_notRate (post : Int32 → GS → Prop) (a1 : Int32) (a2 : Int32) (G : GS) : Prop :=
  wpX9_kindOf (fun (r2 : Int32) (G1 : GS) =>
  if r2 < 0 then
    post 1 G1
  else
    wpX9_isBetween (fun (r5 : Int32) (G4 : GS) =>
      if r5 = 0 then
        post 1 G4
      else
        post 0 G4) a2 1 50 G1) a1 G
set_option maxHeartbeats 4000000 in
set_option maxRecDepth 100000 in
theorem okX9_notRate (X : Cx) (l : Launch) (hfl : l.stackTraces = false) {post : Int32 → GS → Prop} {a1 : Int32} {a2 : Int32} {G : GS}  (hw : wpX9_notRate post a1 a2 G) : CT X l yX9_notRate cX9_notRate 2 (some FieldType.int) 2 0 0 [.int a1, .int a2] G (Qi X post) := by
  refine mbegin (by decide) (Nat.le_of_ble_eq_true rfl) (fun p e s m below meth c hx hb hr hml hlk hown hE hz ls hl hP hD hS => ?_)
  have hl : lv_has ls 2 [(0, .int a1), (1, .int a2)] := hl
  have hown : s.vm.findClass "FlyTreasuryModel" = some m.cls := hown
  unfold wpX9_notRate at hw
  refine lv_iload_n hx hb dX9_notRate_0 rfl (lv_at hl 0 rfl) ?_
  refine call_i (run_S (cc := cX9_notRate) (As := [.int a1]) (rest := []) hx hb hml hown hE hz (okX9_kindOf X l hfl  hw) qw_1672 qw_1673 qw_86 qw_1674 (myX9_kindOf).2 ⟨Nat.le_of_ble_eq_true rfl, Nat.le_of_ble_eq_true rfl⟩ hP hD hS rfl hl.1 rfl (Nat.le_of_ble_eq_true rfl) dX9_notRate_1 ⟨Nat.le_of_ble_eq_true rfl, Nat.le_of_ble_eq_true rfl⟩) hS (fun r2 G1 H locs hw hP hD hS => ?_)
  refine lv_if_lt (tgt := 21) hx hb dX9_notRate_4 (by decide) (fun c3 => ?_) (fun c3 => ?_)
  · replace hw := ite_t hw c3
    refine lv_iconst (v := 1) hx hb dX9_notRate_21 (by decide) ?_
    exact end_i hx hb hr hlk rfl hw hP hD hS dX9_notRate_22
  · replace hw := ite_f hw c3
    refine lv_iload_n hx hb dX9_notRate_7 rfl (lv_at hl 1 rfl) ?_
    refine lv_iconst (v := 1) hx hb dX9_notRate_8 (by decide) ?_
    refine lv_bipush (v := 50) hx hb dX9_notRate_9 (by decide) ?_
    refine call_i (run_S (cc := cX9_notRate) (As := [.int a2, .int 1, .int 50]) (rest := []) hx hb hml hown hE hz (okX9_isBetween X l hfl  hw) qw_1633 qw_1634 qw_86 qw_1635 (myX9_isBetween).2 ⟨Nat.le_of_ble_eq_true rfl, Nat.le_of_ble_eq_true rfl⟩ hP hD hS rfl hl.1 rfl (Nat.le_of_ble_eq_true rfl) dX9_notRate_11 ⟨Nat.le_of_ble_eq_true rfl, Nat.le_of_ble_eq_true rfl⟩) hS (fun r5 G4 H locs hw hP hD hS => ?_)
    refine lv_if_eq (tgt := 21) hx hb dX9_notRate_14 (by decide) (fun c6 => ?_) (fun c6 => ?_)
    · replace hw := ite_t hw c6
      refine lv_iconst (v := 1) hx hb dX9_notRate_21 (by decide) ?_
      exact end_i hx hb hr hlk rfl hw hP hD hS dX9_notRate_22
    · replace hw := ite_f hw c6
      refine lv_iconst (v := 0) hx hb dX9_notRate_17 (by decide) ?_
      refine lv_goto (tgt := 22) hx hb dX9_notRate_18 (by decide) ?_
      exact end_i hx hb hr hlk rfl hw hP hD hS dX9_notRate_22
def wpX9_setsRate (post : Int32 → GS → Prop) (a1 : Int32) (a2 : Int32) (G : GS) : Prop :=
  wpX9_kindOf (fun (r2 : Int32) (G1 : GS) =>
  vp_in (2 + r2) (ln 190) ∧
    ∀ z4 : Int32, z4 = (G1.1 190 (2 + r2).toNatClampNeg) →
    wpX9_kindOf (fun (r6 : Int32) (G5 : GS) =>
    vp_in (2 + r6) (ln 190) ∧ ∀ G8 : GS, G8 = gI G5 190 ((2 + r6).toNatClampNeg) a2 →
      post z4 G8) a1 G1) a1 G
set_option maxHeartbeats 4000000 in
set_option maxRecDepth 100000 in
theorem okX9_setsRate (X : Cx) (l : Launch) (hfl : l.stackTraces = false) {post : Int32 → GS → Prop} {a1 : Int32} {a2 : Int32} {G : GS}  (hw : wpX9_setsRate post a1 a2 G) : CT X l yX9_setsRate cX9_setsRate 4 (some FieldType.int) 2 0 0 [.ref (xa X 189), .int a1, .int a2] G (Qi X post) := by
  refine mbegin (by decide) (Nat.le_of_ble_eq_true rfl) (fun p e s m below meth c hx hb hr hml hlk hown hE hz ls hl hP hD hS => ?_)
  have hl : lv_has ls 4 [(0, .ref (xa X 189)), (1, .int a1), (2, .int a2)] := hl
  have hown : s.vm.findClass "FlyTreasuryModel" = some m.cls := hown
  unfold wpX9_setsRate at hw
  refine lv_aload_n hx hb dX9_setsRate_0 rfl (lv_at hl 0 rfl) ?_
  refine gf_X9_1 hx hb hE hP hown rfl (hE.w qw_1571 rfl _) dX9_setsRate_1 ?_
  refine lv_iconst (v := 2) hx hb dX9_setsRate_4 (by decide) ?_
  refine lv_iload_n hx hb dX9_setsRate_5 rfl (lv_at hl 1 rfl) ?_
  refine call_i (run_S (cc := cX9_setsRate) (As := [.int a1]) (rest := [.int 2, .ref (xa X 190)]) hx hb hml hown hE hz (okX9_kindOf X l hfl  hw) qw_1672 qw_1673 qw_86 qw_1674 (myX9_kindOf).2 ⟨Nat.le_of_ble_eq_true rfl, Nat.le_of_ble_eq_true rfl⟩ hP hD hS rfl hl.1 rfl (Nat.le_of_ble_eq_true rfl) dX9_setsRate_6 ⟨Nat.le_of_ble_eq_true rfl, Nat.le_of_ble_eq_true rfl⟩) hS (fun r2 G1 H locs hw hP hD hS => ?_)
  refine lv_iadd hx hb dX9_setsRate_9 ?_
  obtain ⟨y3, hw⟩ := hw
  refine ald_2 hx hb hE hP rfl y3 dX9_setsRate_10 ?_
  refine lv_topi (fun z4 ez4 => ?_)
  replace hw := hw z4 ez4
  refine lv_istore_n (lv' := [(3, .int z4), (0, .ref (xa X 189)), (1, .int a1), (2, .int a2)]) hx hb dX9_setsRate_11 rfl hl (by decide) rfl (fun ls hl => ?_)
  refine lv_aload_n hx hb dX9_setsRate_12 rfl (lv_at hl 1 rfl) ?_
  refine gf_X9_1 hx hb hE hP hown rfl (hE.w qw_1571 rfl _) dX9_setsRate_13 ?_
  refine lv_iconst (v := 2) hx hb dX9_setsRate_16 (by decide) ?_
  refine lv_iload_n hx hb dX9_setsRate_17 rfl (lv_at hl 2 rfl) ?_
  refine call_i (run_S (cc := cX9_setsRate) (As := [.int a1]) (rest := [.int 2, .ref (xa X 190)]) hx hb hml hown hE hz (okX9_kindOf X l hfl  hw) qw_1672 qw_1673 qw_86 qw_1674 (myX9_kindOf).2 ⟨Nat.le_of_ble_eq_true rfl, Nat.le_of_ble_eq_true rfl⟩ hP hD hS rfl hl.1 rfl (Nat.le_of_ble_eq_true rfl) dX9_setsRate_18 ⟨Nat.le_of_ble_eq_true rfl, Nat.le_of_ble_eq_true rfl⟩) hS (fun r6 G5 H locs hw hP hD hS => ?_)
  refine lv_iadd hx hb dX9_setsRate_21 ?_
  refine lv_iload_n hx hb dX9_setsRate_22 rfl (lv_at hl 3 rfl) ?_
  obtain ⟨y7, hw⟩ := hw
  refine ast_2 hx hb hE hP hD hS rfl y7 dX9_setsRate_23 (fun G8 H locs eG8 hP hD hS => ?_)
  replace hw := hw G8 eG8
  refine lv_iload_n hx hb dX9_setsRate_24 rfl (lv_at hl 0 rfl) ?_
  exact end_i hx hb hr hlk rfl hw hP hD hS dX9_setsRate_25
def wpX9_setRate (post : Int32 → GS → Prop) (a1 : Int32) (a2 : Int32) (G : GS) : Prop :=
  ∀ G1 : GS, G1 = gI G 189 0 0 →
  wpX9_notRate (fun (r3 : Int32) (G2 : GS) =>
  if r3 = 0 then
    wpX9_remembers (fun (G5 : GS) =>
      wpX9_setsRate (fun (r7 : Int32) (G6 : GS) =>
        post r7 G6) a1 a2 G5)  G2
  else
    wpX9_fails (fun (r9 : Int32) (G8 : GS) =>
      post r9 G8) 1 G2) a1 a2 G1
set_option maxHeartbeats 4000000 in
set_option maxRecDepth 100000 in
theorem okX9_setRate (X : Cx) (l : Launch) (hfl : l.stackTraces = false) {post : Int32 → GS → Prop} {a1 : Int32} {a2 : Int32} {G : GS}  (hw : wpX9_setRate post a1 a2 G) : CT X l yX9_setRate cX9_setRate 3 (some FieldType.int) 3 0 0 [.ref (xa X 189), .int a1, .int a2] G (Qi X post) := by
  refine mbegin (by decide) (Nat.le_of_ble_eq_true rfl) (fun p e s m below meth c hx hb hr hml hlk hown hE hz ls hl hP hD hS => ?_)
  have hl : lv_has ls 3 [(0, .ref (xa X 189)), (1, .int a1), (2, .int a2)] := hl
  have hown : s.vm.findClass "FlyTreasuryModel" = some m.cls := hown
  unfold wpX9_setRate at hw
  refine lv_aload_n hx hb dX9_setRate_0 rfl (lv_at hl 0 rfl) ?_
  refine lv_iconst (v := 0) hx hb dX9_setRate_1 (by decide) ?_
  refine pf_X9_0 hx hb hE hP hD hS hown rfl (hE.w qw_1570 rfl _) dX9_setRate_2 (fun G1 H locs eG1 hP hD hS => ?_)
  replace hw := hw G1 eG1
  refine lv_iload_n hx hb dX9_setRate_5 rfl (lv_at hl 1 rfl) ?_
  refine lv_iload_n hx hb dX9_setRate_6 rfl (lv_at hl 2 rfl) ?_
  refine call_i (run_S (cc := cX9_setRate) (As := [.int a1, .int a2]) (rest := []) hx hb hml hown hE hz (okX9_notRate X l hfl  hw) qw_1771 qw_1772 qw_86 qw_1773 (myX9_notRate).2 ⟨Nat.le_of_ble_eq_true rfl, Nat.le_of_ble_eq_true rfl⟩ hP hD hS rfl hl.1 rfl (Nat.le_of_ble_eq_true rfl) dX9_setRate_7 ⟨Nat.le_of_ble_eq_true rfl, Nat.le_of_ble_eq_true rfl⟩) hS (fun r3 G2 H locs hw hP hD hS => ?_)
  refine lv_if_eq (tgt := 19) hx hb dX9_setRate_10 (by decide) (fun c4 => ?_) (fun c4 => ?_)
  · replace hw := ite_t hw c4
    refine lv_aload_n hx hb dX9_setRate_19 rfl (lv_at hl 0 rfl) ?_
    refine call_v (run_V (cc := cX9_setRate) (As := []) (rest := []) hx hb hml hown hE hz (okX9_remembers X l hfl  hw) qw_1640 qw_1642 qw_21 qw_86 qw_1643 (myX9_remembers) ⟨Nat.le_of_ble_eq_true rfl, Nat.le_of_ble_eq_true rfl⟩ (rv_X9 hE hP rfl) hP hD hS rfl hl.1 rfl (Nat.le_of_ble_eq_true rfl) dX9_setRate_20 ⟨Nat.le_of_ble_eq_true rfl, Nat.le_of_ble_eq_true rfl⟩) hS (fun G5 H locs hw hP hD hS => ?_)
    refine lv_aload_n hx hb dX9_setRate_23 rfl (lv_at hl 0 rfl) ?_
    refine lv_iload_n hx hb dX9_setRate_24 rfl (lv_at hl 1 rfl) ?_
    refine lv_iload_n hx hb dX9_setRate_25 rfl (lv_at hl 2 rfl) ?_
    refine call_i (run_V (cc := cX9_setRate) (As := [.int a1, .int a2]) (rest := []) hx hb hml hown hE hz (okX9_setsRate X l hfl  hw) qw_1774 qw_1776 qw_46 qw_86 qw_1777 (myX9_setsRate) ⟨Nat.le_of_ble_eq_true rfl, Nat.le_of_ble_eq_true rfl⟩ (rv_X9 hE hP rfl) hP hD hS rfl hl.1 rfl (Nat.le_of_ble_eq_true rfl) dX9_setRate_26 ⟨Nat.le_of_ble_eq_true rfl, Nat.le_of_ble_eq_true rfl⟩) hS (fun r7 G6 H locs hw hP hD hS => ?_)
    exact end_i hx hb hr hlk rfl hw hP hD hS dX9_setRate_29
  · replace hw := ite_f hw c4
    refine lv_aload_n hx hb dX9_setRate_13 rfl (lv_at hl 0 rfl) ?_
    refine lv_iconst (v := 1) hx hb dX9_setRate_14 (by decide) ?_
    refine call_i (run_V (cc := cX9_setRate) (As := [.int 1]) (rest := []) hx hb hml hown hE hz (okX9_fails X l hfl  hw) qw_1636 qw_1638 qw_20 qw_86 qw_1639 (myX9_fails) ⟨Nat.le_of_ble_eq_true rfl, Nat.le_of_ble_eq_true rfl⟩ (rv_X9 hE hP rfl) hP hD hS rfl hl.1 rfl (Nat.le_of_ble_eq_true rfl) dX9_setRate_15 ⟨Nat.le_of_ble_eq_true rfl, Nat.le_of_ble_eq_true rfl⟩) hS (fun r9 G8 H locs hw hP hD hS => ?_)
    exact end_i hx hb hr hlk rfl hw hP hD hS dX9_setRate_18
def wpX9_notStick (post : Int32 → GS → Prop) (a1 : Int32) (a2 : Int32) (G : GS) : Prop :=
  wpX9_isVault (fun (r2 : Int32) (G1 : GS) =>
  if r2 = 0 then
    post 1 G1
  else
    wpX9_isBetween (fun (r5 : Int32) (G4 : GS) =>
      if r5 = 0 then
        post 2 G4
      else
        post 0 G4) a2 0 9 G1) a1 G
set_option maxHeartbeats 4000000 in
set_option maxRecDepth 100000 in
theorem okX9_notStick (X : Cx) (l : Launch) (hfl : l.stackTraces = false) {post : Int32 → GS → Prop} {a1 : Int32} {a2 : Int32} {G : GS}  (hw : wpX9_notStick post a1 a2 G) : CT X l yX9_notStick cX9_notStick 3 (some FieldType.int) 3 0 0 [.ref (xa X 189), .int a1, .int a2] G (Qi X post) := by
  refine mbegin (by decide) (Nat.le_of_ble_eq_true rfl) (fun p e s m below meth c hx hb hr hml hlk hown hE hz ls hl hP hD hS => ?_)
  have hl : lv_has ls 3 [(0, .ref (xa X 189)), (1, .int a1), (2, .int a2)] := hl
  have hown : s.vm.findClass "FlyTreasuryModel" = some m.cls := hown
  unfold wpX9_notStick at hw
  refine lv_aload_n hx hb dX9_notStick_0 rfl (lv_at hl 0 rfl) ?_
  refine lv_iload_n hx hb dX9_notStick_1 rfl (lv_at hl 1 rfl) ?_
  refine call_i (run_V (cc := cX9_notStick) (As := [.int a1]) (rest := []) hx hb hml hown hE hz (okX9_isVault X l hfl  hw) qw_1668 qw_1670 qw_27 qw_86 qw_1671 (myX9_isVault) ⟨Nat.le_of_ble_eq_true rfl, Nat.le_of_ble_eq_true rfl⟩ (rv_X9 hE hP rfl) hP hD hS rfl hl.1 rfl (Nat.le_of_ble_eq_true rfl) dX9_notStick_2 ⟨Nat.le_of_ble_eq_true rfl, Nat.le_of_ble_eq_true rfl⟩) hS (fun r2 G1 H locs hw hP hD hS => ?_)
  refine lv_if_ne (tgt := 10) hx hb dX9_notStick_5 (by decide) (fun c3 => ?_) (fun c3 => ?_)
  · replace hw := ite_f hw c3
    refine lv_iload_n hx hb dX9_notStick_10 rfl (lv_at hl 2 rfl) ?_
    refine lv_iconst (v := 0) hx hb dX9_notStick_11 (by decide) ?_
    refine lv_bipush (v := 9) hx hb dX9_notStick_12 (by decide) ?_
    refine call_i (run_S (cc := cX9_notStick) (As := [.int a2, .int 0, .int 9]) (rest := []) hx hb hml hown hE hz (okX9_isBetween X l hfl  hw) qw_1633 qw_1634 qw_86 qw_1635 (myX9_isBetween).2 ⟨Nat.le_of_ble_eq_true rfl, Nat.le_of_ble_eq_true rfl⟩ hP hD hS rfl hl.1 rfl (Nat.le_of_ble_eq_true rfl) dX9_notStick_14 ⟨Nat.le_of_ble_eq_true rfl, Nat.le_of_ble_eq_true rfl⟩) hS (fun r5 G4 H locs hw hP hD hS => ?_)
    refine lv_if_eq (tgt := 24) hx hb dX9_notStick_17 (by decide) (fun c6 => ?_) (fun c6 => ?_)
    · replace hw := ite_t hw c6
      refine lv_iconst (v := 2) hx hb dX9_notStick_24 (by decide) ?_
      exact end_i hx hb hr hlk rfl hw hP hD hS dX9_notStick_25
    · replace hw := ite_f hw c6
      refine lv_iconst (v := 0) hx hb dX9_notStick_20 (by decide) ?_
      refine lv_goto (tgt := 25) hx hb dX9_notStick_21 (by decide) ?_
      exact end_i hx hb hr hlk rfl hw hP hD hS dX9_notStick_25
  · replace hw := ite_t hw c3
    refine lv_iconst (v := 1) hx hb dX9_notStick_8 (by decide) ?_
    exact end_i hx hb hr hlk rfl hw hP hD hS dX9_notStick_9
def wpX9_sticks (post : Int32 → GS → Prop) (a1 : Int32) (a2 : Int32) (G : GS) : Prop :=
  wpX9_of (fun (r2 : Int32) (G1 : GS) =>
  wpX9_puts (fun (G3 : GS) =>
    post r2 G3) a1 6 a2 G1) a1 6 G
set_option maxHeartbeats 4000000 in
set_option maxRecDepth 100000 in
theorem okX9_sticks (X : Cx) (l : Launch) (hfl : l.stackTraces = false) {post : Int32 → GS → Prop} {a1 : Int32} {a2 : Int32} {G : GS}  (hw : wpX9_sticks post a1 a2 G) : CT X l yX9_sticks cX9_sticks 4 (some FieldType.int) 2 0 0 [.ref (xa X 189), .int a1, .int a2] G (Qi X post) := by
  refine mbegin (by decide) (Nat.le_of_ble_eq_true rfl) (fun p e s m below meth c hx hb hr hml hlk hown hE hz ls hl hP hD hS => ?_)
  have hl : lv_has ls 4 [(0, .ref (xa X 189)), (1, .int a1), (2, .int a2)] := hl
  have hown : s.vm.findClass "FlyTreasuryModel" = some m.cls := hown
  unfold wpX9_sticks at hw
  refine lv_aload_n hx hb dX9_sticks_0 rfl (lv_at hl 0 rfl) ?_
  refine lv_iload_n hx hb dX9_sticks_1 rfl (lv_at hl 1 rfl) ?_
  refine lv_bipush (v := 6) hx hb dX9_sticks_2 (by decide) ?_
  refine call_i (run_V (cc := cX9_sticks) (As := [.int a1, .int 6]) (rest := []) hx hb hml hown hE hz (okX9_of X l hfl  hw) qw_1675 qw_1677 qw_28 qw_86 qw_1678 (myX9_of) ⟨Nat.le_of_ble_eq_true rfl, Nat.le_of_ble_eq_true rfl⟩ (rv_X9 hE hP rfl) hP hD hS rfl hl.1 rfl (Nat.le_of_ble_eq_true rfl) dX9_sticks_4 ⟨Nat.le_of_ble_eq_true rfl, Nat.le_of_ble_eq_true rfl⟩) hS (fun r2 G1 H locs hw hP hD hS => ?_)
  refine lv_istore_n (lv' := [(3, .int r2), (0, .ref (xa X 189)), (1, .int a1), (2, .int a2)]) hx hb dX9_sticks_7 rfl hl (by decide) rfl (fun ls hl => ?_)
  refine lv_aload_n hx hb dX9_sticks_8 rfl (lv_at hl 1 rfl) ?_
  refine lv_iload_n hx hb dX9_sticks_9 rfl (lv_at hl 2 rfl) ?_
  refine lv_bipush (v := 6) hx hb dX9_sticks_10 (by decide) ?_
  refine lv_iload_n hx hb dX9_sticks_12 rfl (lv_at hl 3 rfl) ?_
  refine call_v (run_V (cc := cX9_sticks) (As := [.int a1, .int 6, .int a2]) (rest := []) hx hb hml hown hE hz (okX9_puts X l hfl  hw) qw_1656 qw_1658 qw_25 qw_86 qw_1659 (myX9_puts) ⟨Nat.le_of_ble_eq_true rfl, Nat.le_of_ble_eq_true rfl⟩ (rv_X9 hE hP rfl) hP hD hS rfl hl.1 rfl (Nat.le_of_ble_eq_true rfl) dX9_sticks_13 ⟨Nat.le_of_ble_eq_true rfl, Nat.le_of_ble_eq_true rfl⟩) hS (fun G3 H locs hw hP hD hS => ?_)
  refine lv_iload_n hx hb dX9_sticks_16 rfl (lv_at hl 0 rfl) ?_
  exact end_i hx hb hr hlk rfl hw hP hD hS dX9_sticks_17
