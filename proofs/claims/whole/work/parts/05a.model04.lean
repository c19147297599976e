def wpX9_daysUntilSound (post : Int32 → GS → Prop) (a1 : Int32) (G : GS) : Prop :=
  ∀ G1 : GS, G1 = gI G 189 0 0 →
  wpX9_isVault (fun (r3 : Int32) (G2 : GS) =>
  if r3 = 0 then
    wpX9_fails (fun (r11 : Int32) (G10 : GS) =>
      post r11 G10) 1 G2
  else
    wpX9_spare (fun (r6 : Int32) (G5 : GS) =>
      if 0 ≤ r6 then
        post 0 G5
      else
        wpX9_spare (fun (r9 : Int32) (G8 : GS) =>
          post (-r9) G8) a1 G5) a1 G2) a1 G1
set_option maxHeartbeats 4000000 in
set_option maxRecDepth 100000 in
theorem okX9_daysUntilSound (X : Cx) (l : Launch) (hfl : l.stackTraces = false) {post : Int32 → GS → Prop} {a1 : Int32} {G : GS}  (hw : wpX9_daysUntilSound post a1 G) : CT X l yX9_daysUntilSound cX9_daysUntilSound 2 (some FieldType.int) 5 0 0 [.ref (xa X 189), .int a1] G (Qi X post) := by
  refine mbegin (by decide) (Nat.le_of_ble_eq_true rfl) (fun p e s m below meth c hx hb hr hml hlk hown hE hz ls hl hP hD hS => ?_)
  have hl : lv_has ls 2 [(0, .ref (xa X 189)), (1, .int a1)] := hl
  have hown : s.vm.findClass "FlyTreasuryModel" = some m.cls := hown
  unfold wpX9_daysUntilSound at hw
  refine lv_aload_n hx hb dX9_daysUntilSound_0 rfl (lv_at hl 0 rfl) ?_
  refine lv_iconst (v := 0) hx hb dX9_daysUntilSound_1 (by decide) ?_
  refine pf_X9_0 hx hb hE hP hD hS hown rfl (hE.w qw_1570 rfl _) dX9_daysUntilSound_2 (fun G1 H locs eG1 hP hD hS => ?_)
  replace hw := hw G1 eG1
  refine lv_aload_n hx hb dX9_daysUntilSound_5 rfl (lv_at hl 0 rfl) ?_
  refine lv_iload_n hx hb dX9_daysUntilSound_6 rfl (lv_at hl 1 rfl) ?_
  refine call_i (run_V (cc := cX9_daysUntilSound) (As := [.int a1]) (rest := []) hx hb hml hown hE hz (okX9_isVault X l hfl  hw) qw_1668 qw_1670 qw_27 qw_86 qw_1671 (myX9_isVault) ⟨Nat.le_of_ble_eq_true rfl, Nat.le_of_ble_eq_true rfl⟩ (rv_X9 hE hP rfl) hP hD hS rfl hl.1 rfl (Nat.le_of_ble_eq_true rfl) dX9_daysUntilSound_7 ⟨Nat.le_of_ble_eq_true rfl, Nat.le_of_ble_eq_true rfl⟩) hS (fun r3 G2 H locs hw hP hD hS => ?_)
  refine lv_if_ne (tgt := 19) hx hb dX9_daysUntilSound_10 (by decide) (fun c4 => ?_) (fun c4 => ?_)
  · replace hw := ite_f hw c4
    refine lv_aload_n hx hb dX9_daysUntilSound_19 rfl (lv_at hl 0 rfl) ?_
    refine lv_iload_n hx hb dX9_daysUntilSound_20 rfl (lv_at hl 1 rfl) ?_
    refine call_i (run_V (cc := cX9_daysUntilSound) (As := [.int a1]) (rest := []) hx hb hml hown hE hz (okX9_spare X l hfl  hw) qw_1699 qw_1701 qw_33 qw_86 qw_1702 (myX9_spare) ⟨Nat.le_of_ble_eq_true rfl, Nat.le_of_ble_eq_true rfl⟩ (rv_X9 hE hP rfl) hP hD hS rfl hl.1 rfl (Nat.le_of_ble_eq_true rfl) dX9_daysUntilSound_21 ⟨Nat.le_of_ble_eq_true rfl, Nat.le_of_ble_eq_true rfl⟩) hS (fun r6 G5 H locs hw hP hD hS => ?_)
    refine lv_if_ge (tgt := 36) hx hb dX9_daysUntilSound_24 (by decide) (fun c7 => ?_) (fun c7 => ?_)
    · replace hw := ite_t hw c7
      refine lv_iconst (v := 0) hx hb dX9_daysUntilSound_36 (by decide) ?_
      exact end_i hx hb hr hlk rfl hw hP hD hS dX9_daysUntilSound_37
    · replace hw := ite_f hw c7
      refine lv_aload_n hx hb dX9_daysUntilSound_27 rfl (lv_at hl 0 rfl) ?_
      refine lv_iload_n hx hb dX9_daysUntilSound_28 rfl (lv_at hl 1 rfl) ?_
      refine call_i (run_V (cc := cX9_daysUntilSound) (As := [.int a1]) (rest := []) hx hb hml hown hE hz (okX9_spare X l hfl  hw) qw_1699 qw_1701 qw_33 qw_86 qw_1702 (myX9_spare) ⟨Nat.le_of_ble_eq_true rfl, Nat.le_of_ble_eq_true rfl⟩ (rv_X9 hE hP rfl) hP hD hS rfl hl.1 rfl (Nat.le_of_ble_eq_true rfl) dX9_daysUntilSound_29 ⟨Nat.le_of_ble_eq_true rfl, Nat.le_of_ble_eq_true rfl⟩) hS (fun r9 G8 H locs hw hP hD hS => ?_)
      refine lv_ineg hx hb dX9_daysUntilSound_32 ?_
      refine lv_goto (tgt := 37) hx hb dX9_daysUntilSound_33 (by decide) ?_
      exact end_i hx hb hr hlk rfl hw hP hD hS dX9_daysUntilSound_37
  · replace hw := ite_t hw c4
    refine lv_aload_n hx hb dX9_daysUntilSound_13 rfl (lv_at hl 0 rfl) ?_
    refine lv_iconst (v := 1) hx hb dX9_daysUntilSound_14 (by decide) ?_
    refine call_i (run_V (cc := cX9_daysUntilSound) (As := [.int 1]) (rest := []) hx hb hml hown hE hz (okX9_fails X l hfl  hw) qw_1636 qw_1638 qw_20 qw_86 qw_1639 (myX9_fails) ⟨Nat.le_of_ble_eq_true rfl, Nat.le_of_ble_eq_true rfl⟩ (rv_X9 hE hP rfl) hP hD hS rfl hl.1 rfl (Nat.le_of_ble_eq_true rfl) dX9_daysUntilSound_15 ⟨Nat.le_of_ble_eq_true rfl, Nat.le_of_ble_eq_true rfl⟩) hS (fun r11 G10 H locs hw hP hD hS => ?_)
    exact end_i hx hb hr hlk rfl hw hP hD hS dX9_daysUntilSound_18
def wpX9_daysUntilSoundByCounting (post : Int32 → GS → Prop) (a1 : Int32) (G : GS) : Prop :=
  wpX9_daysUntilSound (fun (r2 : Int32) (G1 : GS) =>
  post r2 G1) a1 G
set_option maxHeartbeats 4000000 in
set_option maxRecDepth 100000 in
theorem okX9_daysUntilSoundByCounting (X : Cx) (l : Launch) (hfl : l.stackTraces = false) {post : Int32 → GS → Prop} {a1 : Int32} {G : GS}  (hw : wpX9_daysUntilSoundByCounting post a1 G) : CT X l yX9_daysUntilSoundByCounting cX9_daysUntilSoundByCounting 2 (some FieldType.int) 6 0 0 [.ref (xa X 189), .int a1] G (Qi X post) := by
  refine mbegin (by decide) (Nat.le_of_ble_eq_true rfl) (fun p e s m below meth c hx hb hr hml hlk hown hE hz ls hl hP hD hS => ?_)
  have hl : lv_has ls 2 [(0, .ref (xa X 189)), (1, .int a1)] := hl
  have hown : s.vm.findClass "FlyTreasuryModel" = some m.cls := hown
  unfold wpX9_daysUntilSoundByCounting at hw
  refine lv_aload_n hx hb dX9_daysUntilSoundByCounting_0 rfl (lv_at hl 0 rfl) ?_
  refine lv_iload_n hx hb dX9_daysUntilSoundByCounting_1 rfl (lv_at hl 1 rfl) ?_
  refine call_i (run_V (cc := cX9_daysUntilSoundByCounting) (As := [.int a1]) (rest := []) hx hb hml hown hE hz (okX9_daysUntilSound X l hfl  hw) qw_1869 qw_1862 qw_1863 qw_86 qw_1864 (myX9_daysUntilSound) ⟨Nat.le_of_ble_eq_true rfl, Nat.le_of_ble_eq_true rfl⟩ (rv_X9 hE hP rfl) hP hD hS rfl hl.1 rfl (Nat.le_of_ble_eq_true rfl) dX9_daysUntilSoundByCounting_2 ⟨Nat.le_of_ble_eq_true rfl, Nat.le_of_ble_eq_true rfl⟩) hS (fun r2 G1 H locs hw hP hD hS => ?_)
  exact end_i hx hb hr hlk rfl hw hP hD hS dX9_daysUntilSoundByCounting_5
def wpX9_mostFlies (post : Int32 → GS → Prop) (a1 : Int32) (a2 : Int32) (G : GS) : Prop :=
  ∀ G1 : GS, G1 = gI G 189 0 0 →
  wpX9_isVault (fun (r3 : Int32) (G2 : GS) =>
  if r3 = 0 then
    wpX9_fails (fun (r17 : Int32) (G16 : GS) =>
      post r17 G16) 1 G2
  else
    wpX9_kindOf (fun (r6 : Int32) (G5 : GS) =>
      if 0 ≤ r6 then
        wpX9_valueOf (fun (r9 : Int32) (G8 : GS) =>
          wpX9_kindOf (fun (r11 : Int32) (G10 : GS) =>
            vp_in (2 + r11) (ln 190) ∧
              ¬ (G10.1 190 (2 + r11).toNatClampNeg) = 0 ∧
              post (r9 / (G10.1 190 (2 + r11).toNatClampNeg)) G10) a2 G8) a1 G5
      else
        wpX9_fails (fun (r15 : Int32) (G14 : GS) =>
          post r15 G14) 2 G5) a2 G2) a1 G1
set_option maxHeartbeats 4000000 in
set_option maxRecDepth 100000 in
theorem okX9_mostFlies (X : Cx) (l : Launch) (hfl : l.stackTraces = false) {post : Int32 → GS → Prop} {a1 : Int32} {a2 : Int32} {G : GS}  (hw : wpX9_mostFlies post a1 a2 G) : CT X l yX9_mostFlies cX9_mostFlies 3 (some FieldType.int) 3 0 0 [.ref (xa X 189), .int a1, .int a2] G (Qi X post) := by
  refine mbegin (by decide) (Nat.le_of_ble_eq_true rfl) (fun p e s m below meth c hx hb hr hml hlk hown hE hz ls hl hP hD hS => ?_)
  have hl : lv_has ls 3 [(0, .ref (xa X 189)), (1, .int a1), (2, .int a2)] := hl
  have hown : s.vm.findClass "FlyTreasuryModel" = some m.cls := hown
  unfold wpX9_mostFlies at hw
  refine lv_aload_n hx hb dX9_mostFlies_0 rfl (lv_at hl 0 rfl) ?_
  refine lv_iconst (v := 0) hx hb dX9_mostFlies_1 (by decide) ?_
  refine pf_X9_0 hx hb hE hP hD hS hown rfl (hE.w qw_1570 rfl _) dX9_mostFlies_2 (fun G1 H locs eG1 hP hD hS => ?_)
  replace hw := hw G1 eG1
  refine lv_aload_n hx hb dX9_mostFlies_5 rfl (lv_at hl 0 rfl) ?_
  refine lv_iload_n hx hb dX9_mostFlies_6 rfl (lv_at hl 1 rfl) ?_
  refine call_i (run_V (cc := cX9_mostFlies) (As := [.int a1]) (rest := []) hx hb hml hown hE hz (okX9_isVault X l hfl  hw) qw_1668 qw_1670 qw_27 qw_86 qw_1671 (myX9_isVault) ⟨Nat.le_of_ble_eq_true rfl, Nat.le_of_ble_eq_true rfl⟩ (rv_X9 hE hP rfl) hP hD hS rfl hl.1 rfl (Nat.le_of_ble_eq_true rfl) dX9_mostFlies_7 ⟨Nat.le_of_ble_eq_true rfl, Nat.le_of_ble_eq_true rfl⟩) hS (fun r3 G2 H locs hw hP hD hS => ?_)
  refine lv_if_ne (tgt := 19) hx hb dX9_mostFlies_10 (by decide) (fun c4 => ?_) (fun c4 => ?_)
  · replace hw := ite_f hw c4
    refine lv_iload_n hx hb dX9_mostFlies_19 rfl (lv_at hl 2 rfl) ?_
    refine call_i (run_S (cc := cX9_mostFlies) (As := [.int a2]) (rest := []) hx hb hml hown hE hz (okX9_kindOf X l hfl  hw) qw_1672 qw_1673 qw_86 qw_1674 (myX9_kindOf).2 ⟨Nat.le_of_ble_eq_true rfl, Nat.le_of_ble_eq_true rfl⟩ hP hD hS rfl hl.1 rfl (Nat.le_of_ble_eq_true rfl) dX9_mostFlies_20 ⟨Nat.le_of_ble_eq_true rfl, Nat.le_of_ble_eq_true rfl⟩) hS (fun r6 G5 H locs hw hP hD hS => ?_)
    refine lv_if_ge (tgt := 34) hx hb dX9_mostFlies_23 (by decide) (fun c7 => ?_) (fun c7 => ?_)
    · replace hw := ite_t hw c7
      refine lv_aload_n hx hb dX9_mostFlies_34 rfl (lv_at hl 0 rfl) ?_
      refine lv_iload_n hx hb dX9_mostFlies_35 rfl (lv_at hl 1 rfl) ?_
      refine call_i (run_V (cc := cX9_mostFlies) (As := [.int a1]) (rest := []) hx hb hml hown hE hz (okX9_valueOf X l hfl  hw) qw_1703 qw_1705 qw_34 qw_86 qw_1706 (myX9_valueOf) ⟨Nat.le_of_ble_eq_true rfl, Nat.le_of_ble_eq_true rfl⟩ (rv_X9 hE hP rfl) hP hD hS rfl hl.1 rfl (Nat.le_of_ble_eq_true rfl) dX9_mostFlies_36 ⟨Nat.le_of_ble_eq_true rfl, Nat.le_of_ble_eq_true rfl⟩) hS (fun r9 G8 H locs hw hP hD hS => ?_)
      refine lv_aload_n hx hb dX9_mostFlies_39 rfl (lv_at hl 0 rfl) ?_
      refine gf_X9_1 hx hb hE hP hown rfl (hE.w qw_1571 rfl _) dX9_mostFlies_40 ?_
      refine lv_iconst (v := 2) hx hb dX9_mostFlies_43 (by decide) ?_
      refine lv_iload_n hx hb dX9_mostFlies_44 rfl (lv_at hl 2 rfl) ?_
      refine call_i (run_S (cc := cX9_mostFlies) (As := [.int a2]) (rest := [.int 2, .ref (xa X 190), .int r9]) hx hb hml hown hE hz (okX9_kindOf X l hfl  hw) qw_1672 qw_1673 qw_86 qw_1674 (myX9_kindOf).2 ⟨Nat.le_of_ble_eq_true rfl, Nat.le_of_ble_eq_true rfl⟩ hP hD hS rfl hl.1 rfl (Nat.le_of_ble_eq_true rfl) dX9_mostFlies_45 ⟨Nat.le_of_ble_eq_true rfl, Nat.le_of_ble_eq_true rfl⟩) hS (fun r11 G10 H locs hw hP hD hS => ?_)
      refine lv_iadd hx hb dX9_mostFlies_48 ?_
      obtain ⟨y12, hw⟩ := hw
      refine ald_2 hx hb hE hP rfl y12 dX9_mostFlies_49 ?_
      obtain ⟨y13, hw⟩ := hw
      refine lv_idiv hx hb dX9_mostFlies_50 y13 ?_
      exact end_i hx hb hr hlk rfl hw hP hD hS dX9_mostFlies_51
    · replace hw := ite_f hw c7
      refine lv_aload_n hx hb dX9_mostFlies_26 rfl (lv_at hl 0 rfl) ?_
      refine lv_iconst (v := 2) hx hb dX9_mostFlies_27 (by decide) ?_
      refine call_i (run_V (cc := cX9_mostFlies) (As := [.int 2]) (rest := []) hx hb hml hown hE hz (okX9_fails X l hfl  hw) qw_1636 qw_1638 qw_20 qw_86 qw_1639 (myX9_fails) ⟨Nat.le_of_ble_eq_true rfl, Nat.le_of_ble_eq_true rfl⟩ (rv_X9 hE hP rfl) hP hD hS rfl hl.1 rfl (Nat.le_of_ble_eq_true rfl) dX9_mostFlies_28 ⟨Nat.le_of_ble_eq_true rfl, Nat.le_of_ble_eq_true rfl⟩) hS (fun r15 G14 H locs hw hP hD hS => ?_)
      refine lv_goto (tgt := 51) hx hb dX9_mostFlies_31 (by decide) ?_
      exact end_i hx hb hr hlk rfl hw hP hD hS dX9_mostFlies_51
  · replace hw := ite_t hw c4
    refine lv_aload_n hx hb dX9_mostFlies_13 rfl (lv_at hl 0 rfl) ?_
    refine lv_iconst (v := 1) hx hb dX9_mostFlies_14 (by decide) ?_
    refine call_i (run_V (cc := cX9_mostFlies) (As := [.int 1]) (rest := []) hx hb hml hown hE hz (okX9_fails X l hfl  hw) qw_1636 qw_1638 qw_20 qw_86 qw_1639 (myX9_fails) ⟨Nat.le_of_ble_eq_true rfl, Nat.le_of_ble_eq_true rfl⟩ (rv_X9 hE hP rfl) hP hD hS rfl hl.1 rfl (Nat.le_of_ble_eq_true rfl) dX9_mostFlies_15 ⟨Nat.le_of_ble_eq_true rfl, Nat.le_of_ble_eq_true rfl⟩) hS (fun r17 G16 H locs hw hP hD hS => ?_)
    exact end_i hx hb hr hlk rfl hw hP hD hS dX9_mostFlies_18
def wpX9_mostFliesByExchanges (post : Int32 → GS → Prop) (a1 : Int32) (a2 : Int32) (G : GS) : Prop :=
  wpX9_mostFlies (fun (r2 : Int32) (G1 : GS) =>
  post r2 G1) a1 a2 G
set_option maxHeartbeats 4000000 in
set_option maxRecDepth 100000 in
theorem okX9_mostFliesByExchanges (X : Cx) (l : Launch) (hfl : l.stackTraces = false) {post : Int32 → GS → Prop} {a1 : Int32} {a2 : Int32} {G : GS}  (hw : wpX9_mostFliesByExchanges post a1 a2 G) : CT X l yX9_mostFliesByExchanges cX9_mostFliesByExchanges 3 (some FieldType.int) 4 0 0 [.ref (xa X 189), .int a1, .int a2] G (Qi X post) := by
  refine mbegin (by decide) (Nat.le_of_ble_eq_true rfl) (fun p e s m below meth c hx hb hr hml hlk hown hE hz ls hl hP hD hS => ?_)
  have hl : lv_has ls 3 [(0, .ref (xa X 189)), (1, .int a1), (2, .int a2)] := hl
  have hown : s.vm.findClass "FlyTreasuryModel" = some m.cls := hown
  unfold wpX9_mostFliesByExchanges at hw
  refine lv_aload_n hx hb dX9_mostFliesByExchanges_0 rfl (lv_at hl 0 rfl) ?_
  refine lv_iload_n hx hb dX9_mostFliesByExchanges_1 rfl (lv_at hl 1 rfl) ?_
  refine lv_iload_n hx hb dX9_mostFliesByExchanges_2 rfl (lv_at hl 2 rfl) ?_
  refine call_i (run_V (cc := cX9_mostFliesByExchanges) (As := [.int a1, .int a2]) (rest := []) hx hb hml hown hE hz (okX9_mostFlies X l hfl  hw) qw_1878 qw_1871 qw_1872 qw_86 qw_1873 (myX9_mostFlies) ⟨Nat.le_of_ble_eq_true rfl, Nat.le_of_ble_eq_true rfl⟩ (rv_X9 hE hP rfl) hP hD hS rfl hl.1 rfl (Nat.le_of_ble_eq_true rfl) dX9_mostFliesByExchanges_3 ⟨Nat.le_of_ble_eq_true rfl, Nat.le_of_ble_eq_true rfl⟩) hS (fun r2 G1 H locs hw hP hD hS => ?_)
  exact end_i hx hb hr hlk rfl hw hP hD hS dX9_mostFliesByExchanges_6
def wpX9_rate (post : Int32 → GS → Prop) (a1 : Int32) (G : GS) : Prop :=
  ∀ G1 : GS, G1 = gI G 189 0 0 →
  wpX9_kindOf (fun (r3 : Int32) (G2 : GS) =>
  if 0 ≤ r3 then
    wpX9_kindOf (fun (r6 : Int32) (G5 : GS) =>
      vp_in (2 + r6) (ln 190) ∧
        post (G5.1 190 (2 + r6).toNatClampNeg) G5) a1 G2
  else
    wpX9_fails (fun (r9 : Int32) (G8 : GS) =>
      post r9 G8) 1 G2) a1 G1
set_option maxHeartbeats 4000000 in
set_option maxRecDepth 100000 in
theorem okX9_rate (X : Cx) (l : Launch) (hfl : l.stackTraces = false) {post : Int32 → GS → Prop} {a1 : Int32} {G : GS}  (hw : wpX9_rate post a1 G) : CT X l yX9_rate cX9_rate 2 (some FieldType.int) 2 0 0 [.ref (xa X 189), .int a1] G (Qi X post) := by
  refine mbegin (by decide) (Nat.le_of_ble_eq_true rfl) (fun p e s m below meth c hx hb hr hml hlk hown hE hz ls hl hP hD hS => ?_)
  have hl : lv_has ls 2 [(0, .ref (xa X 189)), (1, .int a1)] := hl
  have hown : s.vm.findClass "FlyTreasuryModel" = some m.cls := hown
  unfold wpX9_rate at hw
  refine lv_aload_n hx hb dX9_rate_0 rfl (lv_at hl 0 rfl) ?_
  refine lv_iconst (v := 0) hx hb dX9_rate_1 (by decide) ?_
  refine pf_X9_0 hx hb hE hP hD hS hown rfl (hE.w qw_1570 rfl _) dX9_rate_2 (fun G1 H locs eG1 hP hD hS => ?_)
  replace hw := hw G1 eG1
  refine lv_iload_n hx hb dX9_rate_5 rfl (lv_at hl 1 rfl) ?_
  refine call_i (run_S (cc := cX9_rate) (As := [.int a1]) (rest := []) hx hb hml hown hE hz (okX9_kindOf X l hfl  hw) qw_1672 qw_1673 qw_86 qw_1674 (myX9_kindOf).2 ⟨Nat.le_of_ble_eq_true rfl, Nat.le_of_ble_eq_true rfl⟩ hP hD hS rfl hl.1 rfl (Nat.le_of_ble_eq_true rfl) dX9_rate_6 ⟨Nat.le_of_ble_eq_true rfl, Nat.le_of_ble_eq_true rfl⟩) hS (fun r3 G2 H locs hw hP hD hS => ?_)
  refine lv_if_ge (tgt := 20) hx hb dX9_rate_9 (by decide) (fun c4 => ?_) (fun c4 => ?_)
  · replace hw := ite_t hw c4
    refine lv_aload_n hx hb dX9_rate_20 rfl (lv_at hl 0 rfl) ?_
    refine gf_X9_1 hx hb hE hP hown rfl (hE.w qw_1571 rfl _) dX9_rate_21 ?_
    refine lv_iconst (v := 2) hx hb dX9_rate_24 (by decide) ?_
    refine lv_iload_n hx hb dX9_rate_25 rfl (lv_at hl 1 rfl) ?_
    refine call_i (run_S (cc := cX9_rate) (As := [.int a1]) (rest := [.int 2, .ref (xa X 190)]) hx hb hml hown hE hz (okX9_kindOf X l hfl  hw) qw_1672 qw_1673 qw_86 qw_1674 (myX9_kindOf).2 ⟨Nat.le_of_ble_eq_true rfl, Nat.le_of_ble_eq_true rfl⟩ hP hD hS rfl hl.1 rfl (Nat.le_of_ble_eq_true rfl) dX9_rate_26 ⟨Nat.le_of_ble_eq_true rfl, Nat.le_of_ble_eq_true rfl⟩) hS (fun r6 G5 H locs hw hP hD hS => ?_)
    refine lv_iadd hx hb dX9_rate_29 ?_
    obtain ⟨y7, hw⟩ := hw
    refine ald_2 hx hb hE hP rfl y7 dX9_rate_30 ?_
    exact end_i hx hb hr hlk rfl hw hP hD hS dX9_rate_31
  · replace hw := ite_f hw c4
    refine lv_aload_n hx hb dX9_rate_12 rfl (lv_at hl 0 rfl) ?_
    refine lv_iconst (v := 1) hx hb dX9_rate_13 (by decide) ?_
    refine call_i (run_V (cc := cX9_rate) (As := [.int 1]) (rest := []) hx hb hml hown hE hz (okX9_fails X l hfl  hw) qw_1636 qw_1638 qw_20 qw_86 qw_1639 (myX9_fails) ⟨Nat.le_of_ble_eq_true rfl, Nat.le_of_ble_eq_true rfl⟩ (rv_X9 hE hP rfl) hP hD hS rfl hl.1 rfl (Nat.le_of_ble_eq_true rfl) dX9_rate_14 ⟨Nat.le_of_ble_eq_true rfl, Nat.le_of_ble_eq_true rfl⟩) hS (fun r9 G8 H locs hw hP hD hS => ?_)
    refine lv_goto (tgt := 31) hx hb dX9_rate_17 (by decide) ?_
    exact end_i hx hb hr hlk rfl hw hP hD hS dX9_rate_31
def wlX9_fliesOf_4 (post : Int32 → GS → Prop) (a1 : Int32) : Nat → GS → Int32 → Int32 → Prop
  | 0, _, _, _ => False
  | n + 1, G, v2, v3 =>
    vp_in 0 (ln 190) ∧
  if (G.1 190 (0 : Int32).toNatClampNeg) ≤ v3 then
  post v2 G
else
  wpX9_of (fun (r4 : Int32) (G3 : GS) =>
    ∀ z5 : Int32, z5 = (v2 + r4) →
      ∀ z6 : Int32, z6 = v3 + 1 →
      wlX9_fliesOf_4 post a1 n G3 z5 z6) v3 a1 G
def wpX9_fliesOf (post : Int32 → GS → Prop) (a1 : Int32) (G : GS) : Prop :=
  ∃ nn, wlX9_fliesOf_4 post a1 nn G 0 0
set_option maxHeartbeats 4000000 in
set_option maxRecDepth 100000 in
theorem okX9_fliesOf (X : Cx) (l : Launch) (hfl : l.stackTraces = false) {post : Int32 → GS → Prop} {a1 : Int32} {G : GS}  (hw : wpX9_fliesOf post a1 G) : CT X l yX9_fliesOf cX9_fliesOf 4 (some FieldType.int) 2 0 0 [.ref (xa X 189), .int a1] G (Qi X post) := by
  refine mbegin (by decide) (Nat.le_of_ble_eq_true rfl) (fun p e s m below meth c hx hb hr hml hlk hown hE hz ls hl hP hD hS => ?_)
  have hl : lv_has ls 4 [(0, .ref (xa X 189)), (1, .int a1)] := hl
  have hown : s.vm.findClass "FlyTreasuryModel" = some m.cls := hown
  have L4 : ∀ (n4 : Nat) (G : GS) (v2 : Int32) (v3 : Int32) (H : Heap) (locs : List Loc) (ls : Array Slot), wlX9_fliesOf_4 post a1 n4 G v2 v3 → va_P (xD X) vwCl (pool X G) H → va_D (xA X) (pool X G) → va_S (xA X) s.heap H locs → lv_has ls 4 [(0, .ref (xa X 189)), (1, .int a1), (2, .int v2), (3, .int v3)] → W p l e (rmL 2 0 0) s m [.ref (xa X 189), .int a1].toArray below meth c H locs 0 0 (MQ below (Qi X post) [.ref (xa X 189), .int a1].toArray s 0 0 (xA X)) (F0 m 4 ls []) := by
    intro n4
    induction n4 with
    | zero => intro G v2 v3  H locs ls hw; exact hw.elim
    | succ n4 ih4 =>
      intro G v2 v3  H locs ls hw hP hD hS hl
      rw [wlX9_fliesOf_4] at hw
      refine lv_iload_n hx hb dX9_fliesOf_4 rfl (lv_at hl 3 rfl) ?_
      refine lv_aload_n hx hb dX9_fliesOf_5 rfl (lv_at hl 0 rfl) ?_
      refine gf_X9_1 hx hb hE hP hown rfl (hE.w qw_1571 rfl _) dX9_fliesOf_6 ?_
      refine lv_iconst (v := 0) hx hb dX9_fliesOf_9 (by decide) ?_
      obtain ⟨y7, hw⟩ := hw
      refine ald_2 hx hb hE hP rfl y7 dX9_fliesOf_10 ?_
      refine lv_icmp_ge (tgt := 29) hx hb dX9_fliesOf_11 (by decide) (fun c8 => ?_) (fun c8 => ?_)
      · replace hw := ite_t hw c8
        refine lv_iload_n hx hb dX9_fliesOf_29 rfl (lv_at hl 2 rfl) ?_
        exact end_i hx hb hr hlk rfl hw hP hD hS dX9_fliesOf_30
      · replace hw := ite_f hw c8
        refine lv_iload_n hx hb dX9_fliesOf_14 rfl (lv_at hl 2 rfl) ?_
        refine lv_aload_n hx hb dX9_fliesOf_15 rfl (lv_at hl 0 rfl) ?_
        refine lv_iload_n hx hb dX9_fliesOf_16 rfl (lv_at hl 3 rfl) ?_
        refine lv_iload_n hx hb dX9_fliesOf_17 rfl (lv_at hl 1 rfl) ?_
        refine call_i (run_V (cc := cX9_fliesOf) (As := [.int v3, .int a1]) (rest := [.int v2]) hx hb hml hown hE hz (okX9_of X l hfl  hw) qw_1675 qw_1677 qw_28 qw_86 qw_1678 (myX9_of) ⟨Nat.le_of_ble_eq_true rfl, Nat.le_of_ble_eq_true rfl⟩ (rv_X9 hE hP rfl) hP hD hS rfl hl.1 rfl (Nat.le_of_ble_eq_true rfl) dX9_fliesOf_18 ⟨Nat.le_of_ble_eq_true rfl, Nat.le_of_ble_eq_true rfl⟩) hS (fun r10 G9 H locs hw hP hD hS => ?_)
        refine lv_iadd hx hb dX9_fliesOf_21 ?_
        refine lv_topi (fun z11 ez11 => ?_)
        replace hw := hw z11 ez11
        refine lv_istore_n (lv' := [(2, .int z11), (0, .ref (xa X 189)), (1, .int a1), (3, .int v3)]) hx hb dX9_fliesOf_22 rfl hl (by decide) rfl (fun ls hl => ?_)
        obtain ⟨z12, ez12⟩ : ∃ y : Int32, y = v3 + 1 := ⟨_, rfl⟩
        replace hw := hw z12 ez12
        refine lv_iinc (v := z12) (lv' := [(3, .int z12), (2, .int z11), (0, .ref (xa X 189)), (1, .int a1)]) hx hb dX9_fliesOf_23 hl (k := 3) rfl (by rw [ez12]; rfl) (by decide) rfl (fun ls hl => ?_)
        refine lv_goto (tgt := 4) hx hb dX9_fliesOf_26 (by decide) ?_
        exact ih4 G9 z11 z12  _ _ _ hw hP hD hS (lv_sub hl [2, 3, 1, 0] rfl)
  unfold wpX9_fliesOf at hw
  refine lv_iconst (v := 0) hx hb dX9_fliesOf_0 (by decide) ?_
  refine lv_istore_n (lv' := [(2, .int 0), (0, .ref (xa X 189)), (1, .int a1)]) hx hb dX9_fliesOf_1 rfl hl (by decide) rfl (fun ls hl => ?_)
  refine lv_iconst (v := 0) hx hb dX9_fliesOf_2 (by decide) ?_
  refine lv_istore_n (lv' := [(3, .int 0), (2, .int 0), (0, .ref (xa X 189)), (1, .int a1)]) hx hb dX9_fliesOf_3 rfl hl (by decide) rfl (fun ls hl => ?_)
  obtain ⟨nn, hw⟩ := hw
  exact L4 nn G 0 0  _ _ _ hw hP hD hS (lv_sub hl [2, 3, 1, 0] rfl)
def wpX9_totalFlies (post : Int32 → GS → Prop) (a1 : Int32) (G : GS) : Prop :=
  ∀ G1 : GS, G1 = gI G 189 0 0 →
  wpX9_kindOf (fun (r3 : Int32) (G2 : GS) =>
  if 0 ≤ r3 then
    wpX9_kindOf (fun (r6 : Int32) (G5 : GS) =>
      wpX9_fliesOf (fun (r8 : Int32) (G7 : GS) =>
        post r8 G7) r6 G5) a1 G2
  else
    wpX9_fails (fun (r10 : Int32) (G9 : GS) =>
      post r10 G9) 1 G2) a1 G1
set_option maxHeartbeats 4000000 in
set_option maxRecDepth 100000 in
theorem okX9_totalFlies (X : Cx) (l : Launch) (hfl : l.stackTraces = false) {post : Int32 → GS → Prop} {a1 : Int32} {G : GS}  (hw : wpX9_totalFlies post a1 G) : CT X l yX9_totalFlies cX9_totalFlies 2 (some FieldType.int) 3 0 0 [.ref (xa X 189), .int a1] G (Qi X post) := by
  refine mbegin (by decide) (Nat.le_of_ble_eq_true rfl) (fun p e s m below meth c hx hb hr hml hlk hown hE hz ls hl hP hD hS => ?_)
  have hl : lv_has ls 2 [(0, .ref (xa X 189)), (1, .int a1)] := hl
  have hown : s.vm.findClass "FlyTreasuryModel" = some m.cls := hown
  unfold wpX9_totalFlies at hw
  refine lv_aload_n hx hb dX9_totalFlies_0 rfl (lv_at hl 0 rfl) ?_
  refine lv_iconst (v := 0) hx hb dX9_totalFlies_1 (by decide) ?_
  refine pf_X9_0 hx hb hE hP hD hS hown rfl (hE.w qw_1570 rfl _) dX9_totalFlies_2 (fun G1 H locs eG1 hP hD hS => ?_)
  replace hw := hw G1 eG1
  refine lv_iload_n hx hb dX9_totalFlies_5 rfl (lv_at hl 1 rfl) ?_
  refine call_i (run_S (cc := cX9_totalFlies) (As := [.int a1]) (rest := []) hx hb hml hown hE hz (okX9_kindOf X l hfl  hw) qw_1672 qw_1673 qw_86 qw_1674 (myX9_kindOf).2 ⟨Nat.le_of_ble_eq_true rfl, Nat.le_of_ble_eq_true rfl⟩ hP hD hS rfl hl.1 rfl (Nat.le_of_ble_eq_true rfl) dX9_totalFlies_6 ⟨Nat.le_of_ble_eq_true rfl, Nat.le_of_ble_eq_true rfl⟩) hS (fun r3 G2 H locs hw hP hD hS => ?_)
  refine lv_if_ge (tgt := 20) hx hb dX9_totalFlies_9 (by decide) (fun c4 => ?_) (fun c4 => ?_)
  · replace hw := ite_t hw c4
    refine lv_aload_n hx hb dX9_totalFlies_20 rfl (lv_at hl 0 rfl) ?_
    refine lv_iload_n hx hb dX9_totalFlies_21 rfl (lv_at hl 1 rfl) ?_
    refine call_i (run_S (cc := cX9_totalFlies) (As := [.int a1]) (rest := [.ref (xa X 189)]) hx hb hml hown hE hz (okX9_kindOf X l hfl  hw) qw_1672 qw_1673 qw_86 qw_1674 (myX9_kindOf).2 ⟨Nat.le_of_ble_eq_true rfl, Nat.le_of_ble_eq_true rfl⟩ hP hD hS rfl hl.1 rfl (Nat.le_of_ble_eq_true rfl) dX9_totalFlies_22 ⟨Nat.le_of_ble_eq_true rfl, Nat.le_of_ble_eq_true rfl⟩) hS (fun r6 G5 H locs hw hP hD hS => ?_)
    refine call_i (run_V (cc := cX9_totalFlies) (As := [.int r6]) (rest := []) hx hb hml hown hE hz (okX9_fliesOf X l hfl  hw) qw_1887 qw_1889 qw_53 qw_86 qw_1890 (myX9_fliesOf) ⟨Nat.le_of_ble_eq_true rfl, Nat.le_of_ble_eq_true rfl⟩ (rv_X9 hE hP rfl) hP hD hS rfl hl.1 rfl (Nat.le_of_ble_eq_true rfl) dX9_totalFlies_25 ⟨Nat.le_of_ble_eq_true rfl, Nat.le_of_ble_eq_true rfl⟩) hS (fun r8 G7 H locs hw hP hD hS => ?_)
    exact end_i hx hb hr hlk rfl hw hP hD hS dX9_totalFlies_28
  · replace hw := ite_f hw c4
    refine lv_aload_n hx hb dX9_totalFlies_12 rfl (lv_at hl 0 rfl) ?_
    refine lv_iconst (v := 1) hx hb dX9_totalFlies_13 (by decide) ?_
    refine call_i (run_V (cc := cX9_totalFlies) (As := [.int 1]) (rest := []) hx hb hml hown hE hz (okX9_fails X l hfl  hw) qw_1636 qw_1638 qw_20 qw_86 qw_1639 (myX9_fails) ⟨Nat.le_of_ble_eq_true rfl, Nat.le_of_ble_eq_true rfl⟩ (rv_X9 hE hP rfl) hP hD hS rfl hl.1 rfl (Nat.le_of_ble_eq_true rfl) dX9_totalFlies_14 ⟨Nat.le_of_ble_eq_true rfl, Nat.le_of_ble_eq_true rfl⟩) hS (fun r10 G9 H locs hw hP hD hS => ?_)
    refine lv_goto (tgt := 28) hx hb dX9_totalFlies_17 (by decide) ?_
    exact end_i hx hb hr hlk rfl hw hP hD hS dX9_totalFlies_28
def wpX9_totalFliesByAccounts (post : Int32 → GS → Prop) (a1 : Int32) (G : GS) : Prop :=
  ∀ G1 : GS, G1 = gI G 189 0 0 →
  wpX9_kindOf (fun (r3 : Int32) (G2 : GS) =>
  if 0 ≤ r3 then
    wpX9_kindOf (fun (r6 : Int32) (G5 : GS) =>
      vp_in (5 + r6) (ln 190) ∧
        wpX9_kindOf (fun (r9 : Int32) (G8 : GS) =>
        vp_in (8 + r9) (ln 190) ∧
          post ((G5.1 190 (5 + r6).toNatClampNeg) - (G8.1 190 (8 + r9).toNatClampNeg)) G8) a1 G5) a1 G2
  else
    wpX9_fails (fun (r12 : Int32) (G11 : GS) =>
      post r12 G11) 1 G2) a1 G1
set_option maxHeartbeats 4000000 in
set_option maxRecDepth 100000 in
theorem okX9_totalFliesByAccounts (X : Cx) (l : Launch) (hfl : l.stackTraces = false) {post : Int32 → GS → Prop} {a1 : Int32} {G : GS}  (hw : wpX9_totalFliesByAccounts post a1 G) : CT X l yX9_totalFliesByAccounts cX9_totalFliesByAccounts 2 (some FieldType.int) 2 0 0 [.ref (xa X 189), .int a1] G (Qi X post) := by
  refine mbegin (by decide) (Nat.le_of_ble_eq_true rfl) (fun p e s m below meth c hx hb hr hml hlk hown hE hz ls hl hP hD hS => ?_)
  have hl : lv_has ls 2 [(0, .ref (xa X 189)), (1, .int a1)] := hl
  have hown : s.vm.findClass "FlyTreasuryModel" = some m.cls := hown
  unfold wpX9_totalFliesByAccounts at hw
  refine lv_aload_n hx hb dX9_totalFliesByAccounts_0 rfl (lv_at hl 0 rfl) ?_
  refine lv_iconst (v := 0) hx hb dX9_totalFliesByAccounts_1 (by decide) ?_
  refine pf_X9_0 hx hb hE hP hD hS hown rfl (hE.w qw_1570 rfl _) dX9_totalFliesByAccounts_2 (fun G1 H locs eG1 hP hD hS => ?_)
  replace hw := hw G1 eG1
  refine lv_iload_n hx hb dX9_totalFliesByAccounts_5 rfl (lv_at hl 1 rfl) ?_
  refine call_i (run_S (cc := cX9_totalFliesByAccounts) (As := [.int a1]) (rest := []) hx hb hml hown hE hz (okX9_kindOf X l hfl  hw) qw_1672 qw_1673 qw_86 qw_1674 (myX9_kindOf).2 ⟨Nat.le_of_ble_eq_true rfl, Nat.le_of_ble_eq_true rfl⟩ hP hD hS rfl hl.1 rfl (Nat.le_of_ble_eq_true rfl) dX9_totalFliesByAccounts_6 ⟨Nat.le_of_ble_eq_true rfl, Nat.le_of_ble_eq_true rfl⟩) hS (fun r3 G2 H locs hw hP hD hS => ?_)
  refine lv_if_ge (tgt := 20) hx hb dX9_totalFliesByAccounts_9 (by decide) (fun c4 => ?_) (fun c4 => ?_)
  · replace hw := ite_t hw c4
    refine lv_aload_n hx hb dX9_totalFliesByAccounts_20 rfl (lv_at hl 0 rfl) ?_
    refine gf_X9_1 hx hb hE hP hown rfl (hE.w qw_1571 rfl _) dX9_totalFliesByAccounts_21 ?_
    refine lv_iconst (v := 5) hx hb dX9_totalFliesByAccounts_24 (by decide) ?_
    refine lv_iload_n hx hb dX9_totalFliesByAccounts_25 rfl (lv_at hl 1 rfl) ?_
    refine call_i (run_S (cc := cX9_totalFliesByAccounts) (As := [.int a1]) (rest := [.int 5, .ref (xa X 190)]) hx hb hml hown hE hz (okX9_kindOf X l hfl  hw) qw_1672 qw_1673 qw_86 qw_1674 (myX9_kindOf).2 ⟨Nat.le_of_ble_eq_true rfl, Nat.le_of_ble_eq_true rfl⟩ hP hD hS rfl hl.1 rfl (Nat.le_of_ble_eq_true rfl) dX9_totalFliesByAccounts_26 ⟨Nat.le_of_ble_eq_true rfl, Nat.le_of_ble_eq_true rfl⟩) hS (fun r6 G5 H locs hw hP hD hS => ?_)
    refine lv_iadd hx hb dX9_totalFliesByAccounts_29 ?_
    obtain ⟨y7, hw⟩ := hw
    refine ald_2 hx hb hE hP rfl y7 dX9_totalFliesByAccounts_30 ?_
    refine lv_aload_n hx hb dX9_totalFliesByAccounts_31 rfl (lv_at hl 0 rfl) ?_
    refine gf_X9_1 hx hb hE hP hown rfl (hE.w qw_1571 rfl _) dX9_totalFliesByAccounts_32 ?_
    refine lv_bipush (v := 8) hx hb dX9_totalFliesByAccounts_35 (by decide) ?_
    refine lv_iload_n hx hb dX9_totalFliesByAccounts_37 rfl (lv_at hl 1 rfl) ?_
    refine call_i (run_S (cc := cX9_totalFliesByAccounts) (As := [.int a1]) (rest := [.int 8, .ref (xa X 190), .int (G5.1 190 (5 + r6).toNatClampNeg)]) hx hb hml hown hE hz (okX9_kindOf X l hfl  hw) qw_1672 qw_1673 qw_86 qw_1674 (myX9_kindOf).2 ⟨Nat.le_of_ble_eq_true rfl, Nat.le_of_ble_eq_true rfl⟩ hP hD hS rfl hl.1 rfl (Nat.le_of_ble_eq_true rfl) dX9_totalFliesByAccounts_38 ⟨Nat.le_of_ble_eq_true rfl, Nat.le_of_ble_eq_true rfl⟩) hS (fun r9 G8 H locs hw hP hD hS => ?_)
    refine lv_iadd hx hb dX9_totalFliesByAccounts_41 ?_
    obtain ⟨y10, hw⟩ := hw
    refine ald_2 hx hb hE hP rfl y10 dX9_totalFliesByAccounts_42 ?_
    refine lv_isub hx hb dX9_totalFliesByAccounts_43 ?_
    exact end_i hx hb hr hlk rfl hw hP hD hS dX9_totalFliesByAccounts_44
  · replace hw := ite_f hw c4
    refine lv_aload_n hx hb dX9_totalFliesByAccounts_12 rfl (lv_at hl 0 rfl) ?_
    refine lv_iconst (v := 1) hx hb dX9_totalFliesByAccounts_13 (by decide) ?_
    refine call_i (run_V (cc := cX9_totalFliesByAccounts) (As := [.int 1]) (rest := []) hx hb hml hown hE hz (okX9_fails X l hfl  hw) qw_1636 qw_1638 qw_20 qw_86 qw_1639 (myX9_fails) ⟨Nat.le_of_ble_eq_true rfl, Nat.le_of_ble_eq_true rfl⟩ (rv_X9 hE hP rfl) hP hD hS rfl hl.1 rfl (Nat.le_of_ble_eq_true rfl) dX9_totalFliesByAccounts_14 ⟨Nat.le_of_ble_eq_true rfl, Nat.le_of_ble_eq_true rfl⟩) hS (fun r12 G11 H locs hw hP hD hS => ?_)
    refine lv_goto (tgt := 44) hx hb dX9_totalFliesByAccounts_17 (by decide) ?_
    exact end_i hx hb hr hlk rfl hw hP hD hS dX9_totalFliesByAccounts_44
def wlX9_valueAll_4 (post : Int32 → GS → Prop) : Nat → GS → Int32 → Int32 → Prop
  | 0, _, _, _ => False
  | n + 1, G, v1, v2 =>
    vp_in 0 (ln 190) ∧
  if (G.1 190 (0 : Int32).toNatClampNeg) ≤ v2 then
  post v1 G
else
  wpX9_valueOf (fun (r4 : Int32) (G3 : GS) =>
    ∀ z5 : Int32, z5 = (v1 + r4) →
      ∀ z6 : Int32, z6 = v2 + 1 →
      wlX9_valueAll_4 post n G3 z5 z6) v2 G
def wpX9_valueAll (post : Int32 → GS → Prop) (G : GS) : Prop :=
  ∃ nn, wlX9_valueAll_4 post nn G 0 0
set_option maxHeartbeats 4000000 in
set_option maxRecDepth 100000 in
theorem okX9_valueAll (X : Cx) (l : Launch) (hfl : l.stackTraces = false) {post : Int32 → GS → Prop}  {G : GS}  (hw : wpX9_valueAll post G) : CT X l yX9_valueAll cX9_valueAll 3 (some FieldType.int) 3 0 0 [.ref (xa X 189)] G (Qi X post) := by
  refine mbegin (by decide) (Nat.le_of_ble_eq_true rfl) (fun p e s m below meth c hx hb hr hml hlk hown hE hz ls hl hP hD hS => ?_)
  have hl : lv_has ls 3 [(0, .ref (xa X 189))] := hl
  have hown : s.vm.findClass "FlyTreasuryModel" = some m.cls := hown
  have L4 : ∀ (n4 : Nat) (G : GS) (v1 : Int32) (v2 : Int32) (H : Heap) (locs : List Loc) (ls : Array Slot), wlX9_valueAll_4 post n4 G v1 v2 → va_P (xD X) vwCl (pool X G) H → va_D (xA X) (pool X G) → va_S (xA X) s.heap H locs → lv_has ls 3 [(0, .ref (xa X 189)), (1, .int v1), (2, .int v2)] → W p l e (rmL 3 0 0) s m [.ref (xa X 189)].toArray below meth c H locs 0 0 (MQ below (Qi X post) [.ref (xa X 189)].toArray s 0 0 (xA X)) (F0 m 4 ls []) := by
    intro n4
    induction n4 with
    | zero => intro G v1 v2  H locs ls hw; exact hw.elim
    | succ n4 ih4 =>
      intro G v1 v2  H locs ls hw hP hD hS hl
      rw [wlX9_valueAll_4] at hw
      refine lv_iload_n hx hb dX9_valueAll_4 rfl (lv_at hl 2 rfl) ?_
      refine lv_aload_n hx hb dX9_valueAll_5 rfl (lv_at hl 0 rfl) ?_
      refine gf_X9_1 hx hb hE hP hown rfl (hE.w qw_1571 rfl _) dX9_valueAll_6 ?_
      refine lv_iconst (v := 0) hx hb dX9_valueAll_9 (by decide) ?_
      obtain ⟨y7, hw⟩ := hw
      refine ald_2 hx hb hE hP rfl y7 dX9_valueAll_10 ?_
      refine lv_icmp_ge (tgt := 28) hx hb dX9_valueAll_11 (by decide) (fun c8 => ?_) (fun c8 => ?_)
      · replace hw := ite_t hw c8
        refine lv_iload_n hx hb dX9_valueAll_28 rfl (lv_at hl 1 rfl) ?_
        exact end_i hx hb hr hlk rfl hw hP hD hS dX9_valueAll_29
      · replace hw := ite_f hw c8
        refine lv_iload_n hx hb dX9_valueAll_14 rfl (lv_at hl 1 rfl) ?_
        refine lv_aload_n hx hb dX9_valueAll_15 rfl (lv_at hl 0 rfl) ?_
        refine lv_iload_n hx hb dX9_valueAll_16 rfl (lv_at hl 2 rfl) ?_
        refine call_i (run_V (cc := cX9_valueAll) (As := [.int v2]) (rest := [.int v1]) hx hb hml hown hE hz (okX9_valueOf X l hfl  hw) qw_1703 qw_1705 qw_34 qw_86 qw_1706 (myX9_valueOf) ⟨Nat.le_of_ble_eq_true rfl, Nat.le_of_ble_eq_true rfl⟩ (rv_X9 hE hP rfl) hP hD hS rfl hl.1 rfl (Nat.le_of_ble_eq_true rfl) dX9_valueAll_17 ⟨Nat.le_of_ble_eq_true rfl, Nat.le_of_ble_eq_true rfl⟩) hS (fun r10 G9 H locs hw hP hD hS => ?_)
        refine lv_iadd hx hb dX9_valueAll_20 ?_
        refine lv_topi (fun z11 ez11 => ?_)
        replace hw := hw z11 ez11
        refine lv_istore_n (lv' := [(1, .int z11), (0, .ref (xa X 189)), (2, .int v2)]) hx hb dX9_valueAll_21 rfl hl (by decide) rfl (fun ls hl => ?_)
        obtain ⟨z12, ez12⟩ : ∃ y : Int32, y = v2 + 1 := ⟨_, rfl⟩
        replace hw := hw z12 ez12
        refine lv_iinc (v := z12) (lv' := [(2, .int z12), (1, .int z11), (0, .ref (xa X 189))]) hx hb dX9_valueAll_22 hl (k := 2) rfl (by rw [ez12]; rfl) (by decide) rfl (fun ls hl => ?_)
        refine lv_goto (tgt := 4) hx hb dX9_valueAll_25 (by decide) ?_
        exact ih4 G9 z11 z12  _ _ _ hw hP hD hS (lv_sub hl [2, 1, 0] rfl)
  unfold wpX9_valueAll at hw
  refine lv_iconst (v := 0) hx hb dX9_valueAll_0 (by decide) ?_
  refine lv_istore_n (lv' := [(1, .int 0), (0, .ref (xa X 189))]) hx hb dX9_valueAll_1 rfl hl (by decide) rfl (fun ls hl => ?_)
  refine lv_iconst (v := 0) hx hb dX9_valueAll_2 (by decide) ?_
  refine lv_istore_n (lv' := [(2, .int 0), (1, .int 0), (0, .ref (xa X 189))]) hx hb dX9_valueAll_3 rfl hl (by decide) rfl (fun ls hl => ?_)
  obtain ⟨nn, hw⟩ := hw
  exact L4 nn G 0 0  _ _ _ hw hP hD hS (lv_sub hl [2, 1, 0] rfl)
def wpX9_totalValue (post : Int32 → GS → Prop) (G : GS) : Prop :=
  ∀ G1 : GS, G1 = gI G 189 0 0 →
  wpX9_valueAll (fun (r3 : Int32) (G2 : GS) =>
  post r3 G2)  G1
set_option maxHeartbeats 4000000 in
set_option maxRecDepth 100000 in
theorem okX9_totalValue (X : Cx) (l : Launch) (hfl : l.stackTraces = false) {post : Int32 → GS → Prop}  {G : GS}  (hw : wpX9_totalValue post G) : CT X l yX9_totalValue cX9_totalValue 1 (some FieldType.int) 4 0 0 [.ref (xa X 189)] G (Qi X post) := by
  refine mbegin (by decide) (Nat.le_of_ble_eq_true rfl) (fun p e s m below meth c hx hb hr hml hlk hown hE hz ls hl hP hD hS => ?_)
  have hl : lv_has ls 1 [(0, .ref (xa X 189))] := hl
  have hown : s.vm.findClass "FlyTreasuryModel" = some m.cls := hown
  unfold wpX9_totalValue at hw
  refine lv_aload_n hx hb dX9_totalValue_0 rfl (lv_at hl 0 rfl) ?_
  refine lv_iconst (v := 0) hx hb dX9_totalValue_1 (by decide) ?_
  refine pf_X9_0 hx hb hE hP hD hS hown rfl (hE.w qw_1570 rfl _) dX9_totalValue_2 (fun G1 H locs eG1 hP hD hS => ?_)
  replace hw := hw G1 eG1
  refine lv_aload_n hx hb dX9_totalValue_5 rfl (lv_at hl 0 rfl) ?_
  refine call_i (run_V (cc := cX9_totalValue) (As := []) (rest := []) hx hb hml hown hE hz (okX9_valueAll X l hfl  hw) qw_1899 qw_1901 qw_54 qw_86 qw_1902 (myX9_valueAll) ⟨Nat.le_of_ble_eq_true rfl, Nat.le_of_ble_eq_true rfl⟩ (rv_X9 hE hP rfl) hP hD hS rfl hl.1 rfl (Nat.le_of_ble_eq_true rfl) dX9_totalValue_6 ⟨Nat.le_of_ble_eq_true rfl, Nat.le_of_ble_eq_true rfl⟩) hS (fun r3 G2 H locs hw hP hD hS => ?_)
  exact end_i hx hb hr hlk rfl hw hP hD hS dX9_totalValue_9
def wpX9_totalValueByKinds (post : Int32 → GS → Prop) (G : GS) : Prop :=
  wpX9_totalValue (fun (r2 : Int32) (G1 : GS) =>
  post r2 G1)  G
set_option maxHeartbeats 4000000 in
set_option maxRecDepth 100000 in
theorem okX9_totalValueByKinds (X : Cx) (l : Launch) (hfl : l.stackTraces = false) {post : Int32 → GS → Prop}  {G : GS}  (hw : wpX9_totalValueByKinds post G) : CT X l yX9_totalValueByKinds cX9_totalValueByKinds 1 (some FieldType.int) 5 0 0 [.ref (xa X 189)] G (Qi X post) := by
  refine mbegin (by decide) (Nat.le_of_ble_eq_true rfl) (fun p e s m below meth c hx hb hr hml hlk hown hE hz ls hl hP hD hS => ?_)
  have hl : lv_has ls 1 [(0, .ref (xa X 189))] := hl
  have hown : s.vm.findClass "FlyTreasuryModel" = some m.cls := hown
  unfold wpX9_totalValueByKinds at hw
  refine lv_aload_n hx hb dX9_totalValueByKinds_0 rfl (lv_at hl 0 rfl) ?_
  refine call_i (run_V (cc := cX9_totalValueByKinds) (As := []) (rest := []) hx hb hml hown hE hz (okX9_totalValue X l hfl  hw) qw_1907 qw_1896 qw_1897 qw_86 qw_1898 (myX9_totalValue) ⟨Nat.le_of_ble_eq_true rfl, Nat.le_of_ble_eq_true rfl⟩ (rv_X9 hE hP rfl) hP hD hS rfl hl.1 rfl (Nat.le_of_ble_eq_true rfl) dX9_totalValueByKinds_1 ⟨Nat.le_of_ble_eq_true rfl, Nat.le_of_ble_eq_true rfl⟩) hS (fun r2 G1 H locs hw hP hD hS => ?_)
  exact end_i hx hb hr hlk rfl hw hP hD hS dX9_totalValueByKinds_4
def wpX9_isAhead (post : Int32 → GS → Prop) (a1 : Int32) (a2 : Int32) (G : GS) : Prop :=
  wpX9_valueOf (fun (r2 : Int32) (G1 : GS) =>
  wpX9_valueOf (fun (r4 : Int32) (G3 : GS) =>
    ∀ z5 : Int32, z5 = (r2 - r4) →
      wpX9_of (fun (r7 : Int32) (G6 : GS) =>
      wpX9_of (fun (r9 : Int32) (G8 : GS) =>
        ∀ z10 : Int32, z10 = (r7 - r9) →
          if z5 = 0 then
          if z10 = 0 then
            if a2 ≤ a1 then
              post 0 G8
            else
              post 1 G8
          else
            if z10 ≤ 0 then
              post 0 G8
            else
              post 1 G8
        else
          if z5 ≤ 0 then
            post 0 G8
          else
            post 1 G8) a1 4 G6) a2 4 G3) a2 G1) a1 G
set_option maxHeartbeats 4000000 in
set_option maxRecDepth 100000 in
theorem okX9_isAhead (X : Cx) (l : Launch) (hfl : l.stackTraces = false) {post : Int32 → GS → Prop} {a1 : Int32} {a2 : Int32} {G : GS}  (hw : wpX9_isAhead post a1 a2 G) : CT X l yX9_isAhead cX9_isAhead 5 (some FieldType.boolean) 3 0 0 [.ref (xa X 189), .int a1, .int a2] G (Qi X post) := by
  refine mbegin (by decide) (Nat.le_of_ble_eq_true rfl) (fun p e s m below meth c hx hb hr hml hlk hown hE hz ls hl hP hD hS => ?_)
  have hl : lv_has ls 5 [(0, .ref (xa X 189)), (1, .int a1), (2, .int a2)] := hl
  have hown : s.vm.findClass "FlyTreasuryModel" = some m.cls := hown
  unfold wpX9_isAhead at hw
  refine lv_aload_n hx hb dX9_isAhead_0 rfl (lv_at hl 0 rfl) ?_
  refine lv_iload_n hx hb dX9_isAhead_1 rfl (lv_at hl 1 rfl) ?_
  refine call_i (run_V (cc := cX9_isAhead) (As := [.int a1]) (rest := []) hx hb hml hown hE hz (okX9_valueOf X l hfl  hw) qw_1703 qw_1705 qw_34 qw_86 qw_1706 (myX9_valueOf) ⟨Nat.le_of_ble_eq_true rfl, Nat.le_of_ble_eq_true rfl⟩ (rv_X9 hE hP rfl) hP hD hS rfl hl.1 rfl (Nat.le_of_ble_eq_true rfl) dX9_isAhead_2 ⟨Nat.le_of_ble_eq_true rfl, Nat.le_of_ble_eq_true rfl⟩) hS (fun r2 G1 H locs hw hP hD hS => ?_)
  refine lv_aload_n hx hb dX9_isAhead_5 rfl (lv_at hl 0 rfl) ?_
  refine lv_iload_n hx hb dX9_isAhead_6 rfl (lv_at hl 2 rfl) ?_
  refine call_i (run_V (cc := cX9_isAhead) (As := [.int a2]) (rest := [.int r2]) hx hb hml hown hE hz (okX9_valueOf X l hfl  hw) qw_1703 qw_1705 qw_34 qw_86 qw_1706 (myX9_valueOf) ⟨Nat.le_of_ble_eq_true rfl, Nat.le_of_ble_eq_true rfl⟩ (rv_X9 hE hP rfl) hP hD hS rfl hl.1 rfl (Nat.le_of_ble_eq_true rfl) dX9_isAhead_7 ⟨Nat.le_of_ble_eq_true rfl, Nat.le_of_ble_eq_true rfl⟩) hS (fun r4 G3 H locs hw hP hD hS => ?_)
  refine lv_isub hx hb dX9_isAhead_10 ?_
  refine lv_topi (fun z5 ez5 => ?_)
  replace hw := hw z5 ez5
  refine lv_istore_n (lv' := [(3, .int z5), (0, .ref (xa X 189)), (1, .int a1), (2, .int a2)]) hx hb dX9_isAhead_11 rfl hl (by decide) rfl (fun ls hl => ?_)
  refine lv_aload_n hx hb dX9_isAhead_12 rfl (lv_at hl 1 rfl) ?_
  refine lv_iload_n hx hb dX9_isAhead_13 rfl (lv_at hl 3 rfl) ?_
  refine lv_iconst (v := 4) hx hb dX9_isAhead_14 (by decide) ?_
  refine call_i (run_V (cc := cX9_isAhead) (As := [.int a2, .int 4]) (rest := []) hx hb hml hown hE hz (okX9_of X l hfl  hw) qw_1675 qw_1677 qw_28 qw_86 qw_1678 (myX9_of) ⟨Nat.le_of_ble_eq_true rfl, Nat.le_of_ble_eq_true rfl⟩ (rv_X9 hE hP rfl) hP hD hS rfl hl.1 rfl (Nat.le_of_ble_eq_true rfl) dX9_isAhead_15 ⟨Nat.le_of_ble_eq_true rfl, Nat.le_of_ble_eq_true rfl⟩) hS (fun r7 G6 H locs hw hP hD hS => ?_)
  refine lv_aload_n hx hb dX9_isAhead_18 rfl (lv_at hl 1 rfl) ?_
  refine lv_iload_n hx hb dX9_isAhead_19 rfl (lv_at hl 2 rfl) ?_
  refine lv_iconst (v := 4) hx hb dX9_isAhead_20 (by decide) ?_
  refine call_i (run_V (cc := cX9_isAhead) (As := [.int a1, .int 4]) (rest := [.int r7]) hx hb hml hown hE hz (okX9_of X l hfl  hw) qw_1675 qw_1677 qw_28 qw_86 qw_1678 (myX9_of) ⟨Nat.le_of_ble_eq_true rfl, Nat.le_of_ble_eq_true rfl⟩ (rv_X9 hE hP rfl) hP hD hS rfl hl.1 rfl (Nat.le_of_ble_eq_true rfl) dX9_isAhead_21 ⟨Nat.le_of_ble_eq_true rfl, Nat.le_of_ble_eq_true rfl⟩) hS (fun r9 G8 H locs hw hP hD hS => ?_)
  refine lv_isub hx hb dX9_isAhead_24 ?_
  refine lv_topi (fun z10 ez10 => ?_)
  replace hw := hw z10 ez10
  refine lv_istore (lv' := [(4, .int z10), (3, .int z5), (0, .ref (xa X 189)), (1, .int a1), (2, .int a2)]) hx hb dX9_isAhead_25 hl (by decide) rfl (fun ls hl => ?_)
  refine lv_iload_n hx hb dX9_isAhead_27 rfl (lv_at hl 1 rfl) ?_
  refine lv_if_eq (tgt := 41) hx hb dX9_isAhead_28 (by decide) (fun c11 => ?_) (fun c11 => ?_)
  · replace hw := ite_t hw c11
    refine lv_iload hx hb dX9_isAhead_41 (lv_at hl 0 rfl) ?_
    refine lv_if_eq (tgt := 59) hx hb dX9_isAhead_43 (by decide) (fun c12 => ?_) (fun c12 => ?_)
    · replace hw := ite_t hw c12
      refine lv_iload_n hx hb dX9_isAhead_59 rfl (lv_at hl 3 rfl) ?_
      refine lv_iload_n hx hb dX9_isAhead_60 rfl (lv_at hl 4 rfl) ?_
      refine lv_icmp_ge (tgt := 68) hx hb dX9_isAhead_61 (by decide) (fun c13 => ?_) (fun c13 => ?_)
      · replace hw := ite_t hw c13
        refine lv_iconst (v := 0) hx hb dX9_isAhead_68 (by decide) ?_
        exact end_i hx hb hr hlk (by decide) hw hP hD hS dX9_isAhead_69
      · replace hw := ite_f hw c13
        refine lv_iconst (v := 1) hx hb dX9_isAhead_64 (by decide) ?_
        refine lv_goto (tgt := 69) hx hb dX9_isAhead_65 (by decide) ?_
        exact end_i hx hb hr hlk (by decide) hw hP hD hS dX9_isAhead_69
    · replace hw := ite_f hw c12
      refine lv_iload hx hb dX9_isAhead_46 (lv_at hl 0 rfl) ?_
      refine lv_if_le (tgt := 55) hx hb dX9_isAhead_48 (by decide) (fun c14 => ?_) (fun c14 => ?_)
      · replace hw := ite_t hw c14
        refine lv_iconst (v := 0) hx hb dX9_isAhead_55 (by decide) ?_
        refine lv_goto (tgt := 69) hx hb dX9_isAhead_56 (by decide) ?_
        exact end_i hx hb hr hlk (by decide) hw hP hD hS dX9_isAhead_69
      · replace hw := ite_f hw c14
        refine lv_iconst (v := 1) hx hb dX9_isAhead_51 (by decide) ?_
        refine lv_goto (tgt := 69) hx hb dX9_isAhead_52 (by decide) ?_
        exact end_i hx hb hr hlk (by decide) hw hP hD hS dX9_isAhead_69
  · replace hw := ite_f hw c11
    refine lv_iload_n hx hb dX9_isAhead_31 rfl (lv_at hl 1 rfl) ?_
    refine lv_if_le (tgt := 39) hx hb dX9_isAhead_32 (by decide) (fun c15 => ?_) (fun c15 => ?_)
    · replace hw := ite_t hw c15
      refine lv_iconst (v := 0) hx hb dX9_isAhead_39 (by decide) ?_
      exact end_i hx hb hr hlk (by decide) hw hP hD hS dX9_isAhead_40
    · replace hw := ite_f hw c15
      refine lv_iconst (v := 1) hx hb dX9_isAhead_35 (by decide) ?_
      refine lv_goto (tgt := 40) hx hb dX9_isAhead_36 (by decide) ?_
      exact end_i hx hb hr hlk (by decide) hw hP hD hS dX9_isAhead_40
def wlX9_vaultByValue_22 (post : Int32 → GS → Prop) (a1 : Int32) (K7 : GS → Int32 → Prop) : Nat → GS → Int32 → Int32 → Int32 → Prop
  | 0, _, _, _, _ => False
  | n + 1, G, v2, v3, v4 =>
    vp_in 0 (ln 190) ∧
  if (G.1 190 (0 : Int32).toNatClampNeg) ≤ v4 then
  if v3 = a1 then
    post v2 G
  else
    ∀ z9 : Int32, z9 = v2 + 1 →
      K7 G z9
else
  wpX9_isAhead (fun (r11 : Int32) (G10 : GS) =>
    if r11 = 0 then
      ∀ z13 : Int32, z13 = (v3 + 0) →
        ∀ z14 : Int32, z14 = v4 + 1 →
        wlX9_vaultByValue_22 post a1 K7 n G10 v2 z13 z14
    else
      ∀ z15 : Int32, z15 = (v3 + 1) →
        ∀ z16 : Int32, z16 = v4 + 1 →
        wlX9_vaultByValue_22 post a1 K7 n G10 v2 z15 z16) v4 v2 G
def wlX9_vaultByValue_7 (post : Int32 → GS → Prop) (a1 : Int32) : Nat → GS → Int32 → Prop
  | 0, _, _ => False
  | n + 1, G, v2 =>
    vp_in 0 (ln 190) ∧
  if (G.1 190 (0 : Int32).toNatClampNeg) ≤ v2 then
  wpX9_fails (fun (r5 : Int32) (G4 : GS) =>
    post r5 G4) 1 G
else
  ∃ nn, wlX9_vaultByValue_22 post a1 (fun (G : GS) (v2 : Int32) => wlX9_vaultByValue_7 post a1 n G v2) nn G v2 0 0
def wpX9_vaultByValue (post : Int32 → GS → Prop) (a1 : Int32) (G : GS) : Prop :=
  ∀ G1 : GS, G1 = gI G 189 0 0 →
  ∃ nn, wlX9_vaultByValue_7 post a1 nn G1 0
set_option maxHeartbeats 4000000 in
set_option maxRecDepth 100000 in
theorem okX9_vaultByValue (X : Cx) (l : Launch) (hfl : l.stackTraces = false) {post : Int32 → GS → Prop} {a1 : Int32} {G : GS}  (hw : wpX9_vaultByValue post a1 G) : CT X l yX9_vaultByValue cX9_vaultByValue 5 (some FieldType.int) 4 0 0 [.ref (xa X 189), .int a1] G (Qi X post) := by
  refine mbegin (by decide) (Nat.le_of_ble_eq_true rfl) (fun p e s m below meth c hx hb hr hml hlk hown hE hz ls hl hP hD hS => ?_)
  have hl : lv_has ls 5 [(0, .ref (xa X 189)), (1, .int a1)] := hl
  have hown : s.vm.findClass "FlyTreasuryModel" = some m.cls := hown
  have L7 : ∀ (n7 : Nat) (G : GS) (v2 : Int32) (H : Heap) (locs : List Loc) (ls : Array Slot), wlX9_vaultByValue_7 post a1 n7 G v2 → va_P (xD X) vwCl (pool X G) H → va_D (xA X) (pool X G) → va_S (xA X) s.heap H locs → lv_has ls 5 [(0, .ref (xa X 189)), (1, .int a1), (2, .int v2)] → W p l e (rmL 4 0 0) s m [.ref (xa X 189), .int a1].toArray below meth c H locs 0 0 (MQ below (Qi X post) [.ref (xa X 189), .int a1].toArray s 0 0 (xA X)) (F0 m 7 ls []) := by
    intro n7
    induction n7 with
    | zero => intro G v2  H locs ls hw; exact hw.elim
    | succ n7 ih7 =>
      have L22 : ∀ (n22 : Nat) (G : GS) (v2 : Int32) (v3 : Int32) (v4 : Int32) (H : Heap) (locs : List Loc) (ls : Array Slot), wlX9_vaultByValue_22 post a1 (fun (G : GS) (v2 : Int32) => wlX9_vaultByValue_7 post a1 n7 G v2) n22 G v2 v3 v4 → va_P (xD X) vwCl (pool X G) H → va_D (xA X) (pool X G) → va_S (xA X) s.heap H locs → lv_has ls 5 [(0, .ref (xa X 189)), (1, .int a1), (2, .int v2), (3, .int v3), (4, .int v4)] → W p l e (rmL 4 0 0) s m [.ref (xa X 189), .int a1].toArray below meth c H locs 0 0 (MQ below (Qi X post) [.ref (xa X 189), .int a1].toArray s 0 0 (xA X)) (F0 m 22 ls []) := by
        intro n22
        induction n22 with
        | zero => intro G v2 v3 v4  H locs ls hw; exact hw.elim
        | succ n22 ih22 =>
          intro G v2 v3 v4  H locs ls hw hP hD hS hl
          rw [wlX9_vaultByValue_22] at hw
          refine lv_iload hx hb dX9_vaultByValue_22 (lv_at hl 4 rfl) ?_
          refine lv_aload_n hx hb dX9_vaultByValue_24 rfl (lv_at hl 0 rfl) ?_
          refine gf_X9_1 hx hb hE hP hown rfl (hE.w qw_1571 rfl _) dX9_vaultByValue_25 ?_
          refine lv_iconst (v := 0) hx hb dX9_vaultByValue_28 (by decide) ?_
          obtain ⟨y17, hw⟩ := hw
          refine ald_2 hx hb hE hP rfl y17 dX9_vaultByValue_29 ?_
          refine lv_icmp_ge (tgt := 57) hx hb dX9_vaultByValue_30 (by decide) (fun c18 => ?_) (fun c18 => ?_)
          · replace hw := ite_t hw c18
            refine lv_iload_n hx hb dX9_vaultByValue_57 rfl (lv_at hl 3 rfl) ?_
            refine lv_iload_n hx hb dX9_vaultByValue_58 rfl (lv_at hl 1 rfl) ?_
            refine lv_icmp_ne (tgt := 64) hx hb dX9_vaultByValue_59 (by decide) (fun c19 => ?_) (fun c19 => ?_)
            · replace hw := ite_f hw c19
              obtain ⟨z20, ez20⟩ : ∃ y : Int32, y = v2 + 1 := ⟨_, rfl⟩
              replace hw := hw z20 ez20
              refine lv_iinc (v := z20) (lv' := [(2, .int z20), (0, .ref (xa X 189)), (1, .int a1), (3, .int v3), (4, .int v4)]) hx hb dX9_vaultByValue_64 hl (k := 2) rfl (by rw [ez20]; rfl) (by decide) rfl (fun ls hl => ?_)
              refine lv_goto (tgt := 7) hx hb dX9_vaultByValue_67 (by decide) ?_
              exact ih7 G z20  _ _ _ hw hP hD hS (lv_sub hl [1, 2, 0] rfl)
            · replace hw := ite_t hw c19
              refine lv_iload_n hx hb dX9_vaultByValue_62 rfl (lv_at hl 2 rfl) ?_
              exact end_i hx hb hr hlk rfl hw hP hD hS dX9_vaultByValue_63
          · replace hw := ite_f hw c18
            refine lv_iload_n hx hb dX9_vaultByValue_33 rfl (lv_at hl 3 rfl) ?_
            refine lv_aload_n hx hb dX9_vaultByValue_34 rfl (lv_at hl 0 rfl) ?_
            refine lv_iload hx hb dX9_vaultByValue_35 (lv_at hl 4 rfl) ?_
            refine lv_iload_n hx hb dX9_vaultByValue_37 rfl (lv_at hl 2 rfl) ?_
            refine call_i (run_V (cc := cX9_vaultByValue) (As := [.int v4, .int v2]) (rest := [.int v3]) hx hb hml hown hE hz (okX9_isAhead X l hfl  hw) qw_1912 qw_1914 qw_55 qw_86 qw_1915 (myX9_isAhead) ⟨Nat.le_of_ble_eq_true rfl, Nat.le_of_ble_eq_true rfl⟩ (rv_X9 hE hP rfl) hP hD hS rfl hl.1 rfl (Nat.le_of_ble_eq_true rfl) dX9_vaultByValue_38 ⟨Nat.le_of_ble_eq_true rfl, Nat.le_of_ble_eq_true rfl⟩) hS (fun r22 G21 H locs hw hP hD hS => ?_)
            refine lv_if_eq (tgt := 48) hx hb dX9_vaultByValue_41 (by decide) (fun c23 => ?_) (fun c23 => ?_)
            · replace hw := ite_t hw c23
              refine lv_iconst (v := 0) hx hb dX9_vaultByValue_48 (by decide) ?_
              refine lv_iadd hx hb dX9_vaultByValue_49 ?_
              refine lv_topi (fun z24 ez24 => ?_)
              replace hw := hw z24 ez24
              refine lv_istore_n (lv' := [(3, .int z24), (0, .ref (xa X 189)), (1, .int a1), (2, .int v2), (4, .int v4)]) hx hb dX9_vaultByValue_50 rfl hl (by decide) rfl (fun ls hl => ?_)
              obtain ⟨z25, ez25⟩ : ∃ y : Int32, y = v4 + 1 := ⟨_, rfl⟩
              replace hw := hw z25 ez25
              refine lv_iinc (v := z25) (lv' := [(4, .int z25), (3, .int z24), (0, .ref (xa X 189)), (1, .int a1), (2, .int v2)]) hx hb dX9_vaultByValue_51 hl (k := 4) rfl (by rw [ez25]; rfl) (by decide) rfl (fun ls hl => ?_)
              refine lv_goto (tgt := 22) hx hb dX9_vaultByValue_54 (by decide) ?_
              exact ih22 G21 v2 z24 z25  _ _ _ hw hP hD hS (lv_sub hl [2, 3, 4, 1, 0] rfl)
            · replace hw := ite_f hw c23
              refine lv_iconst (v := 1) hx hb dX9_vaultByValue_44 (by decide) ?_
              refine lv_goto (tgt := 49) hx hb dX9_vaultByValue_45 (by decide) ?_
              refine lv_iadd hx hb dX9_vaultByValue_49 ?_
              refine lv_topi (fun z26 ez26 => ?_)
              replace hw := hw z26 ez26
              refine lv_istore_n (lv' := [(3, .int z26), (0, .ref (xa X 189)), (1, .int a1), (2, .int v2), (4, .int v4)]) hx hb dX9_vaultByValue_50 rfl hl (by decide) rfl (fun ls hl => ?_)
              obtain ⟨z27, ez27⟩ : ∃ y : Int32, y = v4 + 1 := ⟨_, rfl⟩
              replace hw := hw z27 ez27
              refine lv_iinc (v := z27) (lv' := [(4, .int z27), (3, .int z26), (0, .ref (xa X 189)), (1, .int a1), (2, .int v2)]) hx hb dX9_vaultByValue_51 hl (k := 4) rfl (by rw [ez27]; rfl) (by decide) rfl (fun ls hl => ?_)
              refine lv_goto (tgt := 22) hx hb dX9_vaultByValue_54 (by decide) ?_
              exact ih22 G21 v2 z26 z27  _ _ _ hw hP hD hS (lv_sub hl [2, 3, 4, 1, 0] rfl)
      intro G v2  H locs ls hw hP hD hS hl
      rw [wlX9_vaultByValue_7] at hw
      refine lv_iload_n hx hb dX9_vaultByValue_7 rfl (lv_at hl 2 rfl) ?_
      refine lv_aload_n hx hb dX9_vaultByValue_8 rfl (lv_at hl 0 rfl) ?_
      refine gf_X9_1 hx hb hE hP hown rfl (hE.w qw_1571 rfl _) dX9_vaultByValue_9 ?_
      refine lv_iconst (v := 0) hx hb dX9_vaultByValue_12 (by decide) ?_
      obtain ⟨y28, hw⟩ := hw
      refine ald_2 hx hb hE hP rfl y28 dX9_vaultByValue_13 ?_
      refine lv_icmp_ge (tgt := 70) hx hb dX9_vaultByValue_14 (by decide) (fun c29 => ?_) (fun c29 => ?_)
      · replace hw := ite_t hw c29
        refine lv_aload_n hx hb dX9_vaultByValue_70 rfl (lv_at hl 0 rfl) ?_
        refine lv_iconst (v := 1) hx hb dX9_vaultByValue_71 (by decide) ?_
        refine call_i (run_V (cc := cX9_vaultByValue) (As := [.int 1]) (rest := []) hx hb hml hown hE hz (okX9_fails X l hfl  hw) qw_1636 qw_1638 qw_20 qw_86 qw_1639 (myX9_fails) ⟨Nat.le_of_ble_eq_true rfl, Nat.le_of_ble_eq_true rfl⟩ (rv_X9 hE hP rfl) hP hD hS rfl hl.1 rfl (Nat.le_of_ble_eq_true rfl) dX9_vaultByValue_72 ⟨Nat.le_of_ble_eq_true rfl, Nat.le_of_ble_eq_true rfl⟩) hS (fun r31 G30 H locs hw hP hD hS => ?_)
        exact end_i hx hb hr hlk rfl hw hP hD hS dX9_vaultByValue_75
      · replace hw := ite_f hw c29
        refine lv_iconst (v := 0) hx hb dX9_vaultByValue_17 (by decide) ?_
        refine lv_istore_n (lv' := [(3, .int 0), (0, .ref (xa X 189)), (1, .int a1), (2, .int v2)]) hx hb dX9_vaultByValue_18 rfl hl (by decide) rfl (fun ls hl => ?_)
        refine lv_iconst (v := 0) hx hb dX9_vaultByValue_19 (by decide) ?_
        refine lv_istore (lv' := [(4, .int 0), (3, .int 0), (0, .ref (xa X 189)), (1, .int a1), (2, .int v2)]) hx hb dX9_vaultByValue_20 hl (by decide) rfl (fun ls hl => ?_)
        obtain ⟨nn, hw⟩ := hw
        exact L22 nn G v2 0 0  _ _ _ hw hP hD hS (lv_sub hl [2, 3, 4, 1, 0] rfl)
  unfold wpX9_vaultByValue at hw
  refine lv_aload_n hx hb dX9_vaultByValue_0 rfl (lv_at hl 0 rfl) ?_
  refine lv_iconst (v := 0) hx hb dX9_vaultByValue_1 (by decide) ?_
  refine pf_X9_0 hx hb hE hP hD hS hown rfl (hE.w qw_1570 rfl _) dX9_vaultByValue_2 (fun G1 H locs eG1 hP hD hS => ?_)
  replace hw := hw G1 eG1
  refine lv_iconst (v := 0) hx hb dX9_vaultByValue_5 (by decide) ?_
  refine lv_istore_n (lv' := [(2, .int 0), (0, .ref (xa X 189)), (1, .int a1)]) hx hb dX9_vaultByValue_6 rfl hl (by decide) rfl (fun ls hl => ?_)
  obtain ⟨nn, hw⟩ := hw
  exact L7 nn G1 0  _ _ _ hw hP hD hS (lv_sub hl [1, 2, 0] rfl)
