def wpL_addVault (post : Int32 → GS → Prop) (a2 : Int32) (G : GS) : Prop :=
  wpX8_addVault (fun (r4 : Int32) (G1 : GS) =>
  vp_in 0 1 ∧ ∀ G6 : GS, G6 = gL G1 ((0 : Int32).toNatClampNeg) r4.toInt64 →
    post 0 G6) (fun (E : String) (G9 : GS) =>
  if E = "java/lang/IllegalArgumentException" then
    post 1 G9
  else if E = "java/lang/IllegalStateException" then
    post 2 G9
  else False) a2 G
set_option maxHeartbeats 4000000 in
set_option maxRecDepth 100000 in
theorem okL_addVault (X : Cx) (l : Launch) (hfl : l.stackTraces = false) {post : Int32 → GS → Prop} {a2 : Int32} {G : GS}  (hw : wpL_addVault post a2 G) : CTW X l yL_addVault cL_addVault 4 (some FieldType.int) [(0, 9, 12, 13), (0, 9, 15, 15)] 8 1 6 [.ref (xa X 165), .int a2, .ref (xa X 197)] G (Qi X post) := by
  refine mbeginW qw_853 (by decide) (Nat.le_of_ble_eq_true rfl) (fun p e s m below meth c hx hb hr hml hlk hown htb hE hz ls hl hP hD hS => ?_)
  have hl : lv_has ls 4 [(0, .ref (xa X 165)), (1, .int a2), (2, .ref (xa X 197))] := hl
  have hown : s.vm.findClass "FlyTreasuryLaw" = some m.cls := hown
  unfold wpL_addVault at hw
  refine lv_aload_n hx hb dL_addVault_0 rfl (lv_at hl 2 rfl) ?_
  refine lv_iconst (v := 0) hx hb dL_addVault_1 (by decide) ?_
  refine lv_aload_n hx hb dL_addVault_2 rfl (lv_at hl 0 rfl) ?_
  refine lv_iload_n hx hb dL_addVault_3 rfl (lv_at hl 1 rfl) ?_
  refine xcall_i (xrun_V (cc := cL_addVault) (As := [.int a2]) (rest := [.int 0, .ref (xa X 197)]) hx hb hml hown hE hz (okX8_addVault X l hfl  hw) qw_856 qw_857 qw_858 qw_74 qw_859 (myX8_addVault) ⟨Nat.le_of_ble_eq_true rfl, Nat.le_of_ble_eq_true rfl⟩ (rv_X8 hE hP rfl) hP hD hS rfl hl.1 rfl (Nat.le_of_ble_eq_true rfl) dL_addVault_4 ⟨Nat.le_of_ble_eq_true rfl, Nat.le_of_ble_eq_true rfl⟩) hS (fun E ce q9 G9 H locs hw hP hD hS hce hcv hcl => ?_) (fun r4 G1 H locs hw hP hD hS => ?_)
  · by_cases c2 : E = "java/lang/IllegalArgumentException"
    · replace hw := ite_t hw c2
      subst c2
      refine vx_catch hown [] ⟨0, 9, 12, 13⟩ [⟨0, 9, 15, 15⟩] htb (List.forall_mem_nil _) (by decide) (by decide) (hE.w qw_854 rfl _) (hE.w qw_648 rfl _) hce hcv hcl ?_
      refine lv_astore_n (lv' := [(3, .ref q9), (0, .ref (xa X 165)), (1, .int a2), (2, .ref (xa X 197))]) hx hb dL_addVault_12 rfl hl (by decide) rfl (fun ls hl => ?_)
      refine lv_iconst (v := 1) hx hb dL_addVault_13 (by decide) ?_
      exact end_i hx hb hr hlk rfl hw hP hD hS dL_addVault_14
    · replace hw := ite_f hw c2
      by_cases c3 : E = "java/lang/IllegalStateException"
      · replace hw := ite_t hw c3
        subst c3
        refine vx_catch hown [⟨0, 9, 12, 13⟩] ⟨0, 9, 15, 15⟩ [] htb (List.forall_mem_cons.mpr ⟨Or.inr ⟨by decide, "java/lang/IllegalArgumentException", hE.w qw_854 rfl _, hE.2.2.2.2 ("java/lang/IllegalStateException", "java/lang/IllegalArgumentException") (List.mem_of_getElem? (i := 11) rfl)⟩, List.forall_mem_nil _⟩) (by decide) (by decide) (hE.w qw_855 rfl _) (hE.w qw_902 rfl _) hce hcv hcl ?_
        refine lv_astore_n (lv' := [(3, .ref q9), (0, .ref (xa X 165)), (1, .int a2), (2, .ref (xa X 197))]) hx hb dL_addVault_15 rfl hl (by decide) rfl (fun ls hl => ?_)
        refine lv_iconst (v := 2) hx hb dL_addVault_16 (by decide) ?_
        exact end_i hx hb hr hlk rfl hw hP hD hS dL_addVault_17
      · replace hw := ite_f hw c3
        exact hw.elim
  · refine lv_i2l hx hb dL_addVault_7 rfl ?_
    obtain ⟨y5, hw⟩ := hw
    refine last_14 hx hb hE hP hD hS y5 dL_addVault_8 (fun G6 H locs eG6 hP hD hS => ?_)
    replace hw := hw G6 eG6
    refine lv_goto (tgt := 18) hx hb dL_addVault_9 (by decide) ?_
    refine lv_iconst (v := 0) hx hb dL_addVault_18 (by decide) ?_
    exact end_i hx hb hr hlk rfl hw hP hD hS dL_addVault_19
def wpL_deposit (post : Int32 → GS → Prop) (a2 : Int32) (a3 : Int32) (a4 : Int32) (G : GS) : Prop :=
  wpX8_deposit (fun (r5 : Int32) (G1 : GS) =>
  vp_in 0 1 ∧ ∀ G7 : GS, G7 = gL G1 ((0 : Int32).toNatClampNeg) r5.toInt64 →
    post 0 G7) (fun (E : String) (G9 : GS) =>
  if E = "java/lang/IndexOutOfBoundsException" then
    post 1 G9
  else if E = "java/lang/IllegalArgumentException" then
    post 2 G9
  else if E = "java/lang/IllegalStateException" then
    post 3 G9
  else False) a2 a3 a4 G
set_option maxHeartbeats 4000000 in
set_option maxRecDepth 100000 in
theorem okL_deposit (X : Cx) (l : Launch) (hfl : l.stackTraces = false) {post : Int32 → GS → Prop} {a2 : Int32} {a3 : Int32} {a4 : Int32} {G : GS}  (hw : wpL_deposit post a2 a3 a4 G) : CTW X l yL_deposit cL_deposit 6 (some FieldType.int) [(0, 12, 15, 21), (0, 12, 19, 13), (0, 12, 23, 15)] 8 1 6 [.ref (xa X 165), .int a2, .int a3, .int a4, .ref (xa X 197)] G (Qi X post) := by
  refine mbeginW qw_944 (by decide) (Nat.le_of_ble_eq_true rfl) (fun p e s m below meth c hx hb hr hml hlk hown htb hE hz ls hl hP hD hS => ?_)
  have hl : lv_has ls 6 [(0, .ref (xa X 165)), (1, .int a2), (2, .int a3), (3, .int a4), (4, .ref (xa X 197))] := hl
  have hown : s.vm.findClass "FlyTreasuryLaw" = some m.cls := hown
  unfold wpL_deposit at hw
  refine lv_aload hx hb dL_deposit_0 (lv_at hl 4 rfl) ?_
  refine lv_iconst (v := 0) hx hb dL_deposit_2 (by decide) ?_
  refine lv_aload_n hx hb dL_deposit_3 rfl (lv_at hl 0 rfl) ?_
  refine lv_iload_n hx hb dL_deposit_4 rfl (lv_at hl 1 rfl) ?_
  refine lv_iload_n hx hb dL_deposit_5 rfl (lv_at hl 2 rfl) ?_
  refine lv_iload_n hx hb dL_deposit_6 rfl (lv_at hl 3 rfl) ?_
  refine xcall_i (xrun_V (cc := cL_deposit) (As := [.int a2, .int a3, .int a4]) (rest := [.int 0, .ref (xa X 197)]) hx hb hml hown hE hz (okX8_deposit X l hfl  hw) qw_948 qw_949 qw_950 qw_74 qw_951 (myX8_deposit) ⟨Nat.le_of_ble_eq_true rfl, Nat.le_of_ble_eq_true rfl⟩ (rv_X8 hE hP rfl) hP hD hS rfl hl.1 rfl (Nat.le_of_ble_eq_true rfl) dL_deposit_7 ⟨Nat.le_of_ble_eq_true rfl, Nat.le_of_ble_eq_true rfl⟩) hS (fun E ce q9 G9 H locs hw hP hD hS hce hcv hcl => ?_) (fun r5 G1 H locs hw hP hD hS => ?_)
  · by_cases c2 : E = "java/lang/IndexOutOfBoundsException"
    · replace hw := ite_t hw c2
      subst c2
      refine vx_catch hown [] ⟨0, 12, 15, 21⟩ [⟨0, 12, 19, 13⟩, ⟨0, 12, 23, 15⟩] htb (List.forall_mem_nil _) (by decide) (by decide) (hE.w qw_945 rfl _) (hE.w qw_886 rfl _) hce hcv hcl ?_
      refine lv_astore (lv' := [(5, .ref q9), (0, .ref (xa X 165)), (1, .int a2), (2, .int a3), (3, .int a4), (4, .ref (xa X 197))]) hx hb dL_deposit_15 hl (by decide) rfl (fun ls hl => ?_)
      refine lv_iconst (v := 1) hx hb dL_deposit_17 (by decide) ?_
      exact end_i hx hb hr hlk rfl hw hP hD hS dL_deposit_18
    · replace hw := ite_f hw c2
      by_cases c3 : E = "java/lang/IllegalArgumentException"
      · replace hw := ite_t hw c3
        subst c3
        refine vx_catch hown [⟨0, 12, 15, 21⟩] ⟨0, 12, 19, 13⟩ [⟨0, 12, 23, 15⟩] htb (List.forall_mem_cons.mpr ⟨Or.inr ⟨by decide, "java/lang/IndexOutOfBoundsException", hE.w qw_945 rfl _, hE.2.2.2.2 ("java/lang/IllegalArgumentException", "java/lang/IndexOutOfBoundsException") (List.mem_of_getElem? (i := 5) rfl)⟩, List.forall_mem_nil _⟩) (by decide) (by decide) (hE.w qw_854 rfl _) (hE.w qw_648 rfl _) hce hcv hcl ?_
        refine lv_astore (lv' := [(5, .ref q9), (0, .ref (xa X 165)), (1, .int a2), (2, .int a3), (3, .int a4), (4, .ref (xa X 197))]) hx hb dL_deposit_19 hl (by decide) rfl (fun ls hl => ?_)
        refine lv_iconst (v := 2) hx hb dL_deposit_21 (by decide) ?_
        exact end_i hx hb hr hlk rfl hw hP hD hS dL_deposit_22
      · replace hw := ite_f hw c3
        by_cases c4 : E = "java/lang/IllegalStateException"
        · replace hw := ite_t hw c4
          subst c4
          refine vx_catch hown [⟨0, 12, 15, 21⟩, ⟨0, 12, 19, 13⟩] ⟨0, 12, 23, 15⟩ [] htb (List.forall_mem_cons.mpr ⟨Or.inr ⟨by decide, "java/lang/IndexOutOfBoundsException", hE.w qw_945 rfl _, hE.2.2.2.2 ("java/lang/IllegalStateException", "java/lang/IndexOutOfBoundsException") (List.mem_of_getElem? (i := 10) rfl)⟩, List.forall_mem_cons.mpr ⟨Or.inr ⟨by decide, "java/lang/IllegalArgumentException", hE.w qw_854 rfl _, hE.2.2.2.2 ("java/lang/IllegalStateException", "java/lang/IllegalArgumentException") (List.mem_of_getElem? (i := 11) rfl)⟩, List.forall_mem_nil _⟩⟩) (by decide) (by decide) (hE.w qw_855 rfl _) (hE.w qw_902 rfl _) hce hcv hcl ?_
          refine lv_astore (lv' := [(5, .ref q9), (0, .ref (xa X 165)), (1, .int a2), (2, .int a3), (3, .int a4), (4, .ref (xa X 197))]) hx hb dL_deposit_23 hl (by decide) rfl (fun ls hl => ?_)
          refine lv_iconst (v := 3) hx hb dL_deposit_25 (by decide) ?_
          exact end_i hx hb hr hlk rfl hw hP hD hS dL_deposit_26
        · replace hw := ite_f hw c4
          exact hw.elim
  · refine lv_i2l hx hb dL_deposit_10 rfl ?_
    obtain ⟨y6, hw⟩ := hw
    refine last_14 hx hb hE hP hD hS y6 dL_deposit_11 (fun G7 H locs eG7 hP hD hS => ?_)
    replace hw := hw G7 eG7
    refine lv_goto (tgt := 27) hx hb dL_deposit_12 (by decide) ?_
    refine lv_iconst (v := 0) hx hb dL_deposit_27 (by decide) ?_
    exact end_i hx hb hr hlk rfl hw hP hD hS dL_deposit_28
def wpL_withdraw (post : Int32 → GS → Prop) (a2 : Int32) (a3 : Int32) (a4 : Int32) (G : GS) : Prop :=
  wpX8_withdraw (fun (r6 : Int32) (G1 : GS) =>
  vp_in 0 1 ∧ ∀ G8 : GS, G8 = gL G1 ((0 : Int32).toNatClampNeg) r6.toInt64 →
    post 0 G8) (fun (E : String) (G9 : GS) =>
  if E = "java/lang/IndexOutOfBoundsException" then
    post 1 G9
  else if E = "java/lang/IllegalArgumentException" then
    post 2 G9
  else if E = "java/lang/IllegalStateException" then
    post 3 G9
  else if E = "java/lang/UnsupportedOperationException" then
    post 4 G9
  else False) a2 a3 a4 G
set_option maxHeartbeats 4000000 in
set_option maxRecDepth 100000 in
theorem okL_withdraw (X : Cx) (l : Launch) (hfl : l.stackTraces = false) {post : Int32 → GS → Prop} {a2 : Int32} {a3 : Int32} {a4 : Int32} {G : GS}  (hw : wpL_withdraw post a2 a3 a4 G) : CTW X l yL_withdraw cL_withdraw 6 (some FieldType.int) [(0, 12, 15, 21), (0, 12, 19, 13), (0, 12, 23, 15), (0, 12, 27, 26)] 8 1 6 [.ref (xa X 165), .int a2, .int a3, .int a4, .ref (xa X 197)] G (Qi X post) := by
  refine mbeginW qw_1015 (by decide) (Nat.le_of_ble_eq_true rfl) (fun p e s m below meth c hx hb hr hml hlk hown htb hE hz ls hl hP hD hS => ?_)
  have hl : lv_has ls 6 [(0, .ref (xa X 165)), (1, .int a2), (2, .int a3), (3, .int a4), (4, .ref (xa X 197))] := hl
  have hown : s.vm.findClass "FlyTreasuryLaw" = some m.cls := hown
  unfold wpL_withdraw at hw
  refine lv_aload hx hb dL_withdraw_0 (lv_at hl 4 rfl) ?_
  refine lv_iconst (v := 0) hx hb dL_withdraw_2 (by decide) ?_
  refine lv_aload_n hx hb dL_withdraw_3 rfl (lv_at hl 0 rfl) ?_
  refine lv_iload_n hx hb dL_withdraw_4 rfl (lv_at hl 1 rfl) ?_
  refine lv_iload_n hx hb dL_withdraw_5 rfl (lv_at hl 2 rfl) ?_
  refine lv_iload_n hx hb dL_withdraw_6 rfl (lv_at hl 3 rfl) ?_
  refine xcall_i (xrun_V (cc := cL_withdraw) (As := [.int a2, .int a3, .int a4]) (rest := [.int 0, .ref (xa X 197)]) hx hb hml hown hE hz (okX8_withdraw X l hfl  hw) qw_1017 qw_1018 qw_1019 qw_74 qw_1020 (myX8_withdraw) ⟨Nat.le_of_ble_eq_true rfl, Nat.le_of_ble_eq_true rfl⟩ (rv_X8 hE hP rfl) hP hD hS rfl hl.1 rfl (Nat.le_of_ble_eq_true rfl) dL_withdraw_7 ⟨Nat.le_of_ble_eq_true rfl, Nat.le_of_ble_eq_true rfl⟩) hS (fun E ce q9 G9 H locs hw hP hD hS hce hcv hcl => ?_) (fun r6 G1 H locs hw hP hD hS => ?_)
  · by_cases c2 : E = "java/lang/IndexOutOfBoundsException"
    · replace hw := ite_t hw c2
      subst c2
      refine vx_catch hown [] ⟨0, 12, 15, 21⟩ [⟨0, 12, 19, 13⟩, ⟨0, 12, 23, 15⟩, ⟨0, 12, 27, 26⟩] htb (List.forall_mem_nil _) (by decide) (by decide) (hE.w qw_945 rfl _) (hE.w qw_886 rfl _) hce hcv hcl ?_
      refine lv_astore (lv' := [(5, .ref q9), (0, .ref (xa X 165)), (1, .int a2), (2, .int a3), (3, .int a4), (4, .ref (xa X 197))]) hx hb dL_withdraw_15 hl (by decide) rfl (fun ls hl => ?_)
      refine lv_iconst (v := 1) hx hb dL_withdraw_17 (by decide) ?_
      exact end_i hx hb hr hlk rfl hw hP hD hS dL_withdraw_18
    · replace hw := ite_f hw c2
      by_cases c3 : E = "java/lang/IllegalArgumentException"
      · replace hw := ite_t hw c3
        subst c3
        refine vx_catch hown [⟨0, 12, 15, 21⟩] ⟨0, 12, 19, 13⟩ [⟨0, 12, 23, 15⟩, ⟨0, 12, 27, 26⟩] htb (List.forall_mem_cons.mpr ⟨Or.inr ⟨by decide, "java/lang/IndexOutOfBoundsException", hE.w qw_945 rfl _, hE.2.2.2.2 ("java/lang/IllegalArgumentException", "java/lang/IndexOutOfBoundsException") (List.mem_of_getElem? (i := 5) rfl)⟩, List.forall_mem_nil _⟩) (by decide) (by decide) (hE.w qw_854 rfl _) (hE.w qw_648 rfl _) hce hcv hcl ?_
        refine lv_astore (lv' := [(5, .ref q9), (0, .ref (xa X 165)), (1, .int a2), (2, .int a3), (3, .int a4), (4, .ref (xa X 197))]) hx hb dL_withdraw_19 hl (by decide) rfl (fun ls hl => ?_)
        refine lv_iconst (v := 2) hx hb dL_withdraw_21 (by decide) ?_
        exact end_i hx hb hr hlk rfl hw hP hD hS dL_withdraw_22
      · replace hw := ite_f hw c3
        by_cases c4 : E = "java/lang/IllegalStateException"
        · replace hw := ite_t hw c4
          subst c4
          refine vx_catch hown [⟨0, 12, 15, 21⟩, ⟨0, 12, 19, 13⟩] ⟨0, 12, 23, 15⟩ [⟨0, 12, 27, 26⟩] htb (List.forall_mem_cons.mpr ⟨Or.inr ⟨by decide, "java/lang/IndexOutOfBoundsException", hE.w qw_945 rfl _, hE.2.2.2.2 ("java/lang/IllegalStateException", "java/lang/IndexOutOfBoundsException") (List.mem_of_getElem? (i := 10) rfl)⟩, List.forall_mem_cons.mpr ⟨Or.inr ⟨by decide, "java/lang/IllegalArgumentException", hE.w qw_854 rfl _, hE.2.2.2.2 ("java/lang/IllegalStateException", "java/lang/IllegalArgumentException") (List.mem_of_getElem? (i := 11) rfl)⟩, List.forall_mem_nil _⟩⟩) (by decide) (by decide) (hE.w qw_855 rfl _) (hE.w qw_902 rfl _) hce hcv hcl ?_
          refine lv_astore (lv' := [(5, .ref q9), (0, .ref (xa X 165)), (1, .int a2), (2, .int a3), (3, .int a4), (4, .ref (xa X 197))]) hx hb dL_withdraw_23 hl (by decide) rfl (fun ls hl => ?_)
          refine lv_iconst (v := 3) hx hb dL_withdraw_25 (by decide) ?_
          exact end_i hx hb hr hlk rfl hw hP hD hS dL_withdraw_26
        · replace hw := ite_f hw c4
          by_cases c5 : E = "java/lang/UnsupportedOperationException"
          · replace hw := ite_t hw c5
            subst c5
            refine vx_catch hown [⟨0, 12, 15, 21⟩, ⟨0, 12, 19, 13⟩, ⟨0, 12, 23, 15⟩] ⟨0, 12, 27, 26⟩ [] htb (List.forall_mem_cons.mpr ⟨Or.inr ⟨by decide, "java/lang/IndexOutOfBoundsException", hE.w qw_945 rfl _, hE.2.2.2.2 ("java/lang/UnsupportedOperationException", "java/lang/IndexOutOfBoundsException") (List.mem_of_getElem? (i := 15) rfl)⟩, List.forall_mem_cons.mpr ⟨Or.inr ⟨by decide, "java/lang/IllegalArgumentException", hE.w qw_854 rfl _, hE.2.2.2.2 ("java/lang/UnsupportedOperationException", "java/lang/IllegalArgumentException") (List.mem_of_getElem? (i := 16) rfl)⟩, List.forall_mem_cons.mpr ⟨Or.inr ⟨by decide, "java/lang/IllegalStateException", hE.w qw_855 rfl _, hE.2.2.2.2 ("java/lang/UnsupportedOperationException", "java/lang/IllegalStateException") (List.mem_of_getElem? (i := 17) rfl)⟩, List.forall_mem_nil _⟩⟩⟩) (by decide) (by decide) (hE.w qw_1016 rfl _) (hE.w qw_918 rfl _) hce hcv hcl ?_
            refine lv_astore (lv' := [(5, .ref q9), (0, .ref (xa X 165)), (1, .int a2), (2, .int a3), (3, .int a4), (4, .ref (xa X 197))]) hx hb dL_withdraw_27 hl (by decide) rfl (fun ls hl => ?_)
            refine lv_iconst (v := 4) hx hb dL_withdraw_29 (by decide) ?_
            exact end_i hx hb hr hlk rfl hw hP hD hS dL_withdraw_30
          · replace hw := ite_f hw c5
            exact hw.elim
  · refine lv_i2l hx hb dL_withdraw_10 rfl ?_
    obtain ⟨y7, hw⟩ := hw
    refine last_14 hx hb hE hP hD hS y7 dL_withdraw_11 (fun G8 H locs eG8 hP hD hS => ?_)
    replace hw := hw G8 eG8
    refine lv_goto (tgt := 31) hx hb dL_withdraw_12 (by decide) ?_
    refine lv_iconst (v := 0) hx hb dL_withdraw_31 (by decide) ?_
    exact end_i hx hb hr hlk rfl hw hP hD hS dL_withdraw_32
def wpL_exchange (post : Int32 → GS → Prop) (a2 : Int32) (a3 : Int32) (a4 : Int32) (a5 : Int32) (G : GS) : Prop :=
  wpX8_exchange (fun (r6 : Int32) (G1 : GS) =>
  vp_in 0 1 ∧ ∀ G8 : GS, G8 = gL G1 ((0 : Int32).toNatClampNeg) r6.toInt64 →
    post 0 G8) (fun (E : String) (G9 : GS) =>
  if E = "java/lang/IndexOutOfBoundsException" then
    post 1 G9
  else if E = "java/lang/IllegalArgumentException" then
    post 2 G9
  else if E = "java/lang/IllegalStateException" then
    post 3 G9
  else if E = "java/lang/UnsupportedOperationException" then
    post 4 G9
  else False) a2 a3 a4 a5 G
set_option maxHeartbeats 4000000 in
set_option maxRecDepth 100000 in
theorem okL_exchange (X : Cx) (l : Launch) (hfl : l.stackTraces = false) {post : Int32 → GS → Prop} {a2 : Int32} {a3 : Int32} {a4 : Int32} {a5 : Int32} {G : GS}  (hw : wpL_exchange post a2 a3 a4 a5 G) : CTW X l yL_exchange cL_exchange 7 (some FieldType.int) [(0, 14, 17, 21), (0, 14, 21, 13), (0, 14, 25, 15), (0, 14, 29, 26)] 8 1 6 [.ref (xa X 165), .int a2, .int a3, .int a4, .int a5, .ref (xa X 197)] G (Qi X post) := by
  refine mbeginW qw_1038 (by decide) (Nat.le_of_ble_eq_true rfl) (fun p e s m below meth c hx hb hr hml hlk hown htb hE hz ls hl hP hD hS => ?_)
  have hl : lv_has ls 7 [(0, .ref (xa X 165)), (1, .int a2), (2, .int a3), (3, .int a4), (4, .int a5), (5, .ref (xa X 197))] := hl
  have hown : s.vm.findClass "FlyTreasuryLaw" = some m.cls := hown
  unfold wpL_exchange at hw
  refine lv_aload hx hb dL_exchange_0 (lv_at hl 5 rfl) ?_
  refine lv_iconst (v := 0) hx hb dL_exchange_2 (by decide) ?_
  refine lv_aload_n hx hb dL_exchange_3 rfl (lv_at hl 0 rfl) ?_
  refine lv_iload_n hx hb dL_exchange_4 rfl (lv_at hl 1 rfl) ?_
  refine lv_iload_n hx hb dL_exchange_5 rfl (lv_at hl 2 rfl) ?_
  refine lv_iload_n hx hb dL_exchange_6 rfl (lv_at hl 3 rfl) ?_
  refine lv_iload hx hb dL_exchange_7 (lv_at hl 4 rfl) ?_
  refine xcall_i (xrun_V (cc := cL_exchange) (As := [.int a2, .int a3, .int a4, .int a5]) (rest := [.int 0, .ref (xa X 197)]) hx hb hml hown hE hz (okX8_exchange X l hfl  hw) qw_1039 qw_1040 qw_1041 qw_74 qw_1042 (myX8_exchange) ⟨Nat.le_of_ble_eq_true rfl, Nat.le_of_ble_eq_true rfl⟩ (rv_X8 hE hP rfl) hP hD hS rfl hl.1 rfl (Nat.le_of_ble_eq_true rfl) dL_exchange_9 ⟨Nat.le_of_ble_eq_true rfl, Nat.le_of_ble_eq_true rfl⟩) hS (fun E ce q9 G9 H locs hw hP hD hS hce hcv hcl => ?_) (fun r6 G1 H locs hw hP hD hS => ?_)
  · by_cases c2 : E = "java/lang/IndexOutOfBoundsException"
    · replace hw := ite_t hw c2
      subst c2
      refine vx_catch hown [] ⟨0, 14, 17, 21⟩ [⟨0, 14, 21, 13⟩, ⟨0, 14, 25, 15⟩, ⟨0, 14, 29, 26⟩] htb (List.forall_mem_nil _) (by decide) (by decide) (hE.w qw_945 rfl _) (hE.w qw_886 rfl _) hce hcv hcl ?_
      refine lv_astore (lv' := [(6, .ref q9), (0, .ref (xa X 165)), (1, .int a2), (2, .int a3), (3, .int a4), (4, .int a5), (5, .ref (xa X 197))]) hx hb dL_exchange_17 hl (by decide) rfl (fun ls hl => ?_)
      refine lv_iconst (v := 1) hx hb dL_exchange_19 (by decide) ?_
      exact end_i hx hb hr hlk rfl hw hP hD hS dL_exchange_20
    · replace hw := ite_f hw c2
      by_cases c3 : E = "java/lang/IllegalArgumentException"
      · replace hw := ite_t hw c3
        subst c3
        refine vx_catch hown [⟨0, 14, 17, 21⟩] ⟨0, 14, 21, 13⟩ [⟨0, 14, 25, 15⟩, ⟨0, 14, 29, 26⟩] htb (List.forall_mem_cons.mpr ⟨Or.inr ⟨by decide, "java/lang/IndexOutOfBoundsException", hE.w qw_945 rfl _, hE.2.2.2.2 ("java/lang/IllegalArgumentException", "java/lang/IndexOutOfBoundsException") (List.mem_of_getElem? (i := 5) rfl)⟩, List.forall_mem_nil _⟩) (by decide) (by decide) (hE.w qw_854 rfl _) (hE.w qw_648 rfl _) hce hcv hcl ?_
        refine lv_astore (lv' := [(6, .ref q9), (0, .ref (xa X 165)), (1, .int a2), (2, .int a3), (3, .int a4), (4, .int a5), (5, .ref (xa X 197))]) hx hb dL_exchange_21 hl (by decide) rfl (fun ls hl => ?_)
        refine lv_iconst (v := 2) hx hb dL_exchange_23 (by decide) ?_
        exact end_i hx hb hr hlk rfl hw hP hD hS dL_exchange_24
      · replace hw := ite_f hw c3
        by_cases c4 : E = "java/lang/IllegalStateException"
        · replace hw := ite_t hw c4
          subst c4
          refine vx_catch hown [⟨0, 14, 17, 21⟩, ⟨0, 14, 21, 13⟩] ⟨0, 14, 25, 15⟩ [⟨0, 14, 29, 26⟩] htb (List.forall_mem_cons.mpr ⟨Or.inr ⟨by decide, "java/lang/IndexOutOfBoundsException", hE.w qw_945 rfl _, hE.2.2.2.2 ("java/lang/IllegalStateException", "java/lang/IndexOutOfBoundsException") (List.mem_of_getElem? (i := 10) rfl)⟩, List.forall_mem_cons.mpr ⟨Or.inr ⟨by decide, "java/lang/IllegalArgumentException", hE.w qw_854 rfl _, hE.2.2.2.2 ("java/lang/IllegalStateException", "java/lang/IllegalArgumentException") (List.mem_of_getElem? (i := 11) rfl)⟩, List.forall_mem_nil _⟩⟩) (by decide) (by decide) (hE.w qw_855 rfl _) (hE.w qw_902 rfl _) hce hcv hcl ?_
          refine lv_astore (lv' := [(6, .ref q9), (0, .ref (xa X 165)), (1, .int a2), (2, .int a3), (3, .int a4), (4, .int a5), (5, .ref (xa X 197))]) hx hb dL_exchange_25 hl (by decide) rfl (fun ls hl => ?_)
          refine lv_iconst (v := 3) hx hb dL_exchange_27 (by decide) ?_
          exact end_i hx hb hr hlk rfl hw hP hD hS dL_exchange_28
        · replace hw := ite_f hw c4
          by_cases c5 : E = "java/lang/UnsupportedOperationException"
          · replace hw := ite_t hw c5
            subst c5
            refine vx_catch hown [⟨0, 14, 17, 21⟩, ⟨0, 14, 21, 13⟩, ⟨0, 14, 25, 15⟩] ⟨0, 14, 29, 26⟩ [] htb (List.forall_mem_cons.mpr ⟨Or.inr ⟨by decide, "java/lang/IndexOutOfBoundsException", hE.w qw_945 rfl _, hE.2.2.2.2 ("java/lang/UnsupportedOperationException", "java/lang/IndexOutOfBoundsException") (List.mem_of_getElem? (i := 15) rfl)⟩, List.forall_mem_cons.mpr ⟨Or.inr ⟨by decide, "java/lang/IllegalArgumentException", hE.w qw_854 rfl _, hE.2.2.2.2 ("java/lang/UnsupportedOperationException", "java/lang/IllegalArgumentException") (List.mem_of_getElem? (i := 16) rfl)⟩, List.forall_mem_cons.mpr ⟨Or.inr ⟨by decide, "java/lang/IllegalStateException", hE.w qw_855 rfl _, hE.2.2.2.2 ("java/lang/UnsupportedOperationException", "java/lang/IllegalStateException") (List.mem_of_getElem? (i := 17) rfl)⟩, List.forall_mem_nil _⟩⟩⟩) (by decide) (by decide) (hE.w qw_1016 rfl _) (hE.w qw_918 rfl _) hce hcv hcl ?_
            refine lv_astore (lv' := [(6, .ref q9), (0, .ref (xa X 165)), (1, .int a2), (2, .int a3), (3, .int a4), (4, .int a5), (5, .ref (xa X 197))]) hx hb dL_exchange_29 hl (by decide) rfl (fun ls hl => ?_)
            refine lv_iconst (v := 4) hx hb dL_exchange_31 (by decide) ?_
            exact end_i hx hb hr hlk rfl hw hP hD hS dL_exchange_32
          · replace hw := ite_f hw c5
            exact hw.elim
  · refine lv_i2l hx hb dL_exchange_12 rfl ?_
    obtain ⟨y7, hw⟩ := hw
    refine last_14 hx hb hE hP hD hS y7 dL_exchange_13 (fun G8 H locs eG8 hP hD hS => ?_)
    replace hw := hw G8 eG8
    refine lv_goto (tgt := 33) hx hb dL_exchange_14 (by decide) ?_
    refine lv_iconst (v := 0) hx hb dL_exchange_33 (by decide) ?_
    exact end_i hx hb hr hlk rfl hw hP hD hS dL_exchange_34
def wpL_mint (post : Int32 → GS → Prop) (a2 : Int32) (a3 : Int32) (G : GS) : Prop :=
  wpX8_mint (fun (r6 : Int32) (G1 : GS) =>
  vp_in 0 1 ∧ ∀ G8 : GS, G8 = gL G1 ((0 : Int32).toNatClampNeg) r6.toInt64 →
    post 0 G8) (fun (E : String) (G9 : GS) =>
  if E = "java/lang/IndexOutOfBoundsException" then
    post 1 G9
  else if E = "java/lang/IllegalArgumentException" then
    post 2 G9
  else if E = "java/lang/IllegalStateException" then
    post 3 G9
  else if E = "java/lang/UnsupportedOperationException" then
    post 4 G9
  else False) a2 a3 G
set_option maxHeartbeats 4000000 in
set_option maxRecDepth 100000 in
theorem okL_mint (X : Cx) (l : Launch) (hfl : l.stackTraces = false) {post : Int32 → GS → Prop} {a2 : Int32} {a3 : Int32} {G : GS}  (hw : wpL_mint post a2 a3 G) : CTW X l yL_mint cL_mint 5 (some FieldType.int) [(0, 10, 13, 21), (0, 10, 17, 13), (0, 10, 21, 15), (0, 10, 25, 26)] 8 1 6 [.ref (xa X 165), .int a2, .int a3, .ref (xa X 197)] G (Qi X post) := by
  refine mbeginW qw_1056 (by decide) (Nat.le_of_ble_eq_true rfl) (fun p e s m below meth c hx hb hr hml hlk hown htb hE hz ls hl hP hD hS => ?_)
  have hl : lv_has ls 5 [(0, .ref (xa X 165)), (1, .int a2), (2, .int a3), (3, .ref (xa X 197))] := hl
  have hown : s.vm.findClass "FlyTreasuryLaw" = some m.cls := hown
  unfold wpL_mint at hw
  refine lv_aload_n hx hb dL_mint_0 rfl (lv_at hl 3 rfl) ?_
  refine lv_iconst (v := 0) hx hb dL_mint_1 (by decide) ?_
  refine lv_aload_n hx hb dL_mint_2 rfl (lv_at hl 0 rfl) ?_
  refine lv_iload_n hx hb dL_mint_3 rfl (lv_at hl 1 rfl) ?_
  refine lv_iload_n hx hb dL_mint_4 rfl (lv_at hl 2 rfl) ?_
  refine xcall_i (xrun_V (cc := cL_mint) (As := [.int a2, .int a3]) (rest := [.int 0, .ref (xa X 197)]) hx hb hml hown hE hz (okX8_mint X l hfl  hw) qw_1057 qw_1058 qw_1059 qw_74 qw_1060 (myX8_mint) ⟨Nat.le_of_ble_eq_true rfl, Nat.le_of_ble_eq_true rfl⟩ (rv_X8 hE hP rfl) hP hD hS rfl hl.1 rfl (Nat.le_of_ble_eq_true rfl) dL_mint_5 ⟨Nat.le_of_ble_eq_true rfl, Nat.le_of_ble_eq_true rfl⟩) hS (fun E ce q9 G9 H locs hw hP hD hS hce hcv hcl => ?_) (fun r6 G1 H locs hw hP hD hS => ?_)
  · by_cases c2 : E = "java/lang/IndexOutOfBoundsException"
    · replace hw := ite_t hw c2
      subst c2
      refine vx_catch hown [] ⟨0, 10, 13, 21⟩ [⟨0, 10, 17, 13⟩, ⟨0, 10, 21, 15⟩, ⟨0, 10, 25, 26⟩] htb (List.forall_mem_nil _) (by decide) (by decide) (hE.w qw_945 rfl _) (hE.w qw_886 rfl _) hce hcv hcl ?_
      refine lv_astore (lv' := [(4, .ref q9), (0, .ref (xa X 165)), (1, .int a2), (2, .int a3), (3, .ref (xa X 197))]) hx hb dL_mint_13 hl (by decide) rfl (fun ls hl => ?_)
      refine lv_iconst (v := 1) hx hb dL_mint_15 (by decide) ?_
      exact end_i hx hb hr hlk rfl hw hP hD hS dL_mint_16
    · replace hw := ite_f hw c2
      by_cases c3 : E = "java/lang/IllegalArgumentException"
      · replace hw := ite_t hw c3
        subst c3
        refine vx_catch hown [⟨0, 10, 13, 21⟩] ⟨0, 10, 17, 13⟩ [⟨0, 10, 21, 15⟩, ⟨0, 10, 25, 26⟩] htb (List.forall_mem_cons.mpr ⟨Or.inr ⟨by decide, "java/lang/IndexOutOfBoundsException", hE.w qw_945 rfl _, hE.2.2.2.2 ("java/lang/IllegalArgumentException", "java/lang/IndexOutOfBoundsException") (List.mem_of_getElem? (i := 5) rfl)⟩, List.forall_mem_nil _⟩) (by decide) (by decide) (hE.w qw_854 rfl _) (hE.w qw_648 rfl _) hce hcv hcl ?_
        refine lv_astore (lv' := [(4, .ref q9), (0, .ref (xa X 165)), (1, .int a2), (2, .int a3), (3, .ref (xa X 197))]) hx hb dL_mint_17 hl (by decide) rfl (fun ls hl => ?_)
        refine lv_iconst (v := 2) hx hb dL_mint_19 (by decide) ?_
        exact end_i hx hb hr hlk rfl hw hP hD hS dL_mint_20
      · replace hw := ite_f hw c3
        by_cases c4 : E = "java/lang/IllegalStateException"
        · replace hw := ite_t hw c4
          subst c4
          refine vx_catch hown [⟨0, 10, 13, 21⟩, ⟨0, 10, 17, 13⟩] ⟨0, 10, 21, 15⟩ [⟨0, 10, 25, 26⟩] htb (List.forall_mem_cons.mpr ⟨Or.inr ⟨by decide, "java/lang/IndexOutOfBoundsException", hE.w qw_945 rfl _, hE.2.2.2.2 ("java/lang/IllegalStateException", "java/lang/IndexOutOfBoundsException") (List.mem_of_getElem? (i := 10) rfl)⟩, List.forall_mem_cons.mpr ⟨Or.inr ⟨by decide, "java/lang/IllegalArgumentException", hE.w qw_854 rfl _, hE.2.2.2.2 ("java/lang/IllegalStateException", "java/lang/IllegalArgumentException") (List.mem_of_getElem? (i := 11) rfl)⟩, List.forall_mem_nil _⟩⟩) (by decide) (by decide) (hE.w qw_855 rfl _) (hE.w qw_902 rfl _) hce hcv hcl ?_
          refine lv_astore (lv' := [(4, .ref q9), (0, .ref (xa X 165)), (1, .int a2), (2, .int a3), (3, .ref (xa X 197))]) hx hb dL_mint_21 hl (by decide) rfl (fun ls hl => ?_)
          refine lv_iconst (v := 3) hx hb dL_mint_23 (by decide) ?_
          exact end_i hx hb hr hlk rfl hw hP hD hS dL_mint_24
        · replace hw := ite_f hw c4
          by_cases c5 : E = "java/lang/UnsupportedOperationException"
          · replace hw := ite_t hw c5
            subst c5
            refine vx_catch hown [⟨0, 10, 13, 21⟩, ⟨0, 10, 17, 13⟩, ⟨0, 10, 21, 15⟩] ⟨0, 10, 25, 26⟩ [] htb (List.forall_mem_cons.mpr ⟨Or.inr ⟨by decide, "java/lang/IndexOutOfBoundsException", hE.w qw_945 rfl _, hE.2.2.2.2 ("java/lang/UnsupportedOperationException", "java/lang/IndexOutOfBoundsException") (List.mem_of_getElem? (i := 15) rfl)⟩, List.forall_mem_cons.mpr ⟨Or.inr ⟨by decide, "java/lang/IllegalArgumentException", hE.w qw_854 rfl _, hE.2.2.2.2 ("java/lang/UnsupportedOperationException", "java/lang/IllegalArgumentException") (List.mem_of_getElem? (i := 16) rfl)⟩, List.forall_mem_cons.mpr ⟨Or.inr ⟨by decide, "java/lang/IllegalStateException", hE.w qw_855 rfl _, hE.2.2.2.2 ("java/lang/UnsupportedOperationException", "java/lang/IllegalStateException") (List.mem_of_getElem? (i := 17) rfl)⟩, List.forall_mem_nil _⟩⟩⟩) (by decide) (by decide) (hE.w qw_1016 rfl _) (hE.w qw_918 rfl _) hce hcv hcl ?_
            refine lv_astore (lv' := [(4, .ref q9), (0, .ref (xa X 165)), (1, .int a2), (2, .int a3), (3, .ref (xa X 197))]) hx hb dL_mint_25 hl (by decide) rfl (fun ls hl => ?_)
            refine lv_iconst (v := 4) hx hb dL_mint_27 (by decide) ?_
            exact end_i hx hb hr hlk rfl hw hP hD hS dL_mint_28
          · replace hw := ite_f hw c5
            exact hw.elim
  · refine lv_i2l hx hb dL_mint_8 rfl ?_
    obtain ⟨y7, hw⟩ := hw
    refine last_14 hx hb hE hP hD hS y7 dL_mint_9 (fun G8 H locs eG8 hP hD hS => ?_)
    replace hw := hw G8 eG8
    refine lv_goto (tgt := 29) hx hb dL_mint_10 (by decide) ?_
    refine lv_iconst (v := 0) hx hb dL_mint_29 (by decide) ?_
    exact end_i hx hb hr hlk rfl hw hP hD hS dL_mint_30
def wpL_redeem (post : Int32 → GS → Prop) (a2 : Int32) (a3 : Int32) (G : GS) : Prop :=
  wpX8_redeem (fun (r5 : Int32) (G1 : GS) =>
  vp_in 0 1 ∧ ∀ G7 : GS, G7 = gL G1 ((0 : Int32).toNatClampNeg) r5.toInt64 →
    post 0 G7) (fun (E : String) (G9 : GS) =>
  if E = "java/lang/IndexOutOfBoundsException" then
    post 1 G9
  else if E = "java/lang/IllegalArgumentException" then
    post 2 G9
  else if E = "java/lang/UnsupportedOperationException" then
    post 3 G9
  else False) a2 a3 G
set_option maxHeartbeats 4000000 in
set_option maxRecDepth 100000 in
theorem okL_redeem (X : Cx) (l : Launch) (hfl : l.stackTraces = false) {post : Int32 → GS → Prop} {a2 : Int32} {a3 : Int32} {G : GS}  (hw : wpL_redeem post a2 a3 G) : CTW X l yL_redeem cL_redeem 5 (some FieldType.int) [(0, 10, 13, 21), (0, 10, 17, 13), (0, 10, 21, 26)] 8 1 6 [.ref (xa X 165), .int a2, .int a3, .ref (xa X 197)] G (Qi X post) := by
  refine mbeginW qw_1075 (by decide) (Nat.le_of_ble_eq_true rfl) (fun p e s m below meth c hx hb hr hml hlk hown htb hE hz ls hl hP hD hS => ?_)
  have hl : lv_has ls 5 [(0, .ref (xa X 165)), (1, .int a2), (2, .int a3), (3, .ref (xa X 197))] := hl
  have hown : s.vm.findClass "FlyTreasuryLaw" = some m.cls := hown
  unfold wpL_redeem at hw
  refine lv_aload_n hx hb dL_redeem_0 rfl (lv_at hl 3 rfl) ?_
  refine lv_iconst (v := 0) hx hb dL_redeem_1 (by decide) ?_
  refine lv_aload_n hx hb dL_redeem_2 rfl (lv_at hl 0 rfl) ?_
  refine lv_iload_n hx hb dL_redeem_3 rfl (lv_at hl 1 rfl) ?_
  refine lv_iload_n hx hb dL_redeem_4 rfl (lv_at hl 2 rfl) ?_
  refine xcall_i (xrun_V (cc := cL_redeem) (As := [.int a2, .int a3]) (rest := [.int 0, .ref (xa X 197)]) hx hb hml hown hE hz (okX8_redeem X l hfl  hw) qw_1076 qw_1077 qw_1078 qw_74 qw_1079 (myX8_redeem) ⟨Nat.le_of_ble_eq_true rfl, Nat.le_of_ble_eq_true rfl⟩ (rv_X8 hE hP rfl) hP hD hS rfl hl.1 rfl (Nat.le_of_ble_eq_true rfl) dL_redeem_5 ⟨Nat.le_of_ble_eq_true rfl, Nat.le_of_ble_eq_true rfl⟩) hS (fun E ce q9 G9 H locs hw hP hD hS hce hcv hcl => ?_) (fun r5 G1 H locs hw hP hD hS => ?_)
  · by_cases c2 : E = "java/lang/IndexOutOfBoundsException"
    · replace hw := ite_t hw c2
      subst c2
      refine vx_catch hown [] ⟨0, 10, 13, 21⟩ [⟨0, 10, 17, 13⟩, ⟨0, 10, 21, 26⟩] htb (List.forall_mem_nil _) (by decide) (by decide) (hE.w qw_945 rfl _) (hE.w qw_886 rfl _) hce hcv hcl ?_
      refine lv_astore (lv' := [(4, .ref q9), (0, .ref (xa X 165)), (1, .int a2), (2, .int a3), (3, .ref (xa X 197))]) hx hb dL_redeem_13 hl (by decide) rfl (fun ls hl => ?_)
      refine lv_iconst (v := 1) hx hb dL_redeem_15 (by decide) ?_
      exact end_i hx hb hr hlk rfl hw hP hD hS dL_redeem_16
    · replace hw := ite_f hw c2
      by_cases c3 : E = "java/lang/IllegalArgumentException"
      · replace hw := ite_t hw c3
        subst c3
        refine vx_catch hown [⟨0, 10, 13, 21⟩] ⟨0, 10, 17, 13⟩ [⟨0, 10, 21, 26⟩] htb (List.forall_mem_cons.mpr ⟨Or.inr ⟨by decide, "java/lang/IndexOutOfBoundsException", hE.w qw_945 rfl _, hE.2.2.2.2 ("java/lang/IllegalArgumentException", "java/lang/IndexOutOfBoundsException") (List.mem_of_getElem? (i := 5) rfl)⟩, List.forall_mem_nil _⟩) (by decide) (by decide) (hE.w qw_854 rfl _) (hE.w qw_648 rfl _) hce hcv hcl ?_
        refine lv_astore (lv' := [(4, .ref q9), (0, .ref (xa X 165)), (1, .int a2), (2, .int a3), (3, .ref (xa X 197))]) hx hb dL_redeem_17 hl (by decide) rfl (fun ls hl => ?_)
        refine lv_iconst (v := 2) hx hb dL_redeem_19 (by decide) ?_
        exact end_i hx hb hr hlk rfl hw hP hD hS dL_redeem_20
      · replace hw := ite_f hw c3
        by_cases c4 : E = "java/lang/UnsupportedOperationException"
        · replace hw := ite_t hw c4
          subst c4
          refine vx_catch hown [⟨0, 10, 13, 21⟩, ⟨0, 10, 17, 13⟩] ⟨0, 10, 21, 26⟩ [] htb (List.forall_mem_cons.mpr ⟨Or.inr ⟨by decide, "java/lang/IndexOutOfBoundsException", hE.w qw_945 rfl _, hE.2.2.2.2 ("java/lang/UnsupportedOperationException", "java/lang/IndexOutOfBoundsException") (List.mem_of_getElem? (i := 15) rfl)⟩, List.forall_mem_cons.mpr ⟨Or.inr ⟨by decide, "java/lang/IllegalArgumentException", hE.w qw_854 rfl _, hE.2.2.2.2 ("java/lang/UnsupportedOperationException", "java/lang/IllegalArgumentException") (List.mem_of_getElem? (i := 16) rfl)⟩, List.forall_mem_nil _⟩⟩) (by decide) (by decide) (hE.w qw_1016 rfl _) (hE.w qw_918 rfl _) hce hcv hcl ?_
          refine lv_astore (lv' := [(4, .ref q9), (0, .ref (xa X 165)), (1, .int a2), (2, .int a3), (3, .ref (xa X 197))]) hx hb dL_redeem_21 hl (by decide) rfl (fun ls hl => ?_)
          refine lv_iconst (v := 3) hx hb dL_redeem_23 (by decide) ?_
          exact end_i hx hb hr hlk rfl hw hP hD hS dL_redeem_24
        · replace hw := ite_f hw c4
          exact hw.elim
  · refine lv_i2l hx hb dL_redeem_8 rfl ?_
    obtain ⟨y6, hw⟩ := hw
    refine last_14 hx hb hE hP hD hS y6 dL_redeem_9 (fun G7 H locs eG7 hP hD hS => ?_)
    replace hw := hw G7 eG7
    refine lv_goto (tgt := 25) hx hb dL_redeem_10 (by decide) ?_
    refine lv_iconst (v := 0) hx hb dL_redeem_25 (by decide) ?_
    exact end_i hx hb hr hlk rfl hw hP hD hS dL_redeem_26
def wpL_audit (post : Int32 → GS → Prop) (a2 : Int32) (G : GS) : Prop :=
  wpX8_audit (fun (r4 : Int32) (G1 : GS) =>
  if r4 = 0 then
    vp_in 0 1 ∧ ∀ G7 : GS, G7 = gL G1 ((0 : Int32).toNatClampNeg) 0 →
      post 0 G7
  else
    vp_in 0 1 ∧ ∀ G9 : GS, G9 = gL G1 ((0 : Int32).toNatClampNeg) 1 →
      post 0 G9) (fun (E : String) (G9 : GS) =>
  if E = "java/lang/IndexOutOfBoundsException" then
    post 1 G9
  else if E = "java/lang/IllegalStateException" then
    post 2 G9
  else False) a2 G
set_option maxHeartbeats 4000000 in
set_option maxRecDepth 100000 in
theorem okL_audit (X : Cx) (l : Launch) (hfl : l.stackTraces = false) {post : Int32 → GS → Prop} {a2 : Int32} {G : GS}  (hw : wpL_audit post a2 G) : CTW X l yL_audit cL_audit 4 (some FieldType.int) [(0, 16, 19, 21), (0, 16, 22, 15)] 8 1 6 [.ref (xa X 165), .int a2, .ref (xa X 197)] G (Qi X post) := by
  refine mbeginW qw_1090 (by decide) (Nat.le_of_ble_eq_true rfl) (fun p e s m below meth c hx hb hr hml hlk hown htb hE hz ls hl hP hD hS => ?_)
  have hl : lv_has ls 4 [(0, .ref (xa X 165)), (1, .int a2), (2, .ref (xa X 197))] := hl
  have hown : s.vm.findClass "FlyTreasuryLaw" = some m.cls := hown
  unfold wpL_audit at hw
  refine lv_aload_n hx hb dL_audit_0 rfl (lv_at hl 2 rfl) ?_
  refine lv_iconst (v := 0) hx hb dL_audit_1 (by decide) ?_
  refine lv_aload_n hx hb dL_audit_2 rfl (lv_at hl 0 rfl) ?_
  refine lv_iload_n hx hb dL_audit_3 rfl (lv_at hl 1 rfl) ?_
  refine xcall_i (xrun_V (cc := cL_audit) (As := [.int a2]) (rest := [.int 0, .ref (xa X 197)]) hx hb hml hown hE hz (okX8_audit X l hfl  hw) qw_1091 qw_1092 qw_1093 qw_74 qw_1094 (myX8_audit) ⟨Nat.le_of_ble_eq_true rfl, Nat.le_of_ble_eq_true rfl⟩ (rv_X8 hE hP rfl) hP hD hS rfl hl.1 rfl (Nat.le_of_ble_eq_true rfl) dL_audit_4 ⟨Nat.le_of_ble_eq_true rfl, Nat.le_of_ble_eq_true rfl⟩) hS (fun E ce q9 G9 H locs hw hP hD hS hce hcv hcl => ?_) (fun r4 G1 H locs hw hP hD hS => ?_)
  · by_cases c2 : E = "java/lang/IndexOutOfBoundsException"
    · replace hw := ite_t hw c2
      subst c2
      refine vx_catch hown [] ⟨0, 16, 19, 21⟩ [⟨0, 16, 22, 15⟩] htb (List.forall_mem_nil _) (by decide) (by decide) (hE.w qw_945 rfl _) (hE.w qw_886 rfl _) hce hcv hcl ?_
      refine lv_astore_n (lv' := [(3, .ref q9), (0, .ref (xa X 165)), (1, .int a2), (2, .ref (xa X 197))]) hx hb dL_audit_19 rfl hl (by decide) rfl (fun ls hl => ?_)
      refine lv_iconst (v := 1) hx hb dL_audit_20 (by decide) ?_
      exact end_i hx hb hr hlk rfl hw hP hD hS dL_audit_21
    · replace hw := ite_f hw c2
      by_cases c3 : E = "java/lang/IllegalStateException"
      · replace hw := ite_t hw c3
        subst c3
        refine vx_catch hown [⟨0, 16, 19, 21⟩] ⟨0, 16, 22, 15⟩ [] htb (List.forall_mem_cons.mpr ⟨Or.inr ⟨by decide, "java/lang/IndexOutOfBoundsException", hE.w qw_945 rfl _, hE.2.2.2.2 ("java/lang/IllegalStateException", "java/lang/IndexOutOfBoundsException") (List.mem_of_getElem? (i := 10) rfl)⟩, List.forall_mem_nil _⟩) (by decide) (by decide) (hE.w qw_855 rfl _) (hE.w qw_902 rfl _) hce hcv hcl ?_
        refine lv_astore_n (lv' := [(3, .ref q9), (0, .ref (xa X 165)), (1, .int a2), (2, .ref (xa X 197))]) hx hb dL_audit_22 rfl hl (by decide) rfl (fun ls hl => ?_)
        refine lv_iconst (v := 2) hx hb dL_audit_23 (by decide) ?_
        exact end_i hx hb hr hlk rfl hw hP hD hS dL_audit_24
      · replace hw := ite_f hw c3
        exact hw.elim
  · refine lv_if_eq (tgt := 14) hx hb dL_audit_7 (by decide) (fun c5 => ?_) (fun c5 => ?_)
    · replace hw := ite_t hw c5
      refine lv_lconst (v := 0) hx hb dL_audit_14 (by decide) ?_
      obtain ⟨y6, hw⟩ := hw
      refine last_14 hx hb hE hP hD hS y6 dL_audit_15 (fun G7 H locs eG7 hP hD hS => ?_)
      replace hw := hw G7 eG7
      refine lv_goto (tgt := 25) hx hb dL_audit_16 (by decide) ?_
      refine lv_iconst (v := 0) hx hb dL_audit_25 (by decide) ?_
      exact end_i hx hb hr hlk rfl hw hP hD hS dL_audit_26
    · replace hw := ite_f hw c5
      refine lv_lconst (v := 1) hx hb dL_audit_10 (by decide) ?_
      refine lv_goto (tgt := 15) hx hb dL_audit_11 (by decide) ?_
      obtain ⟨y8, hw⟩ := hw
      refine last_14 hx hb hE hP hD hS y8 dL_audit_15 (fun G9 H locs eG9 hP hD hS => ?_)
      replace hw := hw G9 eG9
      refine lv_goto (tgt := 25) hx hb dL_audit_16 (by decide) ?_
      refine lv_iconst (v := 0) hx hb dL_audit_25 (by decide) ?_
      exact end_i hx hb hr hlk rfl hw hP hD hS dL_audit_26
def wpL_setRate (post : Int32 → GS → Prop) (a2 : Int32) (a3 : Int32) (G : GS) : Prop :=
  wpX8_setRate (fun (r3 : Int32) (G1 : GS) =>
  vp_in 0 1 ∧ ∀ G5 : GS, G5 = gL G1 ((0 : Int32).toNatClampNeg) r3.toInt64 →
    post 0 G5) (fun (E : String) (G9 : GS) =>
  if E = "java/lang/IllegalArgumentException" then
    post 1 G9
  else False) a2 a3 G
set_option maxHeartbeats 4000000 in
set_option maxRecDepth 100000 in
theorem okL_setRate (X : Cx) (l : Launch) (hfl : l.stackTraces = false) {post : Int32 → GS → Prop} {a2 : Int32} {a3 : Int32} {G : GS}  (hw : wpL_setRate post a2 a3 G) : CTW X l yL_setRate cL_setRate 5 (some FieldType.int) [(0, 10, 13, 13)] 8 1 6 [.ref (xa X 165), .int a2, .int a3, .ref (xa X 197)] G (Qi X post) := by
  refine mbeginW qw_1118 (by decide) (Nat.le_of_ble_eq_true rfl) (fun p e s m below meth c hx hb hr hml hlk hown htb hE hz ls hl hP hD hS => ?_)
  have hl : lv_has ls 5 [(0, .ref (xa X 165)), (1, .int a2), (2, .int a3), (3, .ref (xa X 197))] := hl
  have hown : s.vm.findClass "FlyTreasuryLaw" = some m.cls := hown
  unfold wpL_setRate at hw
  refine lv_aload_n hx hb dL_setRate_0 rfl (lv_at hl 3 rfl) ?_
  refine lv_iconst (v := 0) hx hb dL_setRate_1 (by decide) ?_
  refine lv_aload_n hx hb dL_setRate_2 rfl (lv_at hl 0 rfl) ?_
  refine lv_iload_n hx hb dL_setRate_3 rfl (lv_at hl 1 rfl) ?_
  refine lv_iload_n hx hb dL_setRate_4 rfl (lv_at hl 2 rfl) ?_
  refine xcall_i (xrun_V (cc := cL_setRate) (As := [.int a2, .int a3]) (rest := [.int 0, .ref (xa X 197)]) hx hb hml hown hE hz (okX8_setRate X l hfl  hw) qw_1119 qw_1120 qw_1121 qw_74 qw_1122 (myX8_setRate) ⟨Nat.le_of_ble_eq_true rfl, Nat.le_of_ble_eq_true rfl⟩ (rv_X8 hE hP rfl) hP hD hS rfl hl.1 rfl (Nat.le_of_ble_eq_true rfl) dL_setRate_5 ⟨Nat.le_of_ble_eq_true rfl, Nat.le_of_ble_eq_true rfl⟩) hS (fun E ce q9 G9 H locs hw hP hD hS hce hcv hcl => ?_) (fun r3 G1 H locs hw hP hD hS => ?_)
  · by_cases c2 : E = "java/lang/IllegalArgumentException"
    · replace hw := ite_t hw c2
      subst c2
      refine vx_catch hown [] ⟨0, 10, 13, 13⟩ [] htb (List.forall_mem_nil _) (by decide) (by decide) (hE.w qw_854 rfl _) (hE.w qw_648 rfl _) hce hcv hcl ?_
      refine lv_astore (lv' := [(4, .ref q9), (0, .ref (xa X 165)), (1, .int a2), (2, .int a3), (3, .ref (xa X 197))]) hx hb dL_setRate_13 hl (by decide) rfl (fun ls hl => ?_)
      refine lv_iconst (v := 1) hx hb dL_setRate_15 (by decide) ?_
      exact end_i hx hb hr hlk rfl hw hP hD hS dL_setRate_16
    · replace hw := ite_f hw c2
      exact hw.elim
  · refine lv_i2l hx hb dL_setRate_8 rfl ?_
    obtain ⟨y4, hw⟩ := hw
    refine last_14 hx hb hE hP hD hS y4 dL_setRate_9 (fun G5 H locs eG5 hP hD hS => ?_)
    replace hw := hw G5 eG5
    refine lv_goto (tgt := 17) hx hb dL_setRate_10 (by decide) ?_
    refine lv_iconst (v := 0) hx hb dL_setRate_17 (by decide) ?_
    exact end_i hx hb hr hlk rfl hw hP hD hS dL_setRate_18
def wpL_setStickiness (post : Int32 → GS → Prop) (a2 : Int32) (a3 : Int32) (G : GS) : Prop :=
  wpX8_setStickiness (fun (r4 : Int32) (G1 : GS) =>
  vp_in 0 1 ∧ ∀ G6 : GS, G6 = gL G1 ((0 : Int32).toNatClampNeg) r4.toInt64 →
    post 0 G6) (fun (E : String) (G9 : GS) =>
  if E = "java/lang/IndexOutOfBoundsException" then
    post 1 G9
  else if E = "java/lang/IllegalArgumentException" then
    post 2 G9
  else False) a2 a3 G
set_option maxHeartbeats 4000000 in
set_option maxRecDepth 100000 in
theorem okL_setStickiness (X : Cx) (l : Launch) (hfl : l.stackTraces = false) {post : Int32 → GS → Prop} {a2 : Int32} {a3 : Int32} {G : GS}  (hw : wpL_setStickiness post a2 a3 G) : CTW X l yL_setStickiness cL_setStickiness 5 (some FieldType.int) [(0, 10, 13, 21), (0, 10, 17, 13)] 8 1 6 [.ref (xa X 165), .int a2, .int a3, .ref (xa X 197)] G (Qi X post) := by
  refine mbeginW qw_1133 (by decide) (Nat.le_of_ble_eq_true rfl) (fun p e s m below meth c hx hb hr hml hlk hown htb hE hz ls hl hP hD hS => ?_)
  have hl : lv_has ls 5 [(0, .ref (xa X 165)), (1, .int a2), (2, .int a3), (3, .ref (xa X 197))] := hl
  have hown : s.vm.findClass "FlyTreasuryLaw" = some m.cls := hown
  unfold wpL_setStickiness at hw
  refine lv_aload_n hx hb dL_setStickiness_0 rfl (lv_at hl 3 rfl) ?_
  refine lv_iconst (v := 0) hx hb dL_setStickiness_1 (by decide) ?_
  refine lv_aload_n hx hb dL_setStickiness_2 rfl (lv_at hl 0 rfl) ?_
  refine lv_iload_n hx hb dL_setStickiness_3 rfl (lv_at hl 1 rfl) ?_
  refine lv_iload_n hx hb dL_setStickiness_4 rfl (lv_at hl 2 rfl) ?_
  refine xcall_i (xrun_V (cc := cL_setStickiness) (As := [.int a2, .int a3]) (rest := [.int 0, .ref (xa X 197)]) hx hb hml hown hE hz (okX8_setStickiness X l hfl  hw) qw_1134 qw_1135 qw_1136 qw_74 qw_1137 (myX8_setStickiness) ⟨Nat.le_of_ble_eq_true rfl, Nat.le_of_ble_eq_true rfl⟩ (rv_X8 hE hP rfl) hP hD hS rfl hl.1 rfl (Nat.le_of_ble_eq_true rfl) dL_setStickiness_5 ⟨Nat.le_of_ble_eq_true rfl, Nat.le_of_ble_eq_true rfl⟩) hS (fun E ce q9 G9 H locs hw hP hD hS hce hcv hcl => ?_) (fun r4 G1 H locs hw hP hD hS => ?_)
  · by_cases c2 : E = "java/lang/IndexOutOfBoundsException"
    · replace hw := ite_t hw c2
      subst c2
      refine vx_catch hown [] ⟨0, 10, 13, 21⟩ [⟨0, 10, 17, 13⟩] htb (List.forall_mem_nil _) (by decide) (by decide) (hE.w qw_945 rfl _) (hE.w qw_886 rfl _) hce hcv hcl ?_
      refine lv_astore (lv' := [(4, .ref q9), (0, .ref (xa X 165)), (1, .int a2), (2, .int a3), (3, .ref (xa X 197))]) hx hb dL_setStickiness_13 hl (by decide) rfl (fun ls hl => ?_)
      refine lv_iconst (v := 1) hx hb dL_setStickiness_15 (by decide) ?_
      exact end_i hx hb hr hlk rfl hw hP hD hS dL_setStickiness_16
    · replace hw := ite_f hw c2
      by_cases c3 : E = "java/lang/IllegalArgumentException"
      · replace hw := ite_t hw c3
        subst c3
        refine vx_catch hown [⟨0, 10, 13, 21⟩] ⟨0, 10, 17, 13⟩ [] htb (List.forall_mem_cons.mpr ⟨Or.inr ⟨by decide, "java/lang/IndexOutOfBoundsException", hE.w qw_945 rfl _, hE.2.2.2.2 ("java/lang/IllegalArgumentException", "java/lang/IndexOutOfBoundsException") (List.mem_of_getElem? (i := 5) rfl)⟩, List.forall_mem_nil _⟩) (by decide) (by decide) (hE.w qw_854 rfl _) (hE.w qw_648 rfl _) hce hcv hcl ?_
        refine lv_astore (lv' := [(4, .ref q9), (0, .ref (xa X 165)), (1, .int a2), (2, .int a3), (3, .ref (xa X 197))]) hx hb dL_setStickiness_17 hl (by decide) rfl (fun ls hl => ?_)
        refine lv_iconst (v := 2) hx hb dL_setStickiness_19 (by decide) ?_
        exact end_i hx hb hr hlk rfl hw hP hD hS dL_setStickiness_20
      · replace hw := ite_f hw c3
        exact hw.elim
  · refine lv_i2l hx hb dL_setStickiness_8 rfl ?_
    obtain ⟨y5, hw⟩ := hw
    refine last_14 hx hb hE hP hD hS y5 dL_setStickiness_9 (fun G6 H locs eG6 hP hD hS => ?_)
    replace hw := hw G6 eG6
    refine lv_goto (tgt := 21) hx hb dL_setStickiness_10 (by decide) ?_
    refine lv_iconst (v := 0) hx hb dL_setStickiness_21 (by decide) ?_
    exact end_i hx hb hr hlk rfl hw hP hD hS dL_setStickiness_22
def wpL_passDays (post : Int32 → GS → Prop) (a2 : Int32) (G : GS) : Prop :=
  wpX8_passDays (fun (r3 : Int32) (G1 : GS) =>
  vp_in 0 1 ∧ ∀ G5 : GS, G5 = gL G1 ((0 : Int32).toNatClampNeg) r3.toInt64 →
    post 0 G5) (fun (E : String) (G9 : GS) =>
  if E = "java/lang/IllegalArgumentException" then
    post 1 G9
  else False) a2 G
set_option maxHeartbeats 4000000 in
set_option maxRecDepth 100000 in
theorem okL_passDays (X : Cx) (l : Launch) (hfl : l.stackTraces = false) {post : Int32 → GS → Prop} {a2 : Int32} {G : GS}  (hw : wpL_passDays post a2 G) : CTW X l yL_passDays cL_passDays 4 (some FieldType.int) [(0, 9, 12, 13)] 8 1 6 [.ref (xa X 165), .int a2, .ref (xa X 197)] G (Qi X post) := by
  refine mbeginW qw_1148 (by decide) (Nat.le_of_ble_eq_true rfl) (fun p e s m below meth c hx hb hr hml hlk hown htb hE hz ls hl hP hD hS => ?_)
  have hl : lv_has ls 4 [(0, .ref (xa X 165)), (1, .int a2), (2, .ref (xa X 197))] := hl
  have hown : s.vm.findClass "FlyTreasuryLaw" = some m.cls := hown
  unfold wpL_passDays at hw
  refine lv_aload_n hx hb dL_passDays_0 rfl (lv_at hl 2 rfl) ?_
  refine lv_iconst (v := 0) hx hb dL_passDays_1 (by decide) ?_
  refine lv_aload_n hx hb dL_passDays_2 rfl (lv_at hl 0 rfl) ?_
  refine lv_iload_n hx hb dL_passDays_3 rfl (lv_at hl 1 rfl) ?_
  refine xcall_i (xrun_V (cc := cL_passDays) (As := [.int a2]) (rest := [.int 0, .ref (xa X 197)]) hx hb hml hown hE hz (okX8_passDays X l hfl  hw) qw_1149 qw_1150 qw_1151 qw_74 qw_1152 (myX8_passDays) ⟨Nat.le_of_ble_eq_true rfl, Nat.le_of_ble_eq_true rfl⟩ (rv_X8 hE hP rfl) hP hD hS rfl hl.1 rfl (Nat.le_of_ble_eq_true rfl) dL_passDays_4 ⟨Nat.le_of_ble_eq_true rfl, Nat.le_of_ble_eq_true rfl⟩) hS (fun E ce q9 G9 H locs hw hP hD hS hce hcv hcl => ?_) (fun r3 G1 H locs hw hP hD hS => ?_)
  · by_cases c2 : E = "java/lang/IllegalArgumentException"
    · replace hw := ite_t hw c2
      subst c2
      refine vx_catch hown [] ⟨0, 9, 12, 13⟩ [] htb (List.forall_mem_nil _) (by decide) (by decide) (hE.w qw_854 rfl _) (hE.w qw_648 rfl _) hce hcv hcl ?_
      refine lv_astore_n (lv' := [(3, .ref q9), (0, .ref (xa X 165)), (1, .int a2), (2, .ref (xa X 197))]) hx hb dL_passDays_12 rfl hl (by decide) rfl (fun ls hl => ?_)
      refine lv_iconst (v := 1) hx hb dL_passDays_13 (by decide) ?_
      exact end_i hx hb hr hlk rfl hw hP hD hS dL_passDays_14
    · replace hw := ite_f hw c2
      exact hw.elim
  · refine lv_i2l hx hb dL_passDays_7 rfl ?_
    obtain ⟨y4, hw⟩ := hw
    refine last_14 hx hb hE hP hD hS y4 dL_passDays_8 (fun G5 H locs eG5 hP hD hS => ?_)
    replace hw := hw G5 eG5
    refine lv_goto (tgt := 15) hx hb dL_passDays_9 (by decide) ?_
    refine lv_iconst (v := 0) hx hb dL_passDays_15 (by decide) ?_
    exact end_i hx hb hr hlk rfl hw hP hD hS dL_passDays_16
def wpL_flies (post : Int32 → GS → Prop) (a2 : Int32) (a3 : Int32) (G : GS) : Prop :=
  wpX8_flies (fun (r4 : Int32) (G1 : GS) =>
  vp_in 0 1 ∧ ∀ G6 : GS, G6 = gL G1 ((0 : Int32).toNatClampNeg) r4.toInt64 →
    post 0 G6) (fun (E : String) (G9 : GS) =>
  if E = "java/lang/IndexOutOfBoundsException" then
    post 1 G9
  else if E = "java/lang/IllegalArgumentException" then
    post 2 G9
  else False) a2 a3 G
set_option maxHeartbeats 4000000 in
set_option maxRecDepth 100000 in
theorem okL_flies (X : Cx) (l : Launch) (hfl : l.stackTraces = false) {post : Int32 → GS → Prop} {a2 : Int32} {a3 : Int32} {G : GS}  (hw : wpL_flies post a2 a3 G) : CTW X l yL_flies cL_flies 5 (some FieldType.int) [(0, 10, 13, 21), (0, 10, 17, 13)] 8 2 12 [.ref (xa X 165), .int a2, .int a3, .ref (xa X 197)] G (Qi X post) := by
  refine mbeginW qw_1175 (by decide) (Nat.le_of_ble_eq_true rfl) (fun p e s m below meth c hx hb hr hml hlk hown htb hE hz ls hl hP hD hS => ?_)
  have hl : lv_has ls 5 [(0, .ref (xa X 165)), (1, .int a2), (2, .int a3), (3, .ref (xa X 197))] := hl
  have hown : s.vm.findClass "FlyTreasuryLaw" = some m.cls := hown
  unfold wpL_flies at hw
  refine lv_aload_n hx hb dL_flies_0 rfl (lv_at hl 3 rfl) ?_
  refine lv_iconst (v := 0) hx hb dL_flies_1 (by decide) ?_
  refine lv_aload_n hx hb dL_flies_2 rfl (lv_at hl 0 rfl) ?_
  refine lv_iload_n hx hb dL_flies_3 rfl (lv_at hl 1 rfl) ?_
  refine lv_iload_n hx hb dL_flies_4 rfl (lv_at hl 2 rfl) ?_
  refine xcall_i (xrun_V (cc := cL_flies) (As := [.int a2, .int a3]) (rest := [.int 0, .ref (xa X 197)]) hx hb hml hown hE hz (okX8_flies X l hfl  hw) qw_1176 qw_1177 qw_1178 qw_74 qw_1179 (myX8_flies) ⟨Nat.le_of_ble_eq_true rfl, Nat.le_of_ble_eq_true rfl⟩ (rv_X8 hE hP rfl) hP hD hS rfl hl.1 rfl (Nat.le_of_ble_eq_true rfl) dL_flies_5 ⟨Nat.le_of_ble_eq_true rfl, Nat.le_of_ble_eq_true rfl⟩) hS (fun E ce q9 G9 H locs hw hP hD hS hce hcv hcl => ?_) (fun r4 G1 H locs hw hP hD hS => ?_)
  · by_cases c2 : E = "java/lang/IndexOutOfBoundsException"
    · replace hw := ite_t hw c2
      subst c2
      refine vx_catch hown [] ⟨0, 10, 13, 21⟩ [⟨0, 10, 17, 13⟩] htb (List.forall_mem_nil _) (by decide) (by decide) (hE.w qw_945 rfl _) (hE.w qw_886 rfl _) hce hcv hcl ?_
      refine lv_astore (lv' := [(4, .ref q9), (0, .ref (xa X 165)), (1, .int a2), (2, .int a3), (3, .ref (xa X 197))]) hx hb dL_flies_13 hl (by decide) rfl (fun ls hl => ?_)
      refine lv_iconst (v := 1) hx hb dL_flies_15 (by decide) ?_
      exact end_i hx hb hr hlk rfl hw hP hD hS dL_flies_16
    · replace hw := ite_f hw c2
      by_cases c3 : E = "java/lang/IllegalArgumentException"
      · replace hw := ite_t hw c3
        subst c3
        refine vx_catch hown [⟨0, 10, 13, 21⟩] ⟨0, 10, 17, 13⟩ [] htb (List.forall_mem_cons.mpr ⟨Or.inr ⟨by decide, "java/lang/IndexOutOfBoundsException", hE.w qw_945 rfl _, hE.2.2.2.2 ("java/lang/IllegalArgumentException", "java/lang/IndexOutOfBoundsException") (List.mem_of_getElem? (i := 5) rfl)⟩, List.forall_mem_nil _⟩) (by decide) (by decide) (hE.w qw_854 rfl _) (hE.w qw_648 rfl _) hce hcv hcl ?_
        refine lv_astore (lv' := [(4, .ref q9), (0, .ref (xa X 165)), (1, .int a2), (2, .int a3), (3, .ref (xa X 197))]) hx hb dL_flies_17 hl (by decide) rfl (fun ls hl => ?_)
        refine lv_iconst (v := 2) hx hb dL_flies_19 (by decide) ?_
        exact end_i hx hb hr hlk rfl hw hP hD hS dL_flies_20
      · replace hw := ite_f hw c3
        exact hw.elim
  · refine lv_i2l hx hb dL_flies_8 rfl ?_
    obtain ⟨y5, hw⟩ := hw
    refine last_14 hx hb hE hP hD hS y5 dL_flies_9 (fun G6 H locs eG6 hP hD hS => ?_)
    replace hw := hw G6 eG6
    refine lv_goto (tgt := 21) hx hb dL_flies_10 (by decide) ?_
    refine lv_iconst (v := 0) hx hb dL_flies_21 (by decide) ?_
    exact end_i hx hb hr hlk rfl hw hP hD hS dL_flies_22
def wpL_crumbs (post : Int32 → GS → Prop) (a2 : Int32) (G : GS) : Prop :=
  wpX8_crumbs (fun (r3 : Int32) (G1 : GS) =>
  vp_in 0 1 ∧ ∀ G5 : GS, G5 = gL G1 ((0 : Int32).toNatClampNeg) r3.toInt64 →
    post 0 G5) (fun (E : String) (G9 : GS) =>
  if E = "java/lang/IndexOutOfBoundsException" then
    post 1 G9
  else False) a2 G
set_option maxHeartbeats 4000000 in
set_option maxRecDepth 100000 in
theorem okL_crumbs (X : Cx) (l : Launch) (hfl : l.stackTraces = false) {post : Int32 → GS → Prop} {a2 : Int32} {G : GS}  (hw : wpL_crumbs post a2 G) : CTW X l yL_crumbs cL_crumbs 4 (some FieldType.int) [(0, 9, 12, 21)] 8 1 6 [.ref (xa X 165), .int a2, .ref (xa X 197)] G (Qi X post) := by
  refine mbeginW qw_1192 (by decide) (Nat.le_of_ble_eq_true rfl) (fun p e s m below meth c hx hb hr hml hlk hown htb hE hz ls hl hP hD hS => ?_)
  have hl : lv_has ls 4 [(0, .ref (xa X 165)), (1, .int a2), (2, .ref (xa X 197))] := hl
  have hown : s.vm.findClass "FlyTreasuryLaw" = some m.cls := hown
  unfold wpL_crumbs at hw
  refine lv_aload_n hx hb dL_crumbs_0 rfl (lv_at hl 2 rfl) ?_
  refine lv_iconst (v := 0) hx hb dL_crumbs_1 (by decide) ?_
  refine lv_aload_n hx hb dL_crumbs_2 rfl (lv_at hl 0 rfl) ?_
  refine lv_iload_n hx hb dL_crumbs_3 rfl (lv_at hl 1 rfl) ?_
  refine xcall_i (xrun_V (cc := cL_crumbs) (As := [.int a2]) (rest := [.int 0, .ref (xa X 197)]) hx hb hml hown hE hz (okX8_crumbs X l hfl  hw) qw_1193 qw_1194 qw_1195 qw_74 qw_1196 (myX8_crumbs) ⟨Nat.le_of_ble_eq_true rfl, Nat.le_of_ble_eq_true rfl⟩ (rv_X8 hE hP rfl) hP hD hS rfl hl.1 rfl (Nat.le_of_ble_eq_true rfl) dL_crumbs_4 ⟨Nat.le_of_ble_eq_true rfl, Nat.le_of_ble_eq_true rfl⟩) hS (fun E ce q9 G9 H locs hw hP hD hS hce hcv hcl => ?_) (fun r3 G1 H locs hw hP hD hS => ?_)
  · by_cases c2 : E = "java/lang/IndexOutOfBoundsException"
    · replace hw := ite_t hw c2
      subst c2
      refine vx_catch hown [] ⟨0, 9, 12, 21⟩ [] htb (List.forall_mem_nil _) (by decide) (by decide) (hE.w qw_945 rfl _) (hE.w qw_886 rfl _) hce hcv hcl ?_
      refine lv_astore_n (lv' := [(3, .ref q9), (0, .ref (xa X 165)), (1, .int a2), (2, .ref (xa X 197))]) hx hb dL_crumbs_12 rfl hl (by decide) rfl (fun ls hl => ?_)
      refine lv_iconst (v := 1) hx hb dL_crumbs_13 (by decide) ?_
      exact end_i hx hb hr hlk rfl hw hP hD hS dL_crumbs_14
    · replace hw := ite_f hw c2
      exact hw.elim
  · refine lv_i2l hx hb dL_crumbs_7 rfl ?_
    obtain ⟨y4, hw⟩ := hw
    refine last_14 hx hb hE hP hD hS y4 dL_crumbs_8 (fun G5 H locs eG5 hP hD hS => ?_)
    replace hw := hw G5 eG5
    refine lv_goto (tgt := 15) hx hb dL_crumbs_9 (by decide) ?_
    refine lv_iconst (v := 0) hx hb dL_crumbs_15 (by decide) ?_
    exact end_i hx hb hr hlk rfl hw hP hD hS dL_crumbs_16
def wpL_dew (post : Int32 → GS → Prop) (a2 : Int32) (G : GS) : Prop :=
  wpX8_dew (fun (r3 : Int32) (G1 : GS) =>
  vp_in 0 1 ∧ ∀ G5 : GS, G5 = gL G1 ((0 : Int32).toNatClampNeg) r3.toInt64 →
    post 0 G5) (fun (E : String) (G9 : GS) =>
  if E = "java/lang/IndexOutOfBoundsException" then
    post 1 G9
  else False) a2 G
set_option maxHeartbeats 4000000 in
set_option maxRecDepth 100000 in
theorem okL_dew (X : Cx) (l : Launch) (hfl : l.stackTraces = false) {post : Int32 → GS → Prop} {a2 : Int32} {G : GS}  (hw : wpL_dew post a2 G) : CTW X l yL_dew cL_dew 4 (some FieldType.int) [(0, 9, 12, 21)] 8 1 6 [.ref (xa X 165), .int a2, .ref (xa X 197)] G (Qi X post) := by
  refine mbeginW qw_1199 (by decide) (Nat.le_of_ble_eq_true rfl) (fun p e s m below meth c hx hb hr hml hlk hown htb hE hz ls hl hP hD hS => ?_)
  have hl : lv_has ls 4 [(0, .ref (xa X 165)), (1, .int a2), (2, .ref (xa X 197))] := hl
  have hown : s.vm.findClass "FlyTreasuryLaw" = some m.cls := hown
  unfold wpL_dew at hw
  refine lv_aload_n hx hb dL_dew_0 rfl (lv_at hl 2 rfl) ?_
  refine lv_iconst (v := 0) hx hb dL_dew_1 (by decide) ?_
  refine lv_aload_n hx hb dL_dew_2 rfl (lv_at hl 0 rfl) ?_
  refine lv_iload_n hx hb dL_dew_3 rfl (lv_at hl 1 rfl) ?_
  refine xcall_i (xrun_V (cc := cL_dew) (As := [.int a2]) (rest := [.int 0, .ref (xa X 197)]) hx hb hml hown hE hz (okX8_dew X l hfl  hw) qw_1200 qw_1201 qw_1202 qw_74 qw_1203 (myX8_dew) ⟨Nat.le_of_ble_eq_true rfl, Nat.le_of_ble_eq_true rfl⟩ (rv_X8 hE hP rfl) hP hD hS rfl hl.1 rfl (Nat.le_of_ble_eq_true rfl) dL_dew_4 ⟨Nat.le_of_ble_eq_true rfl, Nat.le_of_ble_eq_true rfl⟩) hS (fun E ce q9 G9 H locs hw hP hD hS hce hcv hcl => ?_) (fun r3 G1 H locs hw hP hD hS => ?_)
  · by_cases c2 : E = "java/lang/IndexOutOfBoundsException"
    · replace hw := ite_t hw c2
      subst c2
      refine vx_catch hown [] ⟨0, 9, 12, 21⟩ [] htb (List.forall_mem_nil _) (by decide) (by decide) (hE.w qw_945 rfl _) (hE.w qw_886 rfl _) hce hcv hcl ?_
      refine lv_astore_n (lv' := [(3, .ref q9), (0, .ref (xa X 165)), (1, .int a2), (2, .ref (xa X 197))]) hx hb dL_dew_12 rfl hl (by decide) rfl (fun ls hl => ?_)
      refine lv_iconst (v := 1) hx hb dL_dew_13 (by decide) ?_
      exact end_i hx hb hr hlk rfl hw hP hD hS dL_dew_14
    · replace hw := ite_f hw c2
      exact hw.elim
  · refine lv_i2l hx hb dL_dew_7 rfl ?_
    obtain ⟨y4, hw⟩ := hw
    refine last_14 hx hb hE hP hD hS y4 dL_dew_8 (fun G5 H locs eG5 hP hD hS => ?_)
    replace hw := hw G5 eG5
    refine lv_goto (tgt := 15) hx hb dL_dew_9 (by decide) ?_
    refine lv_iconst (v := 0) hx hb dL_dew_15 (by decide) ?_
    exact end_i hx hb hr hlk rfl hw hP hD hS dL_dew_16
def wpL_wings (post : Int32 → GS → Prop) (a2 : Int32) (G : GS) : Prop :=
  wpX8_wings (fun (r3 : Int32) (G1 : GS) =>
  vp_in 0 1 ∧ ∀ G5 : GS, G5 = gL G1 ((0 : Int32).toNatClampNeg) r3.toInt64 →
    post 0 G5) (fun (E : String) (G9 : GS) =>
  if E = "java/lang/IndexOutOfBoundsException" then
    post 1 G9
  else False) a2 G
set_option maxHeartbeats 4000000 in
set_option maxRecDepth 100000 in
theorem okL_wings (X : Cx) (l : Launch) (hfl : l.stackTraces = false) {post : Int32 → GS → Prop} {a2 : Int32} {G : GS}  (hw : wpL_wings post a2 G) : CTW X l yL_wings cL_wings 4 (some FieldType.int) [(0, 9, 12, 21)] 8 1 6 [.ref (xa X 165), .int a2, .ref (xa X 197)] G (Qi X post) := by
  refine mbeginW qw_1206 (by decide) (Nat.le_of_ble_eq_true rfl) (fun p e s m below meth c hx hb hr hml hlk hown htb hE hz ls hl hP hD hS => ?_)
  have hl : lv_has ls 4 [(0, .ref (xa X 165)), (1, .int a2), (2, .ref (xa X 197))] := hl
  have hown : s.vm.findClass "FlyTreasuryLaw" = some m.cls := hown
  unfold wpL_wings at hw
  refine lv_aload_n hx hb dL_wings_0 rfl (lv_at hl 2 rfl) ?_
  refine lv_iconst (v := 0) hx hb dL_wings_1 (by decide) ?_
  refine lv_aload_n hx hb dL_wings_2 rfl (lv_at hl 0 rfl) ?_
  refine lv_iload_n hx hb dL_wings_3 rfl (lv_at hl 1 rfl) ?_
  refine xcall_i (xrun_V (cc := cL_wings) (As := [.int a2]) (rest := [.int 0, .ref (xa X 197)]) hx hb hml hown hE hz (okX8_wings X l hfl  hw) qw_1207 qw_1208 qw_1209 qw_74 qw_1210 (myX8_wings) ⟨Nat.le_of_ble_eq_true rfl, Nat.le_of_ble_eq_true rfl⟩ (rv_X8 hE hP rfl) hP hD hS rfl hl.1 rfl (Nat.le_of_ble_eq_true rfl) dL_wings_4 ⟨Nat.le_of_ble_eq_true rfl, Nat.le_of_ble_eq_true rfl⟩) hS (fun E ce q9 G9 H locs hw hP hD hS hce hcv hcl => ?_) (fun r3 G1 H locs hw hP hD hS => ?_)
  · by_cases c2 : E = "java/lang/IndexOutOfBoundsException"
    · replace hw := ite_t hw c2
      subst c2
      refine vx_catch hown [] ⟨0, 9, 12, 21⟩ [] htb (List.forall_mem_nil _) (by decide) (by decide) (hE.w qw_945 rfl _) (hE.w qw_886 rfl _) hce hcv hcl ?_
      refine lv_astore_n (lv' := [(3, .ref q9), (0, .ref (xa X 165)), (1, .int a2), (2, .ref (xa X 197))]) hx hb dL_wings_12 rfl hl (by decide) rfl (fun ls hl => ?_)
      refine lv_iconst (v := 1) hx hb dL_wings_13 (by decide) ?_
      exact end_i hx hb hr hlk rfl hw hP hD hS dL_wings_14
    · replace hw := ite_f hw c2
      exact hw.elim
  · refine lv_i2l hx hb dL_wings_7 rfl ?_
    obtain ⟨y4, hw⟩ := hw
    refine last_14 hx hb hE hP hD hS y4 dL_wings_8 (fun G5 H locs eG5 hP hD hS => ?_)
    replace hw := hw G5 eG5
    refine lv_goto (tgt := 15) hx hb dL_wings_9 (by decide) ?_
    refine lv_iconst (v := 0) hx hb dL_wings_15 (by decide) ?_
    exact end_i hx hb hr hlk rfl hw hP hD hS dL_wings_16
