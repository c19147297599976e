def wpL_renderVault (post : Int32 → GS → Prop) (a2 : Int32) (G : GS) : Prop :=
  wpX8_renderVault (fun (r3 : Int32) (G1 : GS) =>
  vp_in 0 1 ∧ ∀ G5 : GS, G5 = gL G1 ((0 : Int32).toNatClampNeg) r3.toInt64 →
    post 0 G5) (fun (E : String) (G9 : GS) =>
  if E = "java/lang/IndexOutOfBoundsException" then
    post 1 G9
  else False) a2 G
set_option maxHeartbeats 4000000 in
set_option maxRecDepth 100000 in
theorem okL_renderVault (X : Cx) (l : Launch) (hfl : l.stackTraces = false) {post : Int32 → GS → Prop} {a2 : Int32} {G : GS}  (hw : wpL_renderVault post a2 G) : CTW X l yL_renderVault cL_renderVault 4 (some FieldType.int) [(0, 9, 12, 21)] 8 16 2046 [.ref (xa X 165), .int a2, .ref (xa X 197)] G (Qi X post) := by
  refine mbeginW qw_1409 (by decide) (Nat.le_of_ble_eq_true rfl) (fun p e s m below meth c hx hb hr hml hlk hown htb hE hz ls hl hP hD hS => ?_)
  have hl : lv_has ls 4 [(0, .ref (xa X 165)), (1, .int a2), (2, .ref (xa X 197))] := hl
  have hown : s.vm.findClass "FlyTreasuryLaw" = some m.cls := hown
  unfold wpL_renderVault at hw
  refine lv_aload_n hx hb dL_renderVault_0 rfl (lv_at hl 2 rfl) ?_
  refine lv_iconst (v := 0) hx hb dL_renderVault_1 (by decide) ?_
  refine lv_aload_n hx hb dL_renderVault_2 rfl (lv_at hl 0 rfl) ?_
  refine lv_iload_n hx hb dL_renderVault_3 rfl (lv_at hl 1 rfl) ?_
  refine xcall_i (xrun_V (cc := cL_renderVault) (As := [.int a2]) (rest := [.int 0, .ref (xa X 197)]) hx hb hml hown hE hz (okX8_renderVault X l hfl  hw) qw_1410 qw_1411 qw_1412 qw_74 qw_1413 (myX8_renderVault) ⟨Nat.le_of_ble_eq_true rfl, Nat.le_of_ble_eq_true rfl⟩ (rv_X8 hE hP rfl) hP hD hS rfl hl.1 rfl (Nat.le_of_ble_eq_true rfl) dL_renderVault_4 ⟨Nat.le_of_ble_eq_true rfl, Nat.le_of_ble_eq_true rfl⟩) hS (fun E ce q9 G9 H locs hw hP hD hS hce hcv hcl => ?_) (fun r3 G1 H locs hw hP hD hS => ?_)
  · by_cases c2 : E = "java/lang/IndexOutOfBoundsException"
    · replace hw := ite_t hw c2
      subst c2
      refine vx_catch hown [] ⟨0, 9, 12, 21⟩ [] htb (List.forall_mem_nil _) (by decide) (by decide) (hE.w qw_945 rfl _) (hE.w qw_886 rfl _) hce hcv hcl ?_
      refine lv_astore_n (lv' := [(3, .ref q9), (0, .ref (xa X 165)), (1, .int a2), (2, .ref (xa X 197))]) hx hb dL_renderVault_12 rfl hl (by decide) rfl (fun ls hl => ?_)
      refine lv_iconst (v := 1) hx hb dL_renderVault_13 (by decide) ?_
      exact end_i hx hb hr hlk rfl hw hP hD hS dL_renderVault_14
    · replace hw := ite_f hw c2
      exact hw.elim
  · refine lv_i2l hx hb dL_renderVault_7 rfl ?_
    obtain ⟨y4, hw⟩ := hw
    refine last_14 hx hb hE hP hD hS y4 dL_renderVault_8 (fun G5 H locs eG5 hP hD hS => ?_)
    replace hw := hw G5 eG5
    refine lv_goto (tgt := 15) hx hb dL_renderVault_9 (by decide) ?_
    refine lv_iconst (v := 0) hx hb dL_renderVault_15 (by decide) ?_
    exact end_i hx hb hr hlk rfl hw hP hD hS dL_renderVault_16
def wpL_outputAt (post : Int32 → GS → Prop) (a2 : Int32) (G : GS) : Prop :=
  wpX8_outputAt (fun (r3 : Int32) (G1 : GS) =>
  vp_in 0 1 ∧ ∀ G5 : GS, G5 = gL G1 ((0 : Int32).toNatClampNeg) r3.toInt64 →
    post 0 G5) (fun (E : String) (G9 : GS) =>
  if E = "java/lang/IndexOutOfBoundsException" then
    post 1 G9
  else False) a2 G
set_option maxHeartbeats 4000000 in
set_option maxRecDepth 100000 in
theorem okL_outputAt (X : Cx) (l : Launch) (hfl : l.stackTraces = false) {post : Int32 → GS → Prop} {a2 : Int32} {G : GS}  (hw : wpL_outputAt post a2 G) : CTW X l yL_outputAt cL_outputAt 4 (some FieldType.int) [(0, 9, 12, 21)] 7 1 6 [.ref (xa X 165), .int a2, .ref (xa X 197)] G (Qi X post) := by
  refine mbeginW qw_1416 (by decide) (Nat.le_of_ble_eq_true rfl) (fun p e s m below meth c hx hb hr hml hlk hown htb hE hz ls hl hP hD hS => ?_)
  have hl : lv_has ls 4 [(0, .ref (xa X 165)), (1, .int a2), (2, .ref (xa X 197))] := hl
  have hown : s.vm.findClass "FlyTreasuryLaw" = some m.cls := hown
  unfold wpL_outputAt at hw
  refine lv_aload_n hx hb dL_outputAt_0 rfl (lv_at hl 2 rfl) ?_
  refine lv_iconst (v := 0) hx hb dL_outputAt_1 (by decide) ?_
  refine lv_aload_n hx hb dL_outputAt_2 rfl (lv_at hl 0 rfl) ?_
  refine lv_iload_n hx hb dL_outputAt_3 rfl (lv_at hl 1 rfl) ?_
  refine xcall_i (xrun_V (cc := cL_outputAt) (As := [.int a2]) (rest := [.int 0, .ref (xa X 197)]) hx hb hml hown hE hz (okX8_outputAt X l hfl  hw) qw_1417 qw_1418 qw_1419 qw_74 qw_1420 (myX8_outputAt) ⟨Nat.le_of_ble_eq_true rfl, Nat.le_of_ble_eq_true rfl⟩ (rv_X8 hE hP rfl) hP hD hS rfl hl.1 rfl (Nat.le_of_ble_eq_true rfl) dL_outputAt_4 ⟨Nat.le_of_ble_eq_true rfl, Nat.le_of_ble_eq_true rfl⟩) hS (fun E ce q9 G9 H locs hw hP hD hS hce hcv hcl => ?_) (fun r3 G1 H locs hw hP hD hS => ?_)
  · by_cases c2 : E = "java/lang/IndexOutOfBoundsException"
    · replace hw := ite_t hw c2
      subst c2
      refine vx_catch hown [] ⟨0, 9, 12, 21⟩ [] htb (List.forall_mem_nil _) (by decide) (by decide) (hE.w qw_945 rfl _) (hE.w qw_886 rfl _) hce hcv hcl ?_
      refine lv_astore_n (lv' := [(3, .ref q9), (0, .ref (xa X 165)), (1, .int a2), (2, .ref (xa X 197))]) hx hb dL_outputAt_12 rfl hl (by decide) rfl (fun ls hl => ?_)
      refine lv_iconst (v := 1) hx hb dL_outputAt_13 (by decide) ?_
      exact end_i hx hb hr hlk rfl hw hP hD hS dL_outputAt_14
    · replace hw := ite_f hw c2
      exact hw.elim
  · refine lv_i2l hx hb dL_outputAt_7 rfl ?_
    obtain ⟨y4, hw⟩ := hw
    refine last_14 hx hb hE hP hD hS y4 dL_outputAt_8 (fun G5 H locs eG5 hP hD hS => ?_)
    replace hw := hw G5 eG5
    refine lv_goto (tgt := 15) hx hb dL_outputAt_9 (by decide) ?_
    refine lv_iconst (v := 0) hx hb dL_outputAt_15 (by decide) ?_
    exact end_i hx hb hr hlk rfl hw hP hD hS dL_outputAt_16
def wpL_type (post : Int32 → GS → Prop) (a2 : Int32) (G : GS) : Prop :=
  wpX8_type (fun (r4 : Int32) (G1 : GS) =>
  vp_in 0 1 ∧ ∀ G6 : GS, G6 = gL G1 ((0 : Int32).toNatClampNeg) r4.toInt64 →
    post 0 G6) (fun (E : String) (G9 : GS) =>
  if E = "java/lang/IllegalArgumentException" then
    post 1 G9
  else if E = "java/lang/IllegalStateException" then
    post 2 G9
  else False) a2 G
set_option maxHeartbeats 4000000 in
set_option maxRecDepth 100000 in
theorem okL_type (X : Cx) (l : Launch) (hfl : l.stackTraces = false) {post : Int32 → GS → Prop} {a2 : Int32} {G : GS}  (hw : wpL_type post a2 G) : CTW X l yL_type cL_type 4 (some FieldType.int) [(0, 9, 12, 13), (0, 9, 15, 15)] 7 1 6 [.ref (xa X 165), .int a2, .ref (xa X 197)] G (Qi X post) := by
  refine mbeginW qw_1434 (by decide) (Nat.le_of_ble_eq_true rfl) (fun p e s m below meth c hx hb hr hml hlk hown htb hE hz ls hl hP hD hS => ?_)
  have hl : lv_has ls 4 [(0, .ref (xa X 165)), (1, .int a2), (2, .ref (xa X 197))] := hl
  have hown : s.vm.findClass "FlyTreasuryLaw" = some m.cls := hown
  unfold wpL_type at hw
  refine lv_aload_n hx hb dL_type_0 rfl (lv_at hl 2 rfl) ?_
  refine lv_iconst (v := 0) hx hb dL_type_1 (by decide) ?_
  refine lv_aload_n hx hb dL_type_2 rfl (lv_at hl 0 rfl) ?_
  refine lv_iload_n hx hb dL_type_3 rfl (lv_at hl 1 rfl) ?_
  refine xcall_i (xrun_V (cc := cL_type) (As := [.int a2]) (rest := [.int 0, .ref (xa X 197)]) hx hb hml hown hE hz (okX8_type X l hfl  hw) qw_1435 qw_1436 qw_1437 qw_74 qw_1438 (myX8_type) ⟨Nat.le_of_ble_eq_true rfl, Nat.le_of_ble_eq_true rfl⟩ (rv_X8 hE hP rfl) hP hD hS rfl hl.1 rfl (Nat.le_of_ble_eq_true rfl) dL_type_4 ⟨Nat.le_of_ble_eq_true rfl, Nat.le_of_ble_eq_true rfl⟩) hS (fun E ce q9 G9 H locs hw hP hD hS hce hcv hcl => ?_) (fun r4 G1 H locs hw hP hD hS => ?_)
  · by_cases c2 : E = "java/lang/IllegalArgumentException"
    · replace hw := ite_t hw c2
      subst c2
      refine vx_catch hown [] ⟨0, 9, 12, 13⟩ [⟨0, 9, 15, 15⟩] htb (List.forall_mem_nil _) (by decide) (by decide) (hE.w qw_854 rfl _) (hE.w qw_648 rfl _) hce hcv hcl ?_
      refine lv_astore_n (lv' := [(3, .ref q9), (0, .ref (xa X 165)), (1, .int a2), (2, .ref (xa X 197))]) hx hb dL_type_12 rfl hl (by decide) rfl (fun ls hl => ?_)
      refine lv_iconst (v := 1) hx hb dL_type_13 (by decide) ?_
      exact end_i hx hb hr hlk rfl hw hP hD hS dL_type_14
    · replace hw := ite_f hw c2
      by_cases c3 : E = "java/lang/IllegalStateException"
      · replace hw := ite_t hw c3
        subst c3
        refine vx_catch hown [⟨0, 9, 12, 13⟩] ⟨0, 9, 15, 15⟩ [] htb (List.forall_mem_cons.mpr ⟨Or.inr ⟨by decide, "java/lang/IllegalArgumentException", hE.w qw_854 rfl _, hE.2.2.2.2 ("java/lang/IllegalStateException", "java/lang/IllegalArgumentException") (List.mem_of_getElem? (i := 11) rfl)⟩, List.forall_mem_nil _⟩) (by decide) (by decide) (hE.w qw_855 rfl _) (hE.w qw_902 rfl _) hce hcv hcl ?_
        refine lv_astore_n (lv' := [(3, .ref q9), (0, .ref (xa X 165)), (1, .int a2), (2, .ref (xa X 197))]) hx hb dL_type_15 rfl hl (by decide) rfl (fun ls hl => ?_)
        refine lv_iconst (v := 2) hx hb dL_type_16 (by decide) ?_
        exact end_i hx hb hr hlk rfl hw hP hD hS dL_type_17
      · replace hw := ite_f hw c3
        exact hw.elim
  · refine lv_i2l hx hb dL_type_7 rfl ?_
    obtain ⟨y5, hw⟩ := hw
    refine last_14 hx hb hE hP hD hS y5 dL_type_8 (fun G6 H locs eG6 hP hD hS => ?_)
    replace hw := hw G6 eG6
    refine lv_goto (tgt := 18) hx hb dL_type_9 (by decide) ?_
    refine lv_iconst (v := 0) hx hb dL_type_18 (by decide) ?_
    exact end_i hx hb hr hlk rfl hw hP hD hS dL_type_19
def wpL_runScript (post : Int32 → GS → Prop) (G : GS) : Prop :=
  wpX8_runScript (fun (r4 : Int32) (G1 : GS) =>
  vp_in 0 1 ∧ ∀ G6 : GS, G6 = gL G1 ((0 : Int32).toNatClampNeg) r4.toInt64 →
    post 0 G6) (fun (E : String) (G9 : GS) =>
  if E = "java/lang/IllegalArgumentException" then
    post 1 G9
  else if E = "java/lang/IllegalStateException" then
    post 2 G9
  else False)  G
set_option maxHeartbeats 4000000 in
set_option maxRecDepth 100000 in
theorem okL_runScript (X : Cx) (l : Launch) (hfl : l.stackTraces = false) {post : Int32 → GS → Prop}  {G : GS}  (hw : wpL_runScript post G) : CTW X l yL_runScript cL_runScript 3 (some FieldType.int) [(0, 8, 11, 13), (0, 8, 14, 15)] 11 1 6 [.ref (xa X 165), .ref (xa X 197)] G (Qi X post) := by
  refine mbeginW qw_1447 (by decide) (Nat.le_of_ble_eq_true rfl) (fun p e s m below meth c hx hb hr hml hlk hown htb hE hz ls hl hP hD hS => ?_)
  have hl : lv_has ls 3 [(0, .ref (xa X 165)), (1, .ref (xa X 197))] := hl
  have hown : s.vm.findClass "FlyTreasuryLaw" = some m.cls := hown
  unfold wpL_runScript at hw
  refine lv_aload_n hx hb dL_runScript_0 rfl (lv_at hl 1 rfl) ?_
  refine lv_iconst (v := 0) hx hb dL_runScript_1 (by decide) ?_
  refine lv_aload_n hx hb dL_runScript_2 rfl (lv_at hl 0 rfl) ?_
  refine xcall_i (xrun_V (cc := cL_runScript) (As := []) (rest := [.int 0, .ref (xa X 197)]) hx hb hml hown hE hz (okX8_runScript X l hfl  hw) qw_1448 qw_1449 qw_1450 qw_74 qw_1451 (myX8_runScript) ⟨Nat.le_of_ble_eq_true rfl, Nat.le_of_ble_eq_true rfl⟩ (rv_X8 hE hP rfl) hP hD hS rfl hl.1 rfl (Nat.le_of_ble_eq_true rfl) dL_runScript_3 ⟨Nat.le_of_ble_eq_true rfl, Nat.le_of_ble_eq_true rfl⟩) hS (fun E ce q9 G9 H locs hw hP hD hS hce hcv hcl => ?_) (fun r4 G1 H locs hw hP hD hS => ?_)
  · by_cases c2 : E = "java/lang/IllegalArgumentException"
    · replace hw := ite_t hw c2
      subst c2
      refine vx_catch hown [] ⟨0, 8, 11, 13⟩ [⟨0, 8, 14, 15⟩] htb (List.forall_mem_nil _) (by decide) (by decide) (hE.w qw_854 rfl _) (hE.w qw_648 rfl _) hce hcv hcl ?_
      refine lv_astore_n (lv' := [(2, .ref q9), (0, .ref (xa X 165)), (1, .ref (xa X 197))]) hx hb dL_runScript_11 rfl hl (by decide) rfl (fun ls hl => ?_)
      refine lv_iconst (v := 1) hx hb dL_runScript_12 (by decide) ?_
      exact end_i hx hb hr hlk rfl hw hP hD hS dL_runScript_13
    · replace hw := ite_f hw c2
      by_cases c3 : E = "java/lang/IllegalStateException"
      · replace hw := ite_t hw c3
        subst c3
        refine vx_catch hown [⟨0, 8, 11, 13⟩] ⟨0, 8, 14, 15⟩ [] htb (List.forall_mem_cons.mpr ⟨Or.inr ⟨by decide, "java/lang/IllegalArgumentException", hE.w qw_854 rfl _, hE.2.2.2.2 ("java/lang/IllegalStateException", "java/lang/IllegalArgumentException") (List.mem_of_getElem? (i := 11) rfl)⟩, List.forall_mem_nil _⟩) (by decide) (by decide) (hE.w qw_855 rfl _) (hE.w qw_902 rfl _) hce hcv hcl ?_
        refine lv_astore_n (lv' := [(2, .ref q9), (0, .ref (xa X 165)), (1, .ref (xa X 197))]) hx hb dL_runScript_14 rfl hl (by decide) rfl (fun ls hl => ?_)
        refine lv_iconst (v := 2) hx hb dL_runScript_15 (by decide) ?_
        exact end_i hx hb hr hlk rfl hw hP hD hS dL_runScript_16
      · replace hw := ite_f hw c3
        exact hw.elim
  · refine lv_i2l hx hb dL_runScript_6 rfl ?_
    obtain ⟨y5, hw⟩ := hw
    refine last_14 hx hb hE hP hD hS y5 dL_runScript_7 (fun G6 H locs eG6 hP hD hS => ?_)
    replace hw := hw G6 eG6
    refine lv_goto (tgt := 17) hx hb dL_runScript_8 (by decide) ?_
    refine lv_iconst (v := 0) hx hb dL_runScript_17 (by decide) ?_
    exact end_i hx hb hr hlk rfl hw hP hD hS dL_runScript_18
def wpL_errorPosition (post : Int32 → GS → Prop) (G : GS) : Prop :=
  wpX8_errorPosition (fun (r3 : Int32) (G1 : GS) =>
  vp_in 0 1 ∧ ∀ G5 : GS, G5 = gL G1 ((0 : Int32).toNatClampNeg) r3.toInt64 →
    post 0 G5) (fun (E : String) (G9 : GS) =>
  if E = "java/util/NoSuchElementException" then
    post 1 G9
  else False)  G
set_option maxHeartbeats 4000000 in
set_option maxRecDepth 100000 in
theorem okL_errorPosition (X : Cx) (l : Launch) (hfl : l.stackTraces = false) {post : Int32 → GS → Prop}  {G : GS}  (hw : wpL_errorPosition post G) : CTW X l yL_errorPosition cL_errorPosition 3 (some FieldType.int) [(0, 8, 11, 75)] 7 1 6 [.ref (xa X 165), .ref (xa X 197)] G (Qi X post) := by
  refine mbeginW qw_1526 (by decide) (Nat.le_of_ble_eq_true rfl) (fun p e s m below meth c hx hb hr hml hlk hown htb hE hz ls hl hP hD hS => ?_)
  have hl : lv_has ls 3 [(0, .ref (xa X 165)), (1, .ref (xa X 197))] := hl
  have hown : s.vm.findClass "FlyTreasuryLaw" = some m.cls := hown
  unfold wpL_errorPosition at hw
  refine lv_aload_n hx hb dL_errorPosition_0 rfl (lv_at hl 1 rfl) ?_
  refine lv_iconst (v := 0) hx hb dL_errorPosition_1 (by decide) ?_
  refine lv_aload_n hx hb dL_errorPosition_2 rfl (lv_at hl 0 rfl) ?_
  refine xcall_i (xrun_V (cc := cL_errorPosition) (As := []) (rest := [.int 0, .ref (xa X 197)]) hx hb hml hown hE hz (okX8_errorPosition X l hfl  hw) qw_1527 qw_1528 qw_1529 qw_74 qw_1530 (myX8_errorPosition) ⟨Nat.le_of_ble_eq_true rfl, Nat.le_of_ble_eq_true rfl⟩ (rv_X8 hE hP rfl) hP hD hS rfl hl.1 rfl (Nat.le_of_ble_eq_true rfl) dL_errorPosition_3 ⟨Nat.le_of_ble_eq_true rfl, Nat.le_of_ble_eq_true rfl⟩) hS (fun E ce q9 G9 H locs hw hP hD hS hce hcv hcl => ?_) (fun r3 G1 H locs hw hP hD hS => ?_)
  · by_cases c2 : E = "java/util/NoSuchElementException"
    · replace hw := ite_t hw c2
      subst c2
      refine vx_catch hown [] ⟨0, 8, 11, 75⟩ [] htb (List.forall_mem_nil _) (by decide) (by decide) (hE.w qw_1229 rfl _) (hE.w qw_1236 rfl _) hce hcv hcl ?_
      refine lv_astore_n (lv' := [(2, .ref q9), (0, .ref (xa X 165)), (1, .ref (xa X 197))]) hx hb dL_errorPosition_11 rfl hl (by decide) rfl (fun ls hl => ?_)
      refine lv_iconst (v := 1) hx hb dL_errorPosition_12 (by decide) ?_
      exact end_i hx hb hr hlk rfl hw hP hD hS dL_errorPosition_13
    · replace hw := ite_f hw c2
      exact hw.elim
  · refine lv_i2l hx hb dL_errorPosition_6 rfl ?_
    obtain ⟨y4, hw⟩ := hw
    refine last_14 hx hb hE hP hD hS y4 dL_errorPosition_7 (fun G5 H locs eG5 hP hD hS => ?_)
    replace hw := hw G5 eG5
    refine lv_goto (tgt := 14) hx hb dL_errorPosition_8 (by decide) ?_
    refine lv_iconst (v := 0) hx hb dL_errorPosition_14 (by decide) ?_
    exact end_i hx hb hr hlk rfl hw hP hD hS dL_errorPosition_15
def wpL_failedCommand (post : Int32 → GS → Prop) (G : GS) : Prop :=
  wpX8_failedCommand (fun (r3 : Int32) (G1 : GS) =>
  vp_in 0 1 ∧ ∀ G5 : GS, G5 = gL G1 ((0 : Int32).toNatClampNeg) r3.toInt64 →
    post 0 G5) (fun (E : String) (G9 : GS) =>
  if E = "java/util/NoSuchElementException" then
    post 1 G9
  else False)  G
set_option maxHeartbeats 4000000 in
set_option maxRecDepth 100000 in
theorem okL_failedCommand (X : Cx) (l : Launch) (hfl : l.stackTraces = false) {post : Int32 → GS → Prop}  {G : GS}  (hw : wpL_failedCommand post G) : CTW X l yL_failedCommand cL_failedCommand 3 (some FieldType.int) [(0, 8, 11, 75)] 7 1 6 [.ref (xa X 165), .ref (xa X 197)] G (Qi X post) := by
  refine mbeginW qw_1534 (by decide) (Nat.le_of_ble_eq_true rfl) (fun p e s m below meth c hx hb hr hml hlk hown htb hE hz ls hl hP hD hS => ?_)
  have hl : lv_has ls 3 [(0, .ref (xa X 165)), (1, .ref (xa X 197))] := hl
  have hown : s.vm.findClass "FlyTreasuryLaw" = some m.cls := hown
  unfold wpL_failedCommand at hw
  refine lv_aload_n hx hb dL_failedCommand_0 rfl (lv_at hl 1 rfl) ?_
  refine lv_iconst (v := 0) hx hb dL_failedCommand_1 (by decide) ?_
  refine lv_aload_n hx hb dL_failedCommand_2 rfl (lv_at hl 0 rfl) ?_
  refine xcall_i (xrun_V (cc := cL_failedCommand) (As := []) (rest := [.int 0, .ref (xa X 197)]) hx hb hml hown hE hz (okX8_failedCommand X l hfl  hw) qw_1535 qw_1536 qw_1537 qw_74 qw_1538 (myX8_failedCommand) ⟨Nat.le_of_ble_eq_true rfl, Nat.le_of_ble_eq_true rfl⟩ (rv_X8 hE hP rfl) hP hD hS rfl hl.1 rfl (Nat.le_of_ble_eq_true rfl) dL_failedCommand_3 ⟨Nat.le_of_ble_eq_true rfl, Nat.le_of_ble_eq_true rfl⟩) hS (fun E ce q9 G9 H locs hw hP hD hS hce hcv hcl => ?_) (fun r3 G1 H locs hw hP hD hS => ?_)
  · by_cases c2 : E = "java/util/NoSuchElementException"
    · replace hw := ite_t hw c2
      subst c2
      refine vx_catch hown [] ⟨0, 8, 11, 75⟩ [] htb (List.forall_mem_nil _) (by decide) (by decide) (hE.w qw_1229 rfl _) (hE.w qw_1236 rfl _) hce hcv hcl ?_
      refine lv_astore_n (lv' := [(2, .ref q9), (0, .ref (xa X 165)), (1, .ref (xa X 197))]) hx hb dL_failedCommand_11 rfl hl (by decide) rfl (fun ls hl => ?_)
      refine lv_iconst (v := 1) hx hb dL_failedCommand_12 (by decide) ?_
      exact end_i hx hb hr hlk rfl hw hP hD hS dL_failedCommand_13
    · replace hw := ite_f hw c2
      exact hw.elim
  · refine lv_i2l hx hb dL_failedCommand_6 rfl ?_
    obtain ⟨y4, hw⟩ := hw
    refine last_14 hx hb hE hP hD hS y4 dL_failedCommand_7 (fun G5 H locs eG5 hP hD hS => ?_)
    replace hw := hw G5 eG5
    refine lv_goto (tgt := 14) hx hb dL_failedCommand_8 (by decide) ?_
    refine lv_iconst (v := 0) hx hb dL_failedCommand_14 (by decide) ?_
    exact end_i hx hb hr hlk rfl hw hP hD hS dL_failedCommand_15
def wpL_undo (post : Int32 → GS → Prop) (G : GS) : Prop :=
  wpX8_undo (fun (r3 : Int32) (G1 : GS) =>
  vp_in 0 1 ∧ ∀ G5 : GS, G5 = gL G1 ((0 : Int32).toNatClampNeg) r3.toInt64 →
    post 0 G5) (fun (E : String) (G9 : GS) =>
  if E = "java/lang/IllegalStateException" then
    post 1 G9
  else False)  G
set_option maxHeartbeats 4000000 in
set_option maxRecDepth 100000 in
theorem okL_undo (X : Cx) (l : Launch) (hfl : l.stackTraces = false) {post : Int32 → GS → Prop}  {G : GS}  (hw : wpL_undo post G) : CTW X l yL_undo cL_undo 3 (some FieldType.int) [(0, 8, 11, 15)] 7 1 6 [.ref (xa X 165), .ref (xa X 197)] G (Qi X post) := by
  refine mbeginW qw_1542 (by decide) (Nat.le_of_ble_eq_true rfl) (fun p e s m below meth c hx hb hr hml hlk hown htb hE hz ls hl hP hD hS => ?_)
  have hl : lv_has ls 3 [(0, .ref (xa X 165)), (1, .ref (xa X 197))] := hl
  have hown : s.vm.findClass "FlyTreasuryLaw" = some m.cls := hown
  unfold wpL_undo at hw
  refine lv_aload_n hx hb dL_undo_0 rfl (lv_at hl 1 rfl) ?_
  refine lv_iconst (v := 0) hx hb dL_undo_1 (by decide) ?_
  refine lv_aload_n hx hb dL_undo_2 rfl (lv_at hl 0 rfl) ?_
  refine xcall_i (xrun_V (cc := cL_undo) (As := []) (rest := [.int 0, .ref (xa X 197)]) hx hb hml hown hE hz (okX8_undo X l hfl  hw) qw_1543 qw_1544 qw_1545 qw_74 qw_1546 (myX8_undo) ⟨Nat.le_of_ble_eq_true rfl, Nat.le_of_ble_eq_true rfl⟩ (rv_X8 hE hP rfl) hP hD hS rfl hl.1 rfl (Nat.le_of_ble_eq_true rfl) dL_undo_3 ⟨Nat.le_of_ble_eq_true rfl, Nat.le_of_ble_eq_true rfl⟩) hS (fun E ce q9 G9 H locs hw hP hD hS hce hcv hcl => ?_) (fun r3 G1 H locs hw hP hD hS => ?_)
  · by_cases c2 : E = "java/lang/IllegalStateException"
    · replace hw := ite_t hw c2
      subst c2
      refine vx_catch hown [] ⟨0, 8, 11, 15⟩ [] htb (List.forall_mem_nil _) (by decide) (by decide) (hE.w qw_855 rfl _) (hE.w qw_902 rfl _) hce hcv hcl ?_
      refine lv_astore_n (lv' := [(2, .ref q9), (0, .ref (xa X 165)), (1, .ref (xa X 197))]) hx hb dL_undo_11 rfl hl (by decide) rfl (fun ls hl => ?_)
      refine lv_iconst (v := 1) hx hb dL_undo_12 (by decide) ?_
      exact end_i hx hb hr hlk rfl hw hP hD hS dL_undo_13
    · replace hw := ite_f hw c2
      exact hw.elim
  · refine lv_i2l hx hb dL_undo_6 rfl ?_
    obtain ⟨y4, hw⟩ := hw
    refine last_14 hx hb hE hP hD hS y4 dL_undo_7 (fun G5 H locs eG5 hP hD hS => ?_)
    replace hw := hw G5 eG5
    refine lv_goto (tgt := 14) hx hb dL_undo_8 (by decide) ?_
    refine lv_iconst (v := 0) hx hb dL_undo_14 (by decide) ?_
    exact end_i hx hb hr hlk rfl hw hP hD hS dL_undo_15
def wpL_restore (post : Int32 → GS → Prop) (G : GS) : Prop :=
  wpX8_restore (fun (r3 : Int32) (G1 : GS) =>
  vp_in 0 1 ∧ ∀ G5 : GS, G5 = gL G1 ((0 : Int32).toNatClampNeg) r3.toInt64 →
    post 0 G5) (fun (E : String) (G9 : GS) =>
  if E = "java/lang/IllegalStateException" then
    post 1 G9
  else False)  G
set_option maxHeartbeats 4000000 in
set_option maxRecDepth 100000 in
theorem okL_restore (X : Cx) (l : Launch) (hfl : l.stackTraces = false) {post : Int32 → GS → Prop}  {G : GS}  (hw : wpL_restore post G) : CTW X l yL_restore cL_restore 3 (some FieldType.int) [(0, 8, 11, 15)] 7 1 6 [.ref (xa X 165), .ref (xa X 197)] G (Qi X post) := by
  refine mbeginW qw_1554 (by decide) (Nat.le_of_ble_eq_true rfl) (fun p e s m below meth c hx hb hr hml hlk hown htb hE hz ls hl hP hD hS => ?_)
  have hl : lv_has ls 3 [(0, .ref (xa X 165)), (1, .ref (xa X 197))] := hl
  have hown : s.vm.findClass "FlyTreasuryLaw" = some m.cls := hown
  unfold wpL_restore at hw
  refine lv_aload_n hx hb dL_restore_0 rfl (lv_at hl 1 rfl) ?_
  refine lv_iconst (v := 0) hx hb dL_restore_1 (by decide) ?_
  refine lv_aload_n hx hb dL_restore_2 rfl (lv_at hl 0 rfl) ?_
  refine xcall_i (xrun_V (cc := cL_restore) (As := []) (rest := [.int 0, .ref (xa X 197)]) hx hb hml hown hE hz (okX8_restore X l hfl  hw) qw_1555 qw_1556 qw_1557 qw_74 qw_1558 (myX8_restore) ⟨Nat.le_of_ble_eq_true rfl, Nat.le_of_ble_eq_true rfl⟩ (rv_X8 hE hP rfl) hP hD hS rfl hl.1 rfl (Nat.le_of_ble_eq_true rfl) dL_restore_3 ⟨Nat.le_of_ble_eq_true rfl, Nat.le_of_ble_eq_true rfl⟩) hS (fun E ce q9 G9 H locs hw hP hD hS hce hcv hcl => ?_) (fun r3 G1 H locs hw hP hD hS => ?_)
  · by_cases c2 : E = "java/lang/IllegalStateException"
    · replace hw := ite_t hw c2
      subst c2
      refine vx_catch hown [] ⟨0, 8, 11, 15⟩ [] htb (List.forall_mem_nil _) (by decide) (by decide) (hE.w qw_855 rfl _) (hE.w qw_902 rfl _) hce hcv hcl ?_
      refine lv_astore_n (lv' := [(2, .ref q9), (0, .ref (xa X 165)), (1, .ref (xa X 197))]) hx hb dL_restore_11 rfl hl (by decide) rfl (fun ls hl => ?_)
      refine lv_iconst (v := 1) hx hb dL_restore_12 (by decide) ?_
      exact end_i hx hb hr hlk rfl hw hP hD hS dL_restore_13
    · replace hw := ite_f hw c2
      exact hw.elim
  · refine lv_i2l hx hb dL_restore_6 rfl ?_
    obtain ⟨y4, hw⟩ := hw
    refine last_14 hx hb hE hP hD hS y4 dL_restore_7 (fun G5 H locs eG5 hP hD hS => ?_)
    replace hw := hw G5 eG5
    refine lv_goto (tgt := 14) hx hb dL_restore_8 (by decide) ?_
    refine lv_iconst (v := 0) hx hb dL_restore_14 (by decide) ?_
    exact end_i hx hb hr hlk rfl hw hP hD hS dL_restore_15
