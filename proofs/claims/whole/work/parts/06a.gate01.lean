def wpL_stickiness (post : Int32 → GS → Prop) (a2 : Int32) (G : GS) : Prop :=
  wpX8_stickiness (fun (r3 : Int32) (G1 : GS) =>
  vp_in 0 1 ∧ ∀ G5 : GS, G5 = gL G1 ((0 : Int32).toNatClampNeg) r3.toInt64 →
    post 0 G5) (fun (E : String) (G9 : GS) =>
  if E = "java/lang/IndexOutOfBoundsException" then
    post 1 G9
  else False) a2 G
set_option maxHeartbeats 4000000 in
set_option maxRecDepth 100000 in
theorem okL_stickiness (X : Cx) (l : Launch) (hfl : l.stackTraces = false) {post : Int32 → GS → Prop} {a2 : Int32} {G : GS}  (hw : wpL_stickiness post a2 G) : CTW X l yL_stickiness cL_stickiness 4 (some FieldType.int) [(0, 9, 12, 21)] 8 1 6 [.ref (xa X 165), .int a2, .ref (xa X 197)] G (Qi X post) := by
  refine mbeginW qw_1213 (by decide) (Nat.le_of_ble_eq_true rfl) (fun p e s m below meth c hx hb hr hml hlk hown htb hE hz ls hl hP hD hS => ?_)
  have hl : lv_has ls 4 [(0, .ref (xa X 165)), (1, .int a2), (2, .ref (xa X 197))] := hl
  have hown : s.vm.findClass "FlyTreasuryLaw" = some m.cls := hown
  unfold wpL_stickiness at hw
  refine lv_aload_n hx hb dL_stickiness_0 rfl (lv_at hl 2 rfl) ?_
  refine lv_iconst (v := 0) hx hb dL_stickiness_1 (by decide) ?_
  refine lv_aload_n hx hb dL_stickiness_2 rfl (lv_at hl 0 rfl) ?_
  refine lv_iload_n hx hb dL_stickiness_3 rfl (lv_at hl 1 rfl) ?_
  refine xcall_i (xrun_V (cc := cL_stickiness) (As := [.int a2]) (rest := [.int 0, .ref (xa X 197)]) hx hb hml hown hE hz (okX8_stickiness X l hfl  hw) qw_1214 qw_1215 qw_1216 qw_74 qw_1217 (myX8_stickiness) ⟨Nat.le_of_ble_eq_true rfl, Nat.le_of_ble_eq_true rfl⟩ (rv_X8 hE hP rfl) hP hD hS rfl hl.1 rfl (Nat.le_of_ble_eq_true rfl) dL_stickiness_4 ⟨Nat.le_of_ble_eq_true rfl, Nat.le_of_ble_eq_true rfl⟩) hS (fun E ce q9 G9 H locs hw hP hD hS hce hcv hcl => ?_) (fun r3 G1 H locs hw hP hD hS => ?_)
  · by_cases c2 : E = "java/lang/IndexOutOfBoundsException"
    · replace hw := ite_t hw c2
      subst c2
      refine vx_catch hown [] ⟨0, 9, 12, 21⟩ [] htb (List.forall_mem_nil _) (by decide) (by decide) (hE.w qw_945 rfl _) (hE.w qw_886 rfl _) hce hcv hcl ?_
      refine lv_astore_n (lv' := [(3, .ref q9), (0, .ref (xa X 165)), (1, .int a2), (2, .ref (xa X 197))]) hx hb dL_stickiness_12 rfl hl (by decide) rfl (fun ls hl => ?_)
      refine lv_iconst (v := 1) hx hb dL_stickiness_13 (by decide) ?_
      exact end_i hx hb hr hlk rfl hw hP hD hS dL_stickiness_14
    · replace hw := ite_f hw c2
      exact hw.elim
  · refine lv_i2l hx hb dL_stickiness_7 rfl ?_
    obtain ⟨y4, hw⟩ := hw
    refine last_14 hx hb hE hP hD hS y4 dL_stickiness_8 (fun G5 H locs eG5 hP hD hS => ?_)
    replace hw := hw G5 eG5
    refine lv_goto (tgt := 15) hx hb dL_stickiness_9 (by decide) ?_
    refine lv_iconst (v := 0) hx hb dL_stickiness_15 (by decide) ?_
    exact end_i hx hb hr hlk rfl hw hP hD hS dL_stickiness_16
def wpL_isFrozen (post : Int32 → GS → Prop) (a2 : Int32) (G : GS) : Prop :=
  wpX8_isFrozen (fun (r3 : Int32) (G1 : GS) =>
  if r3 = 0 then
    vp_in 0 1 ∧ ∀ G6 : GS, G6 = gL G1 ((0 : Int32).toNatClampNeg) 0 →
      post 0 G6
  else
    vp_in 0 1 ∧ ∀ G8 : GS, G8 = gL G1 ((0 : Int32).toNatClampNeg) 1 →
      post 0 G8) (fun (E : String) (G9 : GS) =>
  if E = "java/lang/IndexOutOfBoundsException" then
    post 1 G9
  else False) a2 G
set_option maxHeartbeats 4000000 in
set_option maxRecDepth 100000 in
theorem okL_isFrozen (X : Cx) (l : Launch) (hfl : l.stackTraces = false) {post : Int32 → GS → Prop} {a2 : Int32} {G : GS}  (hw : wpL_isFrozen post a2 G) : CTW X l yL_isFrozen cL_isFrozen 4 (some FieldType.int) [(0, 16, 19, 21)] 8 1 6 [.ref (xa X 165), .int a2, .ref (xa X 197)] G (Qi X post) := by
  refine mbeginW qw_1220 (by decide) (Nat.le_of_ble_eq_true rfl) (fun p e s m below meth c hx hb hr hml hlk hown htb hE hz ls hl hP hD hS => ?_)
  have hl : lv_has ls 4 [(0, .ref (xa X 165)), (1, .int a2), (2, .ref (xa X 197))] := hl
  have hown : s.vm.findClass "FlyTreasuryLaw" = some m.cls := hown
  unfold wpL_isFrozen at hw
  refine lv_aload_n hx hb dL_isFrozen_0 rfl (lv_at hl 2 rfl) ?_
  refine lv_iconst (v := 0) hx hb dL_isFrozen_1 (by decide) ?_
  refine lv_aload_n hx hb dL_isFrozen_2 rfl (lv_at hl 0 rfl) ?_
  refine lv_iload_n hx hb dL_isFrozen_3 rfl (lv_at hl 1 rfl) ?_
  refine xcall_i (xrun_V (cc := cL_isFrozen) (As := [.int a2]) (rest := [.int 0, .ref (xa X 197)]) hx hb hml hown hE hz (okX8_isFrozen X l hfl  hw) qw_1221 qw_1222 qw_1223 qw_74 qw_1224 (myX8_isFrozen) ⟨Nat.le_of_ble_eq_true rfl, Nat.le_of_ble_eq_true rfl⟩ (rv_X8 hE hP rfl) hP hD hS rfl hl.1 rfl (Nat.le_of_ble_eq_true rfl) dL_isFrozen_4 ⟨Nat.le_of_ble_eq_true rfl, Nat.le_of_ble_eq_true rfl⟩) hS (fun E ce q9 G9 H locs hw hP hD hS hce hcv hcl => ?_) (fun r3 G1 H locs hw hP hD hS => ?_)
  · by_cases c2 : E = "java/lang/IndexOutOfBoundsException"
    · replace hw := ite_t hw c2
      subst c2
      refine vx_catch hown [] ⟨0, 16, 19, 21⟩ [] htb (List.forall_mem_nil _) (by decide) (by decide) (hE.w qw_945 rfl _) (hE.w qw_886 rfl _) hce hcv hcl ?_
      refine lv_astore_n (lv' := [(3, .ref q9), (0, .ref (xa X 165)), (1, .int a2), (2, .ref (xa X 197))]) hx hb dL_isFrozen_19 rfl hl (by decide) rfl (fun ls hl => ?_)
      refine lv_iconst (v := 1) hx hb dL_isFrozen_20 (by decide) ?_
      exact end_i hx hb hr hlk rfl hw hP hD hS dL_isFrozen_21
    · replace hw := ite_f hw c2
      exact hw.elim
  · refine lv_if_eq (tgt := 14) hx hb dL_isFrozen_7 (by decide) (fun c4 => ?_) (fun c4 => ?_)
    · replace hw := ite_t hw c4
      refine lv_lconst (v := 0) hx hb dL_isFrozen_14 (by decide) ?_
      obtain ⟨y5, hw⟩ := hw
      refine last_14 hx hb hE hP hD hS y5 dL_isFrozen_15 (fun G6 H locs eG6 hP hD hS => ?_)
      replace hw := hw G6 eG6
      refine lv_goto (tgt := 22) hx hb dL_isFrozen_16 (by decide) ?_
      refine lv_iconst (v := 0) hx hb dL_isFrozen_22 (by decide) ?_
      exact end_i hx hb hr hlk rfl hw hP hD hS dL_isFrozen_23
    · replace hw := ite_f hw c4
      refine lv_lconst (v := 1) hx hb dL_isFrozen_10 (by decide) ?_
      refine lv_goto (tgt := 15) hx hb dL_isFrozen_11 (by decide) ?_
      obtain ⟨y7, hw⟩ := hw
      refine last_14 hx hb hE hP hD hS y7 dL_isFrozen_15 (fun G8 H locs eG8 hP hD hS => ?_)
      replace hw := hw G8 eG8
      refine lv_goto (tgt := 22) hx hb dL_isFrozen_16 (by decide) ?_
      refine lv_iconst (v := 0) hx hb dL_isFrozen_22 (by decide) ?_
      exact end_i hx hb hr hlk rfl hw hP hD hS dL_isFrozen_23
def wpL_daysUntilThaw (post : Int32 → GS → Prop) (a2 : Int32) (G : GS) : Prop :=
  wpX8_daysUntilThaw (fun (r4 : Int32) (G1 : GS) =>
  vp_in 0 1 ∧ ∀ G6 : GS, G6 = gL G1 ((0 : Int32).toNatClampNeg) r4.toInt64 →
    post 0 G6) (fun (E : String) (G9 : GS) =>
  if E = "java/lang/IndexOutOfBoundsException" then
    post 1 G9
  else if E = "java/util/NoSuchElementException" then
    post 2 G9
  else False) a2 G
set_option maxHeartbeats 4000000 in
set_option maxRecDepth 100000 in
theorem okL_daysUntilThaw (X : Cx) (l : Launch) (hfl : l.stackTraces = false) {post : Int32 → GS → Prop} {a2 : Int32} {G : GS}  (hw : wpL_daysUntilThaw post a2 G) : CTW X l yL_daysUntilThaw cL_daysUntilThaw 4 (some FieldType.int) [(0, 9, 12, 21), (0, 9, 15, 75)] 8 2 12 [.ref (xa X 165), .int a2, .ref (xa X 197)] G (Qi X post) := by
  refine mbeginW qw_1228 (by decide) (Nat.le_of_ble_eq_true rfl) (fun p e s m below meth c hx hb hr hml hlk hown htb hE hz ls hl hP hD hS => ?_)
  have hl : lv_has ls 4 [(0, .ref (xa X 165)), (1, .int a2), (2, .ref (xa X 197))] := hl
  have hown : s.vm.findClass "FlyTreasuryLaw" = some m.cls := hown
  unfold wpL_daysUntilThaw at hw
  refine lv_aload_n hx hb dL_daysUntilThaw_0 rfl (lv_at hl 2 rfl) ?_
  refine lv_iconst (v := 0) hx hb dL_daysUntilThaw_1 (by decide) ?_
  refine lv_aload_n hx hb dL_daysUntilThaw_2 rfl (lv_at hl 0 rfl) ?_
  refine lv_iload_n hx hb dL_daysUntilThaw_3 rfl (lv_at hl 1 rfl) ?_
  refine xcall_i (xrun_V (cc := cL_daysUntilThaw) (As := [.int a2]) (rest := [.int 0, .ref (xa X 197)]) hx hb hml hown hE hz (okX8_daysUntilThaw X l hfl  hw) qw_1230 qw_1231 qw_1232 qw_74 qw_1233 (myX8_daysUntilThaw) ⟨Nat.le_of_ble_eq_true rfl, Nat.le_of_ble_eq_true rfl⟩ (rv_X8 hE hP rfl) hP hD hS rfl hl.1 rfl (Nat.le_of_ble_eq_true rfl) dL_daysUntilThaw_4 ⟨Nat.le_of_ble_eq_true rfl, Nat.le_of_ble_eq_true rfl⟩) hS (fun E ce q9 G9 H locs hw hP hD hS hce hcv hcl => ?_) (fun r4 G1 H locs hw hP hD hS => ?_)
  · by_cases c2 : E = "java/lang/IndexOutOfBoundsException"
    · replace hw := ite_t hw c2
      subst c2
      refine vx_catch hown [] ⟨0, 9, 12, 21⟩ [⟨0, 9, 15, 75⟩] htb (List.forall_mem_nil _) (by decide) (by decide) (hE.w qw_945 rfl _) (hE.w qw_886 rfl _) hce hcv hcl ?_
      refine lv_astore_n (lv' := [(3, .ref q9), (0, .ref (xa X 165)), (1, .int a2), (2, .ref (xa X 197))]) hx hb dL_daysUntilThaw_12 rfl hl (by decide) rfl (fun ls hl => ?_)
      refine lv_iconst (v := 1) hx hb dL_daysUntilThaw_13 (by decide) ?_
      exact end_i hx hb hr hlk rfl hw hP hD hS dL_daysUntilThaw_14
    · replace hw := ite_f hw c2
      by_cases c3 : E = "java/util/NoSuchElementException"
      · replace hw := ite_t hw c3
        subst c3
        refine vx_catch hown [⟨0, 9, 12, 21⟩] ⟨0, 9, 15, 75⟩ [] htb (List.forall_mem_cons.mpr ⟨Or.inr ⟨by decide, "java/lang/IndexOutOfBoundsException", hE.w qw_945 rfl _, hE.2.2.2.2 ("java/util/NoSuchElementException", "java/lang/IndexOutOfBoundsException") (List.mem_of_getElem? (i := 20) rfl)⟩, List.forall_mem_nil _⟩) (by decide) (by decide) (hE.w qw_1229 rfl _) (hE.w qw_1236 rfl _) hce hcv hcl ?_
        refine lv_astore_n (lv' := [(3, .ref q9), (0, .ref (xa X 165)), (1, .int a2), (2, .ref (xa X 197))]) hx hb dL_daysUntilThaw_15 rfl hl (by decide) rfl (fun ls hl => ?_)
        refine lv_iconst (v := 2) hx hb dL_daysUntilThaw_16 (by decide) ?_
        exact end_i hx hb hr hlk rfl hw hP hD hS dL_daysUntilThaw_17
      · replace hw := ite_f hw c3
        exact hw.elim
  · refine lv_i2l hx hb dL_daysUntilThaw_7 rfl ?_
    obtain ⟨y5, hw⟩ := hw
    refine last_14 hx hb hE hP hD hS y5 dL_daysUntilThaw_8 (fun G6 H locs eG6 hP hD hS => ?_)
    replace hw := hw G6 eG6
    refine lv_goto (tgt := 18) hx hb dL_daysUntilThaw_9 (by decide) ?_
    refine lv_iconst (v := 0) hx hb dL_daysUntilThaw_18 (by decide) ?_
    exact end_i hx hb hr hlk rfl hw hP hD hS dL_daysUntilThaw_19
def wpL_value (post : Int32 → GS → Prop) (a2 : Int32) (G : GS) : Prop :=
  wpX8_value (fun (r3 : Int32) (G1 : GS) =>
  vp_in 0 1 ∧ ∀ G5 : GS, G5 = gL G1 ((0 : Int32).toNatClampNeg) r3.toInt64 →
    post 0 G5) (fun (E : String) (G9 : GS) =>
  if E = "java/lang/IndexOutOfBoundsException" then
    post 1 G9
  else False) a2 G
set_option maxHeartbeats 4000000 in
set_option maxRecDepth 100000 in
theorem okL_value (X : Cx) (l : Launch) (hfl : l.stackTraces = false) {post : Int32 → GS → Prop} {a2 : Int32} {G : GS}  (hw : wpL_value post a2 G) : CTW X l yL_value cL_value 4 (some FieldType.int) [(0, 9, 12, 21)] 8 1 6 [.ref (xa X 165), .int a2, .ref (xa X 197)] G (Qi X post) := by
  refine mbeginW qw_1252 (by decide) (Nat.le_of_ble_eq_true rfl) (fun p e s m below meth c hx hb hr hml hlk hown htb hE hz ls hl hP hD hS => ?_)
  have hl : lv_has ls 4 [(0, .ref (xa X 165)), (1, .int a2), (2, .ref (xa X 197))] := hl
  have hown : s.vm.findClass "FlyTreasuryLaw" = some m.cls := hown
  unfold wpL_value at hw
  refine lv_aload_n hx hb dL_value_0 rfl (lv_at hl 2 rfl) ?_
  refine lv_iconst (v := 0) hx hb dL_value_1 (by decide) ?_
  refine lv_aload_n hx hb dL_value_2 rfl (lv_at hl 0 rfl) ?_
  refine lv_iload_n hx hb dL_value_3 rfl (lv_at hl 1 rfl) ?_
  refine xcall_i (xrun_V (cc := cL_value) (As := [.int a2]) (rest := [.int 0, .ref (xa X 197)]) hx hb hml hown hE hz (okX8_value X l hfl  hw) qw_1253 qw_1254 qw_1255 qw_74 qw_1256 (myX8_value) ⟨Nat.le_of_ble_eq_true rfl, Nat.le_of_ble_eq_true rfl⟩ (rv_X8 hE hP rfl) hP hD hS rfl hl.1 rfl (Nat.le_of_ble_eq_true rfl) dL_value_4 ⟨Nat.le_of_ble_eq_true rfl, Nat.le_of_ble_eq_true rfl⟩) hS (fun E ce q9 G9 H locs hw hP hD hS hce hcv hcl => ?_) (fun r3 G1 H locs hw hP hD hS => ?_)
  · by_cases c2 : E = "java/lang/IndexOutOfBoundsException"
    · replace hw := ite_t hw c2
      subst c2
      refine vx_catch hown [] ⟨0, 9, 12, 21⟩ [] htb (List.forall_mem_nil _) (by decide) (by decide) (hE.w qw_945 rfl _) (hE.w qw_886 rfl _) hce hcv hcl ?_
      refine lv_astore_n (lv' := [(3, .ref q9), (0, .ref (xa X 165)), (1, .int a2), (2, .ref (xa X 197))]) hx hb dL_value_12 rfl hl (by decide) rfl (fun ls hl => ?_)
      refine lv_iconst (v := 1) hx hb dL_value_13 (by decide) ?_
      exact end_i hx hb hr hlk rfl hw hP hD hS dL_value_14
    · replace hw := ite_f hw c2
      exact hw.elim
  · refine lv_i2l hx hb dL_value_7 rfl ?_
    obtain ⟨y4, hw⟩ := hw
    refine last_14 hx hb hE hP hD hS y4 dL_value_8 (fun G5 H locs eG5 hP hD hS => ?_)
    replace hw := hw G5 eG5
    refine lv_goto (tgt := 15) hx hb dL_value_9 (by decide) ?_
    refine lv_iconst (v := 0) hx hb dL_value_15 (by decide) ?_
    exact end_i hx hb hr hlk rfl hw hP hD hS dL_value_16
def wpL_reserve (post : Int32 → GS → Prop) (a2 : Int32) (G : GS) : Prop :=
  wpX8_reserve (fun (r3 : Int32) (G1 : GS) =>
  vp_in 0 1 ∧ ∀ G5 : GS, G5 = gL G1 ((0 : Int32).toNatClampNeg) r3.toInt64 →
    post 0 G5) (fun (E : String) (G9 : GS) =>
  if E = "java/lang/IndexOutOfBoundsException" then
    post 1 G9
  else False) a2 G
set_option maxHeartbeats 4000000 in
set_option maxRecDepth 100000 in
theorem okL_reserve (X : Cx) (l : Launch) (hfl : l.stackTraces = false) {post : Int32 → GS → Prop} {a2 : Int32} {G : GS}  (hw : wpL_reserve post a2 G) : CTW X l yL_reserve cL_reserve 4 (some FieldType.int) [(0, 9, 12, 21)] 8 1 6 [.ref (xa X 165), .int a2, .ref (xa X 197)] G (Qi X post) := by
  refine mbeginW qw_1260 (by decide) (Nat.le_of_ble_eq_true rfl) (fun p e s m below meth c hx hb hr hml hlk hown htb hE hz ls hl hP hD hS => ?_)
  have hl : lv_has ls 4 [(0, .ref (xa X 165)), (1, .int a2), (2, .ref (xa X 197))] := hl
  have hown : s.vm.findClass "FlyTreasuryLaw" = some m.cls := hown
  unfold wpL_reserve at hw
  refine lv_aload_n hx hb dL_reserve_0 rfl (lv_at hl 2 rfl) ?_
  refine lv_iconst (v := 0) hx hb dL_reserve_1 (by decide) ?_
  refine lv_aload_n hx hb dL_reserve_2 rfl (lv_at hl 0 rfl) ?_
  refine lv_iload_n hx hb dL_reserve_3 rfl (lv_at hl 1 rfl) ?_
  refine xcall_i (xrun_V (cc := cL_reserve) (As := [.int a2]) (rest := [.int 0, .ref (xa X 197)]) hx hb hml hown hE hz (okX8_reserve X l hfl  hw) qw_1261 qw_1262 qw_1263 qw_74 qw_1264 (myX8_reserve) ⟨Nat.le_of_ble_eq_true rfl, Nat.le_of_ble_eq_true rfl⟩ (rv_X8 hE hP rfl) hP hD hS rfl hl.1 rfl (Nat.le_of_ble_eq_true rfl) dL_reserve_4 ⟨Nat.le_of_ble_eq_true rfl, Nat.le_of_ble_eq_true rfl⟩) hS (fun E ce q9 G9 H locs hw hP hD hS hce hcv hcl => ?_) (fun r3 G1 H locs hw hP hD hS => ?_)
  · by_cases c2 : E = "java/lang/IndexOutOfBoundsException"
    · replace hw := ite_t hw c2
      subst c2
      refine vx_catch hown [] ⟨0, 9, 12, 21⟩ [] htb (List.forall_mem_nil _) (by decide) (by decide) (hE.w qw_945 rfl _) (hE.w qw_886 rfl _) hce hcv hcl ?_
      refine lv_astore_n (lv' := [(3, .ref q9), (0, .ref (xa X 165)), (1, .int a2), (2, .ref (xa X 197))]) hx hb dL_reserve_12 rfl hl (by decide) rfl (fun ls hl => ?_)
      refine lv_iconst (v := 1) hx hb dL_reserve_13 (by decide) ?_
      exact end_i hx hb hr hlk rfl hw hP hD hS dL_reserve_14
    · replace hw := ite_f hw c2
      exact hw.elim
  · refine lv_i2l hx hb dL_reserve_7 rfl ?_
    obtain ⟨y4, hw⟩ := hw
    refine last_14 hx hb hE hP hD hS y4 dL_reserve_8 (fun G5 H locs eG5 hP hD hS => ?_)
    replace hw := hw G5 eG5
    refine lv_goto (tgt := 15) hx hb dL_reserve_9 (by decide) ?_
    refine lv_iconst (v := 0) hx hb dL_reserve_15 (by decide) ?_
    exact end_i hx hb hr hlk rfl hw hP hD hS dL_reserve_16
def wpL_isSound (post : Int32 → GS → Prop) (a2 : Int32) (G : GS) : Prop :=
  wpX8_isSound (fun (r3 : Int32) (G1 : GS) =>
  if r3 = 0 then
    vp_in 0 1 ∧ ∀ G6 : GS, G6 = gL G1 ((0 : Int32).toNatClampNeg) 0 →
      post 0 G6
  else
    vp_in 0 1 ∧ ∀ G8 : GS, G8 = gL G1 ((0 : Int32).toNatClampNeg) 1 →
      post 0 G8) (fun (E : String) (G9 : GS) =>
  if E = "java/lang/IndexOutOfBoundsException" then
    post 1 G9
  else False) a2 G
set_option maxHeartbeats 4000000 in
set_option maxRecDepth 100000 in
theorem okL_isSound (X : Cx) (l : Launch) (hfl : l.stackTraces = false) {post : Int32 → GS → Prop} {a2 : Int32} {G : GS}  (hw : wpL_isSound post a2 G) : CTW X l yL_isSound cL_isSound 4 (some FieldType.int) [(0, 16, 19, 21)] 8 1 6 [.ref (xa X 165), .int a2, .ref (xa X 197)] G (Qi X post) := by
  refine mbeginW qw_1268 (by decide) (Nat.le_of_ble_eq_true rfl) (fun p e s m below meth c hx hb hr hml hlk hown htb hE hz ls hl hP hD hS => ?_)
  have hl : lv_has ls 4 [(0, .ref (xa X 165)), (1, .int a2), (2, .ref (xa X 197))] := hl
  have hown : s.vm.findClass "FlyTreasuryLaw" = some m.cls := hown
  unfold wpL_isSound at hw
  refine lv_aload_n hx hb dL_isSound_0 rfl (lv_at hl 2 rfl) ?_
  refine lv_iconst (v := 0) hx hb dL_isSound_1 (by decide) ?_
  refine lv_aload_n hx hb dL_isSound_2 rfl (lv_at hl 0 rfl) ?_
  refine lv_iload_n hx hb dL_isSound_3 rfl (lv_at hl 1 rfl) ?_
  refine xcall_i (xrun_V (cc := cL_isSound) (As := [.int a2]) (rest := [.int 0, .ref (xa X 197)]) hx hb hml hown hE hz (okX8_isSound X l hfl  hw) qw_1269 qw_1270 qw_1271 qw_74 qw_1272 (myX8_isSound) ⟨Nat.le_of_ble_eq_true rfl, Nat.le_of_ble_eq_true rfl⟩ (rv_X8 hE hP rfl) hP hD hS rfl hl.1 rfl (Nat.le_of_ble_eq_true rfl) dL_isSound_4 ⟨Nat.le_of_ble_eq_true rfl, Nat.le_of_ble_eq_true rfl⟩) hS (fun E ce q9 G9 H locs hw hP hD hS hce hcv hcl => ?_) (fun r3 G1 H locs hw hP hD hS => ?_)
  · by_cases c2 : E = "java/lang/IndexOutOfBoundsException"
    · replace hw := ite_t hw c2
      subst c2
      refine vx_catch hown [] ⟨0, 16, 19, 21⟩ [] htb (List.forall_mem_nil _) (by decide) (by decide) (hE.w qw_945 rfl _) (hE.w qw_886 rfl _) hce hcv hcl ?_
      refine lv_astore_n (lv' := [(3, .ref q9), (0, .ref (xa X 165)), (1, .int a2), (2, .ref (xa X 197))]) hx hb dL_isSound_19 rfl hl (by decide) rfl (fun ls hl => ?_)
      refine lv_iconst (v := 1) hx hb dL_isSound_20 (by decide) ?_
      exact end_i hx hb hr hlk rfl hw hP hD hS dL_isSound_21
    · replace hw := ite_f hw c2
      exact hw.elim
  · refine lv_if_eq (tgt := 14) hx hb dL_isSound_7 (by decide) (fun c4 => ?_) (fun c4 => ?_)
    · replace hw := ite_t hw c4
      refine lv_lconst (v := 0) hx hb dL_isSound_14 (by decide) ?_
      obtain ⟨y5, hw⟩ := hw
      refine last_14 hx hb hE hP hD hS y5 dL_isSound_15 (fun G6 H locs eG6 hP hD hS => ?_)
      replace hw := hw G6 eG6
      refine lv_goto (tgt := 22) hx hb dL_isSound_16 (by decide) ?_
      refine lv_iconst (v := 0) hx hb dL_isSound_22 (by decide) ?_
      exact end_i hx hb hr hlk rfl hw hP hD hS dL_isSound_23
    · replace hw := ite_f hw c4
      refine lv_lconst (v := 1) hx hb dL_isSound_10 (by decide) ?_
      refine lv_goto (tgt := 15) hx hb dL_isSound_11 (by decide) ?_
      obtain ⟨y7, hw⟩ := hw
      refine last_14 hx hb hE hP hD hS y7 dL_isSound_15 (fun G8 H locs eG8 hP hD hS => ?_)
      replace hw := hw G8 eG8
      refine lv_goto (tgt := 22) hx hb dL_isSound_16 (by decide) ?_
      refine lv_iconst (v := 0) hx hb dL_isSound_22 (by decide) ?_
      exact end_i hx hb hr hlk rfl hw hP hD hS dL_isSound_23
def wpL_mintable (post : Int32 → GS → Prop) (a2 : Int32) (G : GS) : Prop :=
  wpX8_mintable (fun (r3 : Int32) (G1 : GS) =>
  vp_in 0 1 ∧ ∀ G5 : GS, G5 = gL G1 ((0 : Int32).toNatClampNeg) r3.toInt64 →
    post 0 G5) (fun (E : String) (G9 : GS) =>
  if E = "java/lang/IndexOutOfBoundsException" then
    post 1 G9
  else False) a2 G
set_option maxHeartbeats 4000000 in
set_option maxRecDepth 100000 in
theorem okL_mintable (X : Cx) (l : Launch) (hfl : l.stackTraces = false) {post : Int32 → GS → Prop} {a2 : Int32} {G : GS}  (hw : wpL_mintable post a2 G) : CTW X l yL_mintable cL_mintable 4 (some FieldType.int) [(0, 9, 12, 21)] 8 1 6 [.ref (xa X 165), .int a2, .ref (xa X 197)] G (Qi X post) := by
  refine mbeginW qw_1276 (by decide) (Nat.le_of_ble_eq_true rfl) (fun p e s m below meth c hx hb hr hml hlk hown htb hE hz ls hl hP hD hS => ?_)
  have hl : lv_has ls 4 [(0, .ref (xa X 165)), (1, .int a2), (2, .ref (xa X 197))] := hl
  have hown : s.vm.findClass "FlyTreasuryLaw" = some m.cls := hown
  unfold wpL_mintable at hw
  refine lv_aload_n hx hb dL_mintable_0 rfl (lv_at hl 2 rfl) ?_
  refine lv_iconst (v := 0) hx hb dL_mintable_1 (by decide) ?_
  refine lv_aload_n hx hb dL_mintable_2 rfl (lv_at hl 0 rfl) ?_
  refine lv_iload_n hx hb dL_mintable_3 rfl (lv_at hl 1 rfl) ?_
  refine xcall_i (xrun_V (cc := cL_mintable) (As := [.int a2]) (rest := [.int 0, .ref (xa X 197)]) hx hb hml hown hE hz (okX8_mintable X l hfl  hw) qw_1277 qw_1278 qw_1279 qw_74 qw_1280 (myX8_mintable) ⟨Nat.le_of_ble_eq_true rfl, Nat.le_of_ble_eq_true rfl⟩ (rv_X8 hE hP rfl) hP hD hS rfl hl.1 rfl (Nat.le_of_ble_eq_true rfl) dL_mintable_4 ⟨Nat.le_of_ble_eq_true rfl, Nat.le_of_ble_eq_true rfl⟩) hS (fun E ce q9 G9 H locs hw hP hD hS hce hcv hcl => ?_) (fun r3 G1 H locs hw hP hD hS => ?_)
  · by_cases c2 : E = "java/lang/IndexOutOfBoundsException"
    · replace hw := ite_t hw c2
      subst c2
      refine vx_catch hown [] ⟨0, 9, 12, 21⟩ [] htb (List.forall_mem_nil _) (by decide) (by decide) (hE.w qw_945 rfl _) (hE.w qw_886 rfl _) hce hcv hcl ?_
      refine lv_astore_n (lv' := [(3, .ref q9), (0, .ref (xa X 165)), (1, .int a2), (2, .ref (xa X 197))]) hx hb dL_mintable_12 rfl hl (by decide) rfl (fun ls hl => ?_)
      refine lv_iconst (v := 1) hx hb dL_mintable_13 (by decide) ?_
      exact end_i hx hb hr hlk rfl hw hP hD hS dL_mintable_14
    · replace hw := ite_f hw c2
      exact hw.elim
  · refine lv_i2l hx hb dL_mintable_7 rfl ?_
    obtain ⟨y4, hw⟩ := hw
    refine last_14 hx hb hE hP hD hS y4 dL_mintable_8 (fun G5 H locs eG5 hP hD hS => ?_)
    replace hw := hw G5 eG5
    refine lv_goto (tgt := 15) hx hb dL_mintable_9 (by decide) ?_
    refine lv_iconst (v := 0) hx hb dL_mintable_15 (by decide) ?_
    exact end_i hx hb hr hlk rfl hw hP hD hS dL_mintable_16
def wpL_daysUntilSound (post : Int32 → GS → Prop) (a2 : Int32) (G : GS) : Prop :=
  wpX8_daysUntilSound (fun (r3 : Int32) (G1 : GS) =>
  vp_in 0 1 ∧ ∀ G5 : GS, G5 = gL G1 ((0 : Int32).toNatClampNeg) r3.toInt64 →
    post 0 G5) (fun (E : String) (G9 : GS) =>
  if E = "java/lang/IndexOutOfBoundsException" then
    post 1 G9
  else False) a2 G
set_option maxHeartbeats 4000000 in
set_option maxRecDepth 100000 in
theorem okL_daysUntilSound (X : Cx) (l : Launch) (hfl : l.stackTraces = false) {post : Int32 → GS → Prop} {a2 : Int32} {G : GS}  (hw : wpL_daysUntilSound post a2 G) : CTW X l yL_daysUntilSound cL_daysUntilSound 4 (some FieldType.int) [(0, 9, 12, 21)] 8 1 6 [.ref (xa X 165), .int a2, .ref (xa X 197)] G (Qi X post) := by
  refine mbeginW qw_1284 (by decide) (Nat.le_of_ble_eq_true rfl) (fun p e s m below meth c hx hb hr hml hlk hown htb hE hz ls hl hP hD hS => ?_)
  have hl : lv_has ls 4 [(0, .ref (xa X 165)), (1, .int a2), (2, .ref (xa X 197))] := hl
  have hown : s.vm.findClass "FlyTreasuryLaw" = some m.cls := hown
  unfold wpL_daysUntilSound at hw
  refine lv_aload_n hx hb dL_daysUntilSound_0 rfl (lv_at hl 2 rfl) ?_
  refine lv_iconst (v := 0) hx hb dL_daysUntilSound_1 (by decide) ?_
  refine lv_aload_n hx hb dL_daysUntilSound_2 rfl (lv_at hl 0 rfl) ?_
  refine lv_iload_n hx hb dL_daysUntilSound_3 rfl (lv_at hl 1 rfl) ?_
  refine xcall_i (xrun_V (cc := cL_daysUntilSound) (As := [.int a2]) (rest := [.int 0, .ref (xa X 197)]) hx hb hml hown hE hz (okX8_daysUntilSound X l hfl  hw) qw_1285 qw_1286 qw_1287 qw_74 qw_1288 (myX8_daysUntilSound) ⟨Nat.le_of_ble_eq_true rfl, Nat.le_of_ble_eq_true rfl⟩ (rv_X8 hE hP rfl) hP hD hS rfl hl.1 rfl (Nat.le_of_ble_eq_true rfl) dL_daysUntilSound_4 ⟨Nat.le_of_ble_eq_true rfl, Nat.le_of_ble_eq_true rfl⟩) hS (fun E ce q9 G9 H locs hw hP hD hS hce hcv hcl => ?_) (fun r3 G1 H locs hw hP hD hS => ?_)
  · by_cases c2 : E = "java/lang/IndexOutOfBoundsException"
    · replace hw := ite_t hw c2
      subst c2
      refine vx_catch hown [] ⟨0, 9, 12, 21⟩ [] htb (List.forall_mem_nil _) (by decide) (by decide) (hE.w qw_945 rfl _) (hE.w qw_886 rfl _) hce hcv hcl ?_
      refine lv_astore_n (lv' := [(3, .ref q9), (0, .ref (xa X 165)), (1, .int a2), (2, .ref (xa X 197))]) hx hb dL_daysUntilSound_12 rfl hl (by decide) rfl (fun ls hl => ?_)
      refine lv_iconst (v := 1) hx hb dL_daysUntilSound_13 (by decide) ?_
      exact end_i hx hb hr hlk rfl hw hP hD hS dL_daysUntilSound_14
    · replace hw := ite_f hw c2
      exact hw.elim
  · refine lv_i2l hx hb dL_daysUntilSound_7 rfl ?_
    obtain ⟨y4, hw⟩ := hw
    refine last_14 hx hb hE hP hD hS y4 dL_daysUntilSound_8 (fun G5 H locs eG5 hP hD hS => ?_)
    replace hw := hw G5 eG5
    refine lv_goto (tgt := 15) hx hb dL_daysUntilSound_9 (by decide) ?_
    refine lv_iconst (v := 0) hx hb dL_daysUntilSound_15 (by decide) ?_
    exact end_i hx hb hr hlk rfl hw hP hD hS dL_daysUntilSound_16
def wpL_daysUntilSoundByCounting (post : Int32 → GS → Prop) (a2 : Int32) (G : GS) : Prop :=
  wpX8_daysUntilSoundByCounting (fun (r3 : Int32) (G1 : GS) =>
  vp_in 0 1 ∧ ∀ G5 : GS, G5 = gL G1 ((0 : Int32).toNatClampNeg) r3.toInt64 →
    post 0 G5) (fun (E : String) (G9 : GS) =>
  if E = "java/lang/IndexOutOfBoundsException" then
    post 1 G9
  else False) a2 G
set_option maxHeartbeats 4000000 in
set_option maxRecDepth 100000 in
theorem okL_daysUntilSoundByCounting (X : Cx) (l : Launch) (hfl : l.stackTraces = false) {post : Int32 → GS → Prop} {a2 : Int32} {G : GS}  (hw : wpL_daysUntilSoundByCounting post a2 G) : CTW X l yL_daysUntilSoundByCounting cL_daysUntilSoundByCounting 4 (some FieldType.int) [(0, 9, 12, 21)] 8 1 6 [.ref (xa X 165), .int a2, .ref (xa X 197)] G (Qi X post) := by
  refine mbeginW qw_1292 (by decide) (Nat.le_of_ble_eq_true rfl) (fun p e s m below meth c hx hb hr hml hlk hown htb hE hz ls hl hP hD hS => ?_)
  have hl : lv_has ls 4 [(0, .ref (xa X 165)), (1, .int a2), (2, .ref (xa X 197))] := hl
  have hown : s.vm.findClass "FlyTreasuryLaw" = some m.cls := hown
  unfold wpL_daysUntilSoundByCounting at hw
  refine lv_aload_n hx hb dL_daysUntilSoundByCounting_0 rfl (lv_at hl 2 rfl) ?_
  refine lv_iconst (v := 0) hx hb dL_daysUntilSoundByCounting_1 (by decide) ?_
  refine lv_aload_n hx hb dL_daysUntilSoundByCounting_2 rfl (lv_at hl 0 rfl) ?_
  refine lv_iload_n hx hb dL_daysUntilSoundByCounting_3 rfl (lv_at hl 1 rfl) ?_
  refine xcall_i (xrun_V (cc := cL_daysUntilSoundByCounting) (As := [.int a2]) (rest := [.int 0, .ref (xa X 197)]) hx hb hml hown hE hz (okX8_daysUntilSoundByCounting X l hfl  hw) qw_1293 qw_1294 qw_1295 qw_74 qw_1296 (myX8_daysUntilSoundByCounting) ⟨Nat.le_of_ble_eq_true rfl, Nat.le_of_ble_eq_true rfl⟩ (rv_X8 hE hP rfl) hP hD hS rfl hl.1 rfl (Nat.le_of_ble_eq_true rfl) dL_daysUntilSoundByCounting_4 ⟨Nat.le_of_ble_eq_true rfl, Nat.le_of_ble_eq_true rfl⟩) hS (fun E ce q9 G9 H locs hw hP hD hS hce hcv hcl => ?_) (fun r3 G1 H locs hw hP hD hS => ?_)
  · by_cases c2 : E = "java/lang/IndexOutOfBoundsException"
    · replace hw := ite_t hw c2
      subst c2
      refine vx_catch hown [] ⟨0, 9, 12, 21⟩ [] htb (List.forall_mem_nil _) (by decide) (by decide) (hE.w qw_945 rfl _) (hE.w qw_886 rfl _) hce hcv hcl ?_
      refine lv_astore_n (lv' := [(3, .ref q9), (0, .ref (xa X 165)), (1, .int a2), (2, .ref (xa X 197))]) hx hb dL_daysUntilSoundByCounting_12 rfl hl (by decide) rfl (fun ls hl => ?_)
      refine lv_iconst (v := 1) hx hb dL_daysUntilSoundByCounting_13 (by decide) ?_
      exact end_i hx hb hr hlk rfl hw hP hD hS dL_daysUntilSoundByCounting_14
    · replace hw := ite_f hw c2
      exact hw.elim
  · refine lv_i2l hx hb dL_daysUntilSoundByCounting_7 rfl ?_
    obtain ⟨y4, hw⟩ := hw
    refine last_14 hx hb hE hP hD hS y4 dL_daysUntilSoundByCounting_8 (fun G5 H locs eG5 hP hD hS => ?_)
    replace hw := hw G5 eG5
    refine lv_goto (tgt := 15) hx hb dL_daysUntilSoundByCounting_9 (by decide) ?_
    refine lv_iconst (v := 0) hx hb dL_daysUntilSoundByCounting_15 (by decide) ?_
    exact end_i hx hb hr hlk rfl hw hP hD hS dL_daysUntilSoundByCounting_16
def wpL_mostFlies (post : Int32 → GS → Prop) (a2 : Int32) (a3 : Int32) (G : GS) : Prop :=
  wpX8_mostFlies (fun (r4 : Int32) (G1 : GS) =>
  vp_in 0 1 ∧ ∀ G6 : GS, G6 = gL G1 ((0 : Int32).toNatClampNeg) r4.toInt64 →
    post 0 G6) (fun (E : String) (G9 : GS) =>
  if E = "java/lang/IndexOutOfBoundsException" then
    post 1 G9
  else if E = "java/lang/IllegalArgumentException" then
    post 2 G9
  else False) a2 a3 G
set_option maxHeartbeats 4000000 in
set_option maxRecDepth 100000 in
theorem okL_mostFlies (X : Cx) (l : Launch) (hfl : l.stackTraces = false) {post : Int32 → GS → Prop} {a2 : Int32} {a3 : Int32} {G : GS}  (hw : wpL_mostFlies post a2 a3 G) : CTW X l yL_mostFlies cL_mostFlies 5 (some FieldType.int) [(0, 10, 13, 21), (0, 10, 17, 13)] 8 2 12 [.ref (xa X 165), .int a2, .int a3, .ref (xa X 197)] G (Qi X post) := by
  refine mbeginW qw_1300 (by decide) (Nat.le_of_ble_eq_true rfl) (fun p e s m below meth c hx hb hr hml hlk hown htb hE hz ls hl hP hD hS => ?_)
  have hl : lv_has ls 5 [(0, .ref (xa X 165)), (1, .int a2), (2, .int a3), (3, .ref (xa X 197))] := hl
  have hown : s.vm.findClass "FlyTreasuryLaw" = some m.cls := hown
  unfold wpL_mostFlies at hw
  refine lv_aload_n hx hb dL_mostFlies_0 rfl (lv_at hl 3 rfl) ?_
  refine lv_iconst (v := 0) hx hb dL_mostFlies_1 (by decide) ?_
  refine lv_aload_n hx hb dL_mostFlies_2 rfl (lv_at hl 0 rfl) ?_
  refine lv_iload_n hx hb dL_mostFlies_3 rfl (lv_at hl 1 rfl) ?_
  refine lv_iload_n hx hb dL_mostFlies_4 rfl (lv_at hl 2 rfl) ?_
  refine xcall_i (xrun_V (cc := cL_mostFlies) (As := [.int a2, .int a3]) (rest := [.int 0, .ref (xa X 197)]) hx hb hml hown hE hz (okX8_mostFlies X l hfl  hw) qw_1301 qw_1302 qw_1303 qw_74 qw_1304 (myX8_mostFlies) ⟨Nat.le_of_ble_eq_true rfl, Nat.le_of_ble_eq_true rfl⟩ (rv_X8 hE hP rfl) hP hD hS rfl hl.1 rfl (Nat.le_of_ble_eq_true rfl) dL_mostFlies_5 ⟨Nat.le_of_ble_eq_true rfl, Nat.le_of_ble_eq_true rfl⟩) hS (fun E ce q9 G9 H locs hw hP hD hS hce hcv hcl => ?_) (fun r4 G1 H locs hw hP hD hS => ?_)
  · by_cases c2 : E = "java/lang/IndexOutOfBoundsException"
    · replace hw := ite_t hw c2
      subst c2
      refine vx_catch hown [] ⟨0, 10, 13, 21⟩ [⟨0, 10, 17, 13⟩] htb (List.forall_mem_nil _) (by decide) (by decide) (hE.w qw_945 rfl _) (hE.w qw_886 rfl _) hce hcv hcl ?_
      refine lv_astore (lv' := [(4, .ref q9), (0, .ref (xa X 165)), (1, .int a2), (2, .int a3), (3, .ref (xa X 197))]) hx hb dL_mostFlies_13 hl (by decide) rfl (fun ls hl => ?_)
      refine lv_iconst (v := 1) hx hb dL_mostFlies_15 (by decide) ?_
      exact end_i hx hb hr hlk rfl hw hP hD hS dL_mostFlies_16
    · replace hw := ite_f hw c2
      by_cases c3 : E = "java/lang/IllegalArgumentException"
      · replace hw := ite_t hw c3
        subst c3
        refine vx_catch hown [⟨0, 10, 13, 21⟩] ⟨0, 10, 17, 13⟩ [] htb (List.forall_mem_cons.mpr ⟨Or.inr ⟨by decide, "java/lang/IndexOutOfBoundsException", hE.w qw_945 rfl _, hE.2.2.2.2 ("java/lang/IllegalArgumentException", "java/lang/IndexOutOfBoundsException") (List.mem_of_getElem? (i := 5) rfl)⟩, List.forall_mem_nil _⟩) (by decide) (by decide) (hE.w qw_854 rfl _) (hE.w qw_648 rfl _) hce hcv hcl ?_
        refine lv_astore (lv' := [(4, .ref q9), (0, .ref (xa X 165)), (1, .int a2), (2, .int a3), (3, .ref (xa X 197))]) hx hb dL_mostFlies_17 hl (by decide) rfl (fun ls hl => ?_)
        refine lv_iconst (v := 2) hx hb dL_mostFlies_19 (by decide) ?_
        exact end_i hx hb hr hlk rfl hw hP hD hS dL_mostFlies_20
      · replace hw := ite_f hw c3
        exact hw.elim
  · refine lv_i2l hx hb dL_mostFlies_8 rfl ?_
    obtain ⟨y5, hw⟩ := hw
    refine last_14 hx hb hE hP hD hS y5 dL_mostFlies_9 (fun G6 H locs eG6 hP hD hS => ?_)
    replace hw := hw G6 eG6
    refine lv_goto (tgt := 21) hx hb dL_mostFlies_10 (by decide) ?_
    refine lv_iconst (v := 0) hx hb dL_mostFlies_21 (by decide) ?_
    exact end_i hx hb hr hlk rfl hw hP hD hS dL_mostFlies_22
def wpL_mostFliesByExchanges (post : Int32 → GS → Prop) (a2 : Int32) (a3 : Int32) (G : GS) : Prop :=
  wpX8_mostFliesByExchanges (fun (r4 : Int32) (G1 : GS) =>
  vp_in 0 1 ∧ ∀ G6 : GS, G6 = gL G1 ((0 : Int32).toNatClampNeg) r4.toInt64 →
    post 0 G6) (fun (E : String) (G9 : GS) =>
  if E = "java/lang/IndexOutOfBoundsException" then
    post 1 G9
  else if E = "java/lang/IllegalArgumentException" then
    post 2 G9
  else False) a2 a3 G
set_option maxHeartbeats 4000000 in
set_option maxRecDepth 100000 in
theorem okL_mostFliesByExchanges (X : Cx) (l : Launch) (hfl : l.stackTraces = false) {post : Int32 → GS → Prop} {a2 : Int32} {a3 : Int32} {G : GS}  (hw : wpL_mostFliesByExchanges post a2 a3 G) : CTW X l yL_mostFliesByExchanges cL_mostFliesByExchanges 5 (some FieldType.int) [(0, 10, 13, 21), (0, 10, 17, 13)] 8 2 12 [.ref (xa X 165), .int a2, .int a3, .ref (xa X 197)] G (Qi X post) := by
  refine mbeginW qw_1312 (by decide) (Nat.le_of_ble_eq_true rfl) (fun p e s m below meth c hx hb hr hml hlk hown htb hE hz ls hl hP hD hS => ?_)
  have hl : lv_has ls 5 [(0, .ref (xa X 165)), (1, .int a2), (2, .int a3), (3, .ref (xa X 197))] := hl
  have hown : s.vm.findClass "FlyTreasuryLaw" = some m.cls := hown
  unfold wpL_mostFliesByExchanges at hw
  refine lv_aload_n hx hb dL_mostFliesByExchanges_0 rfl (lv_at hl 3 rfl) ?_
  refine lv_iconst (v := 0) hx hb dL_mostFliesByExchanges_1 (by decide) ?_
  refine lv_aload_n hx hb dL_mostFliesByExchanges_2 rfl (lv_at hl 0 rfl) ?_
  refine lv_iload_n hx hb dL_mostFliesByExchanges_3 rfl (lv_at hl 1 rfl) ?_
  refine lv_iload_n hx hb dL_mostFliesByExchanges_4 rfl (lv_at hl 2 rfl) ?_
  refine xcall_i (xrun_V (cc := cL_mostFliesByExchanges) (As := [.int a2, .int a3]) (rest := [.int 0, .ref (xa X 197)]) hx hb hml hown hE hz (okX8_mostFliesByExchanges X l hfl  hw) qw_1313 qw_1314 qw_1315 qw_74 qw_1316 (myX8_mostFliesByExchanges) ⟨Nat.le_of_ble_eq_true rfl, Nat.le_of_ble_eq_true rfl⟩ (rv_X8 hE hP rfl) hP hD hS rfl hl.1 rfl (Nat.le_of_ble_eq_true rfl) dL_mostFliesByExchanges_5 ⟨Nat.le_of_ble_eq_true rfl, Nat.le_of_ble_eq_true rfl⟩) hS (fun E ce q9 G9 H locs hw hP hD hS hce hcv hcl => ?_) (fun r4 G1 H locs hw hP hD hS => ?_)
  · by_cases c2 : E = "java/lang/IndexOutOfBoundsException"
    · replace hw := ite_t hw c2
      subst c2
      refine vx_catch hown [] ⟨0, 10, 13, 21⟩ [⟨0, 10, 17, 13⟩] htb (List.forall_mem_nil _) (by decide) (by decide) (hE.w qw_945 rfl _) (hE.w qw_886 rfl _) hce hcv hcl ?_
      refine lv_astore (lv' := [(4, .ref q9), (0, .ref (xa X 165)), (1, .int a2), (2, .int a3), (3, .ref (xa X 197))]) hx hb dL_mostFliesByExchanges_13 hl (by decide) rfl (fun ls hl => ?_)
      refine lv_iconst (v := 1) hx hb dL_mostFliesByExchanges_15 (by decide) ?_
      exact end_i hx hb hr hlk rfl hw hP hD hS dL_mostFliesByExchanges_16
    · replace hw := ite_f hw c2
      by_cases c3 : E = "java/lang/IllegalArgumentException"
      · replace hw := ite_t hw c3
        subst c3
        refine vx_catch hown [⟨0, 10, 13, 21⟩] ⟨0, 10, 17, 13⟩ [] htb (List.forall_mem_cons.mpr ⟨Or.inr ⟨by decide, "java/lang/IndexOutOfBoundsException", hE.w qw_945 rfl _, hE.2.2.2.2 ("java/lang/IllegalArgumentException", "java/lang/IndexOutOfBoundsException") (List.mem_of_getElem? (i := 5) rfl)⟩, List.forall_mem_nil _⟩) (by decide) (by decide) (hE.w qw_854 rfl _) (hE.w qw_648 rfl _) hce hcv hcl ?_
        refine lv_astore (lv' := [(4, .ref q9), (0, .ref (xa X 165)), (1, .int a2), (2, .int a3), (3, .ref (xa X 197))]) hx hb dL_mostFliesByExchanges_17 hl (by decide) rfl (fun ls hl => ?_)
        refine lv_iconst (v := 2) hx hb dL_mostFliesByExchanges_19 (by decide) ?_
        exact end_i hx hb hr hlk rfl hw hP hD hS dL_mostFliesByExchanges_20
      · replace hw := ite_f hw c3
        exact hw.elim
  · refine lv_i2l hx hb dL_mostFliesByExchanges_8 rfl ?_
    obtain ⟨y5, hw⟩ := hw
    refine last_14 hx hb hE hP hD hS y5 dL_mostFliesByExchanges_9 (fun G6 H locs eG6 hP hD hS => ?_)
    replace hw := hw G6 eG6
    refine lv_goto (tgt := 21) hx hb dL_mostFliesByExchanges_10 (by decide) ?_
    refine lv_iconst (v := 0) hx hb dL_mostFliesByExchanges_21 (by decide) ?_
    exact end_i hx hb hr hlk rfl hw hP hD hS dL_mostFliesByExchanges_22
def wpL_rate (post : Int32 → GS → Prop) (a2 : Int32) (G : GS) : Prop :=
  wpX8_rate (fun (r3 : Int32) (G1 : GS) =>
  vp_in 0 1 ∧ ∀ G5 : GS, G5 = gL G1 ((0 : Int32).toNatClampNeg) r3.toInt64 →
    post 0 G5) (fun (E : String) (G9 : GS) =>
  if E = "java/lang/IllegalArgumentException" then
    post 1 G9
  else False) a2 G
set_option maxHeartbeats 4000000 in
set_option maxRecDepth 100000 in
theorem okL_rate (X : Cx) (l : Launch) (hfl : l.stackTraces = false) {post : Int32 → GS → Prop} {a2 : Int32} {G : GS}  (hw : wpL_rate post a2 G) : CTW X l yL_rate cL_rate 4 (some FieldType.int) [(0, 9, 12, 13)] 8 1 6 [.ref (xa X 165), .int a2, .ref (xa X 197)] G (Qi X post) := by
  refine mbeginW qw_1323 (by decide) (Nat.le_of_ble_eq_true rfl) (fun p e s m below meth c hx hb hr hml hlk hown htb hE hz ls hl hP hD hS => ?_)
  have hl : lv_has ls 4 [(0, .ref (xa X 165)), (1, .int a2), (2, .ref (xa X 197))] := hl
  have hown : s.vm.findClass "FlyTreasuryLaw" = some m.cls := hown
  unfold wpL_rate at hw
  refine lv_aload_n hx hb dL_rate_0 rfl (lv_at hl 2 rfl) ?_
  refine lv_iconst (v := 0) hx hb dL_rate_1 (by decide) ?_
  refine lv_aload_n hx hb dL_rate_2 rfl (lv_at hl 0 rfl) ?_
  refine lv_iload_n hx hb dL_rate_3 rfl (lv_at hl 1 rfl) ?_
  refine xcall_i (xrun_V (cc := cL_rate) (As := [.int a2]) (rest := [.int 0, .ref (xa X 197)]) hx hb hml hown hE hz (okX8_rate X l hfl  hw) qw_1324 qw_1325 qw_1326 qw_74 qw_1327 (myX8_rate) ⟨Nat.le_of_ble_eq_true rfl, Nat.le_of_ble_eq_true rfl⟩ (rv_X8 hE hP rfl) hP hD hS rfl hl.1 rfl (Nat.le_of_ble_eq_true rfl) dL_rate_4 ⟨Nat.le_of_ble_eq_true rfl, Nat.le_of_ble_eq_true rfl⟩) hS (fun E ce q9 G9 H locs hw hP hD hS hce hcv hcl => ?_) (fun r3 G1 H locs hw hP hD hS => ?_)
  · by_cases c2 : E = "java/lang/IllegalArgumentException"
    · replace hw := ite_t hw c2
      subst c2
      refine vx_catch hown [] ⟨0, 9, 12, 13⟩ [] htb (List.forall_mem_nil _) (by decide) (by decide) (hE.w qw_854 rfl _) (hE.w qw_648 rfl _) hce hcv hcl ?_
      refine lv_astore_n (lv' := [(3, .ref q9), (0, .ref (xa X 165)), (1, .int a2), (2, .ref (xa X 197))]) hx hb dL_rate_12 rfl hl (by decide) rfl (fun ls hl => ?_)
      refine lv_iconst (v := 1) hx hb dL_rate_13 (by decide) ?_
      exact end_i hx hb hr hlk rfl hw hP hD hS dL_rate_14
    · replace hw := ite_f hw c2
      exact hw.elim
  · refine lv_i2l hx hb dL_rate_7 rfl ?_
    obtain ⟨y4, hw⟩ := hw
    refine last_14 hx hb hE hP hD hS y4 dL_rate_8 (fun G5 H locs eG5 hP hD hS => ?_)
    replace hw := hw G5 eG5
    refine lv_goto (tgt := 15) hx hb dL_rate_9 (by decide) ?_
    refine lv_iconst (v := 0) hx hb dL_rate_15 (by decide) ?_
    exact end_i hx hb hr hlk rfl hw hP hD hS dL_rate_16
def wpL_totalFlies (post : Int32 → GS → Prop) (a2 : Int32) (G : GS) : Prop :=
  wpX8_totalFlies (fun (r3 : Int32) (G1 : GS) =>
  vp_in 0 1 ∧ ∀ G5 : GS, G5 = gL G1 ((0 : Int32).toNatClampNeg) r3.toInt64 →
    post 0 G5) (fun (E : String) (G9 : GS) =>
  if E = "java/lang/IllegalArgumentException" then
    post 1 G9
  else False) a2 G
set_option maxHeartbeats 4000000 in
set_option maxRecDepth 100000 in
theorem okL_totalFlies (X : Cx) (l : Launch) (hfl : l.stackTraces = false) {post : Int32 → GS → Prop} {a2 : Int32} {G : GS}  (hw : wpL_totalFlies post a2 G) : CTW X l yL_totalFlies cL_totalFlies 4 (some FieldType.int) [(0, 9, 12, 13)] 8 1 6 [.ref (xa X 165), .int a2, .ref (xa X 197)] G (Qi X post) := by
  refine mbeginW qw_1330 (by decide) (Nat.le_of_ble_eq_true rfl) (fun p e s m below meth c hx hb hr hml hlk hown htb hE hz ls hl hP hD hS => ?_)
  have hl : lv_has ls 4 [(0, .ref (xa X 165)), (1, .int a2), (2, .ref (xa X 197))] := hl
  have hown : s.vm.findClass "FlyTreasuryLaw" = some m.cls := hown
  unfold wpL_totalFlies at hw
  refine lv_aload_n hx hb dL_totalFlies_0 rfl (lv_at hl 2 rfl) ?_
  refine lv_iconst (v := 0) hx hb dL_totalFlies_1 (by decide) ?_
  refine lv_aload_n hx hb dL_totalFlies_2 rfl (lv_at hl 0 rfl) ?_
  refine lv_iload_n hx hb dL_totalFlies_3 rfl (lv_at hl 1 rfl) ?_
  refine xcall_i (xrun_V (cc := cL_totalFlies) (As := [.int a2]) (rest := [.int 0, .ref (xa X 197)]) hx hb hml hown hE hz (okX8_totalFlies X l hfl  hw) qw_1331 qw_1332 qw_1333 qw_74 qw_1334 (myX8_totalFlies) ⟨Nat.le_of_ble_eq_true rfl, Nat.le_of_ble_eq_true rfl⟩ (rv_X8 hE hP rfl) hP hD hS rfl hl.1 rfl (Nat.le_of_ble_eq_true rfl) dL_totalFlies_4 ⟨Nat.le_of_ble_eq_true rfl, Nat.le_of_ble_eq_true rfl⟩) hS (fun E ce q9 G9 H locs hw hP hD hS hce hcv hcl => ?_) (fun r3 G1 H locs hw hP hD hS => ?_)
  · by_cases c2 : E = "java/lang/IllegalArgumentException"
    · replace hw := ite_t hw c2
      subst c2
      refine vx_catch hown [] ⟨0, 9, 12, 13⟩ [] htb (List.forall_mem_nil _) (by decide) (by decide) (hE.w qw_854 rfl _) (hE.w qw_648 rfl _) hce hcv hcl ?_
      refine lv_astore_n (lv' := [(3, .ref q9), (0, .ref (xa X 165)), (1, .int a2), (2, .ref (xa X 197))]) hx hb dL_totalFlies_12 rfl hl (by decide) rfl (fun ls hl => ?_)
      refine lv_iconst (v := 1) hx hb dL_totalFlies_13 (by decide) ?_
      exact end_i hx hb hr hlk rfl hw hP hD hS dL_totalFlies_14
    · replace hw := ite_f hw c2
      exact hw.elim
  · refine lv_i2l hx hb dL_totalFlies_7 rfl ?_
    obtain ⟨y4, hw⟩ := hw
    refine last_14 hx hb hE hP hD hS y4 dL_totalFlies_8 (fun G5 H locs eG5 hP hD hS => ?_)
    replace hw := hw G5 eG5
    refine lv_goto (tgt := 15) hx hb dL_totalFlies_9 (by decide) ?_
    refine lv_iconst (v := 0) hx hb dL_totalFlies_15 (by decide) ?_
    exact end_i hx hb hr hlk rfl hw hP hD hS dL_totalFlies_16
def wpL_totalFliesByAccounts (post : Int32 → GS → Prop) (a2 : Int32) (G : GS) : Prop :=
  wpX8_totalFliesByAccounts (fun (r3 : Int32) (G1 : GS) =>
  vp_in 0 1 ∧ ∀ G5 : GS, G5 = gL G1 ((0 : Int32).toNatClampNeg) r3.toInt64 →
    post 0 G5) (fun (E : String) (G9 : GS) =>
  if E = "java/lang/IllegalArgumentException" then
    post 1 G9
  else False) a2 G
set_option maxHeartbeats 4000000 in
set_option maxRecDepth 100000 in
theorem okL_totalFliesByAccounts (X : Cx) (l : Launch) (hfl : l.stackTraces = false) {post : Int32 → GS → Prop} {a2 : Int32} {G : GS}  (hw : wpL_totalFliesByAccounts post a2 G) : CTW X l yL_totalFliesByAccounts cL_totalFliesByAccounts 4 (some FieldType.int) [(0, 9, 12, 13)] 8 1 6 [.ref (xa X 165), .int a2, .ref (xa X 197)] G (Qi X post) := by
  refine mbeginW qw_1338 (by decide) (Nat.le_of_ble_eq_true rfl) (fun p e s m below meth c hx hb hr hml hlk hown htb hE hz ls hl hP hD hS => ?_)
  have hl : lv_has ls 4 [(0, .ref (xa X 165)), (1, .int a2), (2, .ref (xa X 197))] := hl
  have hown : s.vm.findClass "FlyTreasuryLaw" = some m.cls := hown
  unfold wpL_totalFliesByAccounts at hw
  refine lv_aload_n hx hb dL_totalFliesByAccounts_0 rfl (lv_at hl 2 rfl) ?_
  refine lv_iconst (v := 0) hx hb dL_totalFliesByAccounts_1 (by decide) ?_
  refine lv_aload_n hx hb dL_totalFliesByAccounts_2 rfl (lv_at hl 0 rfl) ?_
  refine lv_iload_n hx hb dL_totalFliesByAccounts_3 rfl (lv_at hl 1 rfl) ?_
  refine xcall_i (xrun_V (cc := cL_totalFliesByAccounts) (As := [.int a2]) (rest := [.int 0, .ref (xa X 197)]) hx hb hml hown hE hz (okX8_totalFliesByAccounts X l hfl  hw) qw_1339 qw_1340 qw_1341 qw_74 qw_1342 (myX8_totalFliesByAccounts) ⟨Nat.le_of_ble_eq_true rfl, Nat.le_of_ble_eq_true rfl⟩ (rv_X8 hE hP rfl) hP hD hS rfl hl.1 rfl (Nat.le_of_ble_eq_true rfl) dL_totalFliesByAccounts_4 ⟨Nat.le_of_ble_eq_true rfl, Nat.le_of_ble_eq_true rfl⟩) hS (fun E ce q9 G9 H locs hw hP hD hS hce hcv hcl => ?_) (fun r3 G1 H locs hw hP hD hS => ?_)
  · by_cases c2 : E = "java/lang/IllegalArgumentException"
    · replace hw := ite_t hw c2
      subst c2
      refine vx_catch hown [] ⟨0, 9, 12, 13⟩ [] htb (List.forall_mem_nil _) (by decide) (by decide) (hE.w qw_854 rfl _) (hE.w qw_648 rfl _) hce hcv hcl ?_
      refine lv_astore_n (lv' := [(3, .ref q9), (0, .ref (xa X 165)), (1, .int a2), (2, .ref (xa X 197))]) hx hb dL_totalFliesByAccounts_12 rfl hl (by decide) rfl (fun ls hl => ?_)
      refine lv_iconst (v := 1) hx hb dL_totalFliesByAccounts_13 (by decide) ?_
      exact end_i hx hb hr hlk rfl hw hP hD hS dL_totalFliesByAccounts_14
    · replace hw := ite_f hw c2
      exact hw.elim
  · refine lv_i2l hx hb dL_totalFliesByAccounts_7 rfl ?_
    obtain ⟨y4, hw⟩ := hw
    refine last_14 hx hb hE hP hD hS y4 dL_totalFliesByAccounts_8 (fun G5 H locs eG5 hP hD hS => ?_)
    replace hw := hw G5 eG5
    refine lv_goto (tgt := 15) hx hb dL_totalFliesByAccounts_9 (by decide) ?_
    refine lv_iconst (v := 0) hx hb dL_totalFliesByAccounts_15 (by decide) ?_
    exact end_i hx hb hr hlk rfl hw hP hD hS dL_totalFliesByAccounts_16
def wpL_vaultByValue (post : Int32 → GS → Prop) (a2 : Int32) (G : GS) : Prop :=
  wpX8_vaultByValue (fun (r3 : Int32) (G1 : GS) =>
  vp_in 0 1 ∧ ∀ G5 : GS, G5 = gL G1 ((0 : Int32).toNatClampNeg) r3.toInt64 →
    post 0 G5) (fun (E : String) (G9 : GS) =>
  if E = "java/util/NoSuchElementException" then
    post 1 G9
  else False) a2 G
set_option maxHeartbeats 4000000 in
set_option maxRecDepth 100000 in
theorem okL_vaultByValue (X : Cx) (l : Launch) (hfl : l.stackTraces = false) {post : Int32 → GS → Prop} {a2 : Int32} {G : GS}  (hw : wpL_vaultByValue post a2 G) : CTW X l yL_vaultByValue cL_vaultByValue 4 (some FieldType.int) [(0, 9, 12, 75)] 7 1 6 [.ref (xa X 165), .int a2, .ref (xa X 197)] G (Qi X post) := by
  refine mbeginW qw_1346 (by decide) (Nat.le_of_ble_eq_true rfl) (fun p e s m below meth c hx hb hr hml hlk hown htb hE hz ls hl hP hD hS => ?_)
  have hl : lv_has ls 4 [(0, .ref (xa X 165)), (1, .int a2), (2, .ref (xa X 197))] := hl
  have hown : s.vm.findClass "FlyTreasuryLaw" = some m.cls := hown
  unfold wpL_vaultByValue at hw
  refine lv_aload_n hx hb dL_vaultByValue_0 rfl (lv_at hl 2 rfl) ?_
  refine lv_iconst (v := 0) hx hb dL_vaultByValue_1 (by decide) ?_
  refine lv_aload_n hx hb dL_vaultByValue_2 rfl (lv_at hl 0 rfl) ?_
  refine lv_iload_n hx hb dL_vaultByValue_3 rfl (lv_at hl 1 rfl) ?_
  refine xcall_i (xrun_V (cc := cL_vaultByValue) (As := [.int a2]) (rest := [.int 0, .ref (xa X 197)]) hx hb hml hown hE hz (okX8_vaultByValue X l hfl  hw) qw_1347 qw_1348 qw_1349 qw_74 qw_1350 (myX8_vaultByValue) ⟨Nat.le_of_ble_eq_true rfl, Nat.le_of_ble_eq_true rfl⟩ (rv_X8 hE hP rfl) hP hD hS rfl hl.1 rfl (Nat.le_of_ble_eq_true rfl) dL_vaultByValue_4 ⟨Nat.le_of_ble_eq_true rfl, Nat.le_of_ble_eq_true rfl⟩) hS (fun E ce q9 G9 H locs hw hP hD hS hce hcv hcl => ?_) (fun r3 G1 H locs hw hP hD hS => ?_)
  · by_cases c2 : E = "java/util/NoSuchElementException"
    · replace hw := ite_t hw c2
      subst c2
      refine vx_catch hown [] ⟨0, 9, 12, 75⟩ [] htb (List.forall_mem_nil _) (by decide) (by decide) (hE.w qw_1229 rfl _) (hE.w qw_1236 rfl _) hce hcv hcl ?_
      refine lv_astore_n (lv' := [(3, .ref q9), (0, .ref (xa X 165)), (1, .int a2), (2, .ref (xa X 197))]) hx hb dL_vaultByValue_12 rfl hl (by decide) rfl (fun ls hl => ?_)
      refine lv_iconst (v := 1) hx hb dL_vaultByValue_13 (by decide) ?_
      exact end_i hx hb hr hlk rfl hw hP hD hS dL_vaultByValue_14
    · replace hw := ite_f hw c2
      exact hw.elim
  · refine lv_i2l hx hb dL_vaultByValue_7 rfl ?_
    obtain ⟨y4, hw⟩ := hw
    refine last_14 hx hb hE hP hD hS y4 dL_vaultByValue_8 (fun G5 H locs eG5 hP hD hS => ?_)
    replace hw := hw G5 eG5
    refine lv_goto (tgt := 15) hx hb dL_vaultByValue_9 (by decide) ?_
    refine lv_iconst (v := 0) hx hb dL_vaultByValue_15 (by decide) ?_
    exact end_i hx hb hr hlk rfl hw hP hD hS dL_vaultByValue_16
def wpL_kindByValue (post : Int32 → GS → Prop) (a2 : Int32) (G : GS) : Prop :=
  wpX8_kindByValue (fun (r3 : Int32) (G1 : GS) =>
  vp_in 0 1 ∧ ∀ G5 : GS, G5 = gL G1 ((0 : Int32).toNatClampNeg) r3.toInt64 →
    post 0 G5) (fun (E : String) (G9 : GS) =>
  if E = "java/util/NoSuchElementException" then
    post 1 G9
  else False) a2 G
set_option maxHeartbeats 4000000 in
set_option maxRecDepth 100000 in
theorem okL_kindByValue (X : Cx) (l : Launch) (hfl : l.stackTraces = false) {post : Int32 → GS → Prop} {a2 : Int32} {G : GS}  (hw : wpL_kindByValue post a2 G) : CTW X l yL_kindByValue cL_kindByValue 4 (some FieldType.int) [(0, 9, 12, 75)] 7 1 6 [.ref (xa X 165), .int a2, .ref (xa X 197)] G (Qi X post) := by
  refine mbeginW qw_1362 (by decide) (Nat.le_of_ble_eq_true rfl) (fun p e s m below meth c hx hb hr hml hlk hown htb hE hz ls hl hP hD hS => ?_)
  have hl : lv_has ls 4 [(0, .ref (xa X 165)), (1, .int a2), (2, .ref (xa X 197))] := hl
  have hown : s.vm.findClass "FlyTreasuryLaw" = some m.cls := hown
  unfold wpL_kindByValue at hw
  refine lv_aload_n hx hb dL_kindByValue_0 rfl (lv_at hl 2 rfl) ?_
  refine lv_iconst (v := 0) hx hb dL_kindByValue_1 (by decide) ?_
  refine lv_aload_n hx hb dL_kindByValue_2 rfl (lv_at hl 0 rfl) ?_
  refine lv_iload_n hx hb dL_kindByValue_3 rfl (lv_at hl 1 rfl) ?_
  refine xcall_i (xrun_V (cc := cL_kindByValue) (As := [.int a2]) (rest := [.int 0, .ref (xa X 197)]) hx hb hml hown hE hz (okX8_kindByValue X l hfl  hw) qw_1363 qw_1364 qw_1365 qw_74 qw_1366 (myX8_kindByValue) ⟨Nat.le_of_ble_eq_true rfl, Nat.le_of_ble_eq_true rfl⟩ (rv_X8 hE hP rfl) hP hD hS rfl hl.1 rfl (Nat.le_of_ble_eq_true rfl) dL_kindByValue_4 ⟨Nat.le_of_ble_eq_true rfl, Nat.le_of_ble_eq_true rfl⟩) hS (fun E ce q9 G9 H locs hw hP hD hS hce hcv hcl => ?_) (fun r3 G1 H locs hw hP hD hS => ?_)
  · by_cases c2 : E = "java/util/NoSuchElementException"
    · replace hw := ite_t hw c2
      subst c2
      refine vx_catch hown [] ⟨0, 9, 12, 75⟩ [] htb (List.forall_mem_nil _) (by decide) (by decide) (hE.w qw_1229 rfl _) (hE.w qw_1236 rfl _) hce hcv hcl ?_
      refine lv_astore_n (lv' := [(3, .ref q9), (0, .ref (xa X 165)), (1, .int a2), (2, .ref (xa X 197))]) hx hb dL_kindByValue_12 rfl hl (by decide) rfl (fun ls hl => ?_)
      refine lv_iconst (v := 1) hx hb dL_kindByValue_13 (by decide) ?_
      exact end_i hx hb hr hlk rfl hw hP hD hS dL_kindByValue_14
    · replace hw := ite_f hw c2
      exact hw.elim
  · refine lv_i2l hx hb dL_kindByValue_7 rfl ?_
    obtain ⟨y4, hw⟩ := hw
    refine last_14 hx hb hE hP hD hS y4 dL_kindByValue_8 (fun G5 H locs eG5 hP hD hS => ?_)
    replace hw := hw G5 eG5
    refine lv_goto (tgt := 15) hx hb dL_kindByValue_9 (by decide) ?_
    refine lv_iconst (v := 0) hx hb dL_kindByValue_15 (by decide) ?_
    exact end_i hx hb hr hlk rfl hw hP hD hS dL_kindByValue_16
def wpL_meanValue (post : Int32 → GS → Prop) (G : GS) : Prop :=
  wpX8_meanValue (fun (r3 : UInt64) (G1 : GS) =>
  vp_in 0 1 ∧ ∀ G5 : GS, G5 = gD G1 ((0 : Int32).toNatClampNeg) r3 →
    post 0 G5) (fun (E : String) (G9 : GS) =>
  if E = "java/lang/ArithmeticException" then
    post 1 G9
  else False)  G
set_option maxHeartbeats 4000000 in
set_option maxRecDepth 100000 in
theorem okL_meanValue (X : Cx) (l : Launch) (hfl : l.stackTraces = false) {post : Int32 → GS → Prop}  {G : GS}  (hw : wpL_meanValue post G) : CTW X l yL_meanValue cL_meanValue 3 (some FieldType.int) [(0, 7, 10, 122)] 7 1 6 [.ref (xa X 165), .ref (xa X 198)] G (Qi X post) := by
  refine mbeginW qw_1377 (by decide) (Nat.le_of_ble_eq_true rfl) (fun p e s m below meth c hx hb hr hml hlk hown htb hE hz ls hl hP hD hS => ?_)
  have hl : lv_has ls 3 [(0, .ref (xa X 165)), (1, .ref (xa X 198))] := hl
  have hown : s.vm.findClass "FlyTreasuryLaw" = some m.cls := hown
  unfold wpL_meanValue at hw
  refine lv_aload_n hx hb dL_meanValue_0 rfl (lv_at hl 1 rfl) ?_
  refine lv_iconst (v := 0) hx hb dL_meanValue_1 (by decide) ?_
  refine lv_aload_n hx hb dL_meanValue_2 rfl (lv_at hl 0 rfl) ?_
  refine xcall_d (xrun_V (cc := cL_meanValue) (As := []) (rest := [.int 0, .ref (xa X 198)]) hx hb hml hown hE hz (okX8_meanValue X l hfl  hw) qw_1392 qw_1393 qw_1394 qw_74 qw_1395 (myX8_meanValue) ⟨Nat.le_of_ble_eq_true rfl, Nat.le_of_ble_eq_true rfl⟩ (rv_X8 hE hP rfl) hP hD hS rfl hl.1 rfl (Nat.le_of_ble_eq_true rfl) dL_meanValue_3 ⟨Nat.le_of_ble_eq_true rfl, Nat.le_of_ble_eq_true rfl⟩) hS (fun E ce q9 G9 H locs hw hP hD hS hce hcv hcl => ?_) (fun r3 G1 H locs hw hP hD hS => ?_)
  · by_cases c2 : E = "java/lang/ArithmeticException"
    · replace hw := ite_t hw c2
      subst c2
      refine vx_catch hown [] ⟨0, 7, 10, 122⟩ [] htb (List.forall_mem_nil _) (by decide) (by decide) (hE.w qw_1378 rfl _) (hE.w qw_1390 rfl _) hce hcv hcl ?_
      refine lv_astore_n (lv' := [(2, .ref q9), (0, .ref (xa X 165)), (1, .ref (xa X 198))]) hx hb dL_meanValue_10 rfl hl (by decide) rfl (fun ls hl => ?_)
      refine lv_iconst (v := 1) hx hb dL_meanValue_11 (by decide) ?_
      exact end_i hx hb hr hlk rfl hw hP hD hS dL_meanValue_12
    · replace hw := ite_f hw c2
      exact hw.elim
  · obtain ⟨y4, hw⟩ := hw
    refine dast_15 hx hb hE hP hD hS y4 dL_meanValue_6 (fun G5 H locs eG5 hP hD hS => ?_)
    replace hw := hw G5 eG5
    refine lv_goto (tgt := 13) hx hb dL_meanValue_7 (by decide) ?_
    refine lv_iconst (v := 0) hx hb dL_meanValue_13 (by decide) ?_
    exact end_i hx hb hr hlk rfl hw hP hD hS dL_meanValue_14
def wpL_soundShare (post : Int32 → GS → Prop) (G : GS) : Prop :=
  wpX8_soundShare (fun (r3 : UInt32) (G1 : GS) =>
  vf_n64 (FP.f2d r3) ∧
    vp_in 0 1 ∧ ∀ G6 : GS, G6 = gD G1 ((0 : Int32).toNatClampNeg) (FP.f2d r3) →
    post 0 G6) (fun (E : String) (G9 : GS) =>
  if E = "java/lang/ArithmeticException" then
    post 1 G9
  else False)  G
set_option maxHeartbeats 4000000 in
set_option maxRecDepth 100000 in
theorem okL_soundShare (X : Cx) (l : Launch) (hfl : l.stackTraces = false) {post : Int32 → GS → Prop}  {G : GS}  (hw : wpL_soundShare post G) : CTW X l yL_soundShare cL_soundShare 3 (some FieldType.int) [(0, 8, 11, 122)] 7 1 6 [.ref (xa X 165), .ref (xa X 198)] G (Qi X post) := by
  refine mbeginW qw_1401 (by decide) (Nat.le_of_ble_eq_true rfl) (fun p e s m below meth c hx hb hr hml hlk hown htb hE hz ls hl hP hD hS => ?_)
  have hl : lv_has ls 3 [(0, .ref (xa X 165)), (1, .ref (xa X 198))] := hl
  have hown : s.vm.findClass "FlyTreasuryLaw" = some m.cls := hown
  unfold wpL_soundShare at hw
  refine lv_aload_n hx hb dL_soundShare_0 rfl (lv_at hl 1 rfl) ?_
  refine lv_iconst (v := 0) hx hb dL_soundShare_1 (by decide) ?_
  refine lv_aload_n hx hb dL_soundShare_2 rfl (lv_at hl 0 rfl) ?_
  refine xcall_f (xrun_V (cc := cL_soundShare) (As := []) (rest := [.int 0, .ref (xa X 198)]) hx hb hml hown hE hz (okX8_soundShare X l hfl  hw) qw_1402 qw_1403 qw_1404 qw_74 qw_1405 (myX8_soundShare) ⟨Nat.le_of_ble_eq_true rfl, Nat.le_of_ble_eq_true rfl⟩ (rv_X8 hE hP rfl) hP hD hS rfl hl.1 rfl (Nat.le_of_ble_eq_true rfl) dL_soundShare_3 ⟨Nat.le_of_ble_eq_true rfl, Nat.le_of_ble_eq_true rfl⟩) hS (fun E ce q9 G9 H locs hw hP hD hS hce hcv hcl => ?_) (fun r3 G1 H locs hw hP hD hS => ?_)
  · by_cases c2 : E = "java/lang/ArithmeticException"
    · replace hw := ite_t hw c2
      subst c2
      refine vx_catch hown [] ⟨0, 8, 11, 122⟩ [] htb (List.forall_mem_nil _) (by decide) (by decide) (hE.w qw_1378 rfl _) (hE.w qw_1390 rfl _) hce hcv hcl ?_
      refine lv_astore_n (lv' := [(2, .ref q9), (0, .ref (xa X 165)), (1, .ref (xa X 198))]) hx hb dL_soundShare_11 rfl hl (by decide) rfl (fun ls hl => ?_)
      refine lv_iconst (v := 1) hx hb dL_soundShare_12 (by decide) ?_
      exact end_i hx hb hr hlk rfl hw hP hD hS dL_soundShare_13
    · replace hw := ite_f hw c2
      exact hw.elim
  · obtain ⟨y4, hw⟩ := hw
    refine lv_f2d hx hb dL_soundShare_6 y4 ?_
    obtain ⟨y5, hw⟩ := hw
    refine dast_15 hx hb hE hP hD hS y5 dL_soundShare_7 (fun G6 H locs eG6 hP hD hS => ?_)
    replace hw := hw G6 eG6
    refine lv_goto (tgt := 14) hx hb dL_soundShare_8 (by decide) ?_
    refine lv_iconst (v := 0) hx hb dL_soundShare_14 (by decide) ?_
    exact end_i hx hb hr hlk rfl hw hP hD hS dL_soundShare_15
