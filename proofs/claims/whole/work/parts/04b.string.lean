def wpJ0_coder_7d493 (post : Int32 → GS → Prop) (k0 : Nat) (G : GS) : Prop :=
  if (1 : Int32) = 0 then
  post 1 G
else
  post 0 G
set_option maxHeartbeats 4000000 in
set_option maxRecDepth 100000 in
theorem okJ0_coder_7d493 (X : Cx) (l : Launch) (hfl : l.stackTraces = false) {post : Int32 → GS → Prop} {k0 : Nat} {G : GS} (h0 : k0 < 37) (hw : wpJ0_coder_7d493 post k0 G) : CT X l yJ0_coder_7d493 cJ0_coder_7d493 1 (some FieldType.byte) 1 0 0 [.ref (xk X 2 k0)] G (Qi X post) := by
  refine mbegin (by decide) (Nat.le_of_ble_eq_true rfl) (fun p e s m below meth c hx hb hr hml hlk hown hE hz ls hl hP hD hS => ?_)
  have hl : lv_has ls 1 [(0, .ref (xk X 2 k0))] := hl
  have hown : s.vm.findClass "java/lang/String" = some m.cls := hown
  unfold wpJ0_coder_7d493 at hw
  refine va_gets hx hb hE.cs hS hown (hE.w qw_550 rfl _) (fun _ h9 => h9) dJ0_coder_7d493_0 ?_
  refine lv_if_eq (tgt := 13) hx hb dJ0_coder_7d493_3 (by decide) (fun c1 => ?_) (fun c1 => ?_)
  · replace hw := ite_t hw c1
    refine lv_iconst (v := 1) hx hb dJ0_coder_7d493_13 (by decide) ?_
    exact end_i hx hb hr hlk (by decide) hw hP hD hS dJ0_coder_7d493_14
  · replace hw := ite_f hw c1
    refine lv_aload_n hx hb dJ0_coder_7d493_6 rfl (lv_at hl 0 rfl) ?_
    refine vk_getf hx hb (hE.S.1 _ h0).2.1 hS hown (hE.w qw_737 rfl _) (fun _ h9 => h9) dJ0_coder_7d493_7 ?_
    refine lv_goto (tgt := 14) hx hb dJ0_coder_7d493_10 (by decide) ?_
    exact end_i hx hb hr hlk (by decide) hw hP hD hS dJ0_coder_7d493_14
def wpJ0_length_8abf5 (post : Int32 → GS → Prop) (k0 : Nat) (G : GS) : Prop :=
  wpJ0_coder_7d493 (fun (r2 : Int32) (G1 : GS) =>
  post ((nI (LTl.getD k0 0)) >>> (r2 &&& 31)) G1) k0 G
set_option maxHeartbeats 4000000 in
set_option maxRecDepth 100000 in
theorem okJ0_length_8abf5 (X : Cx) (l : Launch) (hfl : l.stackTraces = false) {post : Int32 → GS → Prop} {k0 : Nat} {G : GS} (h0 : k0 < 37) (hw : wpJ0_length_8abf5 post k0 G) : CT X l yJ0_length_8abf5 cJ0_length_8abf5 1 (some FieldType.int) 2 0 0 [.ref (xk X 2 k0)] G (Qi X post) := by
  refine mbegin (by decide) (Nat.le_of_ble_eq_true rfl) (fun p e s m below meth c hx hb hr hml hlk hown hE hz ls hl hP hD hS => ?_)
  have hl : lv_has ls 1 [(0, .ref (xk X 2 k0))] := hl
  have hown : s.vm.findClass "java/lang/String" = some m.cls := hown
  unfold wpJ0_length_8abf5 at hw
  refine lv_aload_n hx hb dJ0_length_8abf5_0 rfl (lv_at hl 0 rfl) ?_
  refine vk_getf hx hb (hE.S.1 _ h0).2.2.1 hS hown (hE.w qw_736 rfl _) (fun _ h9 => h9) dJ0_length_8abf5_1 ?_
  refine va_tlen hx hb (hE.S.1 _ h0).2.2.2 hS rfl dJ0_length_8abf5_4 ?_
  refine lv_aload_n hx hb dJ0_length_8abf5_5 rfl (lv_at hl 0 rfl) ?_
  refine call_i (run_V (cc := cJ0_length_8abf5) (As := []) (rest := [.int (nI (LTl.getD k0 0))]) hx hb hml hown hE hz (okJ0_coder_7d493 X l hfl h0 hw) qw_546 qw_547 qw_548 qw_84 qw_549 (myJ0_coder_7d493) ⟨Nat.le_of_ble_eq_true rfl, Nat.le_of_ble_eq_true rfl⟩ (vk_recv hE.S h0 hS) hP hD hS rfl hl.1 rfl (Nat.le_of_ble_eq_true rfl) dJ0_length_8abf5_6 ⟨Nat.le_of_ble_eq_true rfl, Nat.le_of_ble_eq_true rfl⟩) hS (fun r2 G1 H locs hw hP hD hS => ?_)
  refine lv_ishr hx hb dJ0_length_8abf5_9 ?_
  exact end_i hx hb hr hlk rfl hw hP hD hS dJ0_length_8abf5_10
def wpJ0_isLatin1_aae02 (post : Int32 → GS → Prop) (k0 : Nat) (G : GS) : Prop :=
  if (1 : Int32) = 0 then
  post 0 G
else
  if (0 : Int32) = 0 then
    post 1 G
  else
    post 0 G
set_option maxHeartbeats 4000000 in
set_option maxRecDepth 100000 in
theorem okJ0_isLatin1_aae02 (X : Cx) (l : Launch) (hfl : l.stackTraces = false) {post : Int32 → GS → Prop} {k0 : Nat} {G : GS} (h0 : k0 < 37) (hw : wpJ0_isLatin1_aae02 post k0 G) : CT X l yJ0_isLatin1_aae02 cJ0_isLatin1_aae02 1 (some FieldType.boolean) 1 0 0 [.ref (xk X 2 k0)] G (Qi X post) := by
  refine mbegin (by decide) (Nat.le_of_ble_eq_true rfl) (fun p e s m below meth c hx hb hr hml hlk hown hE hz ls hl hP hD hS => ?_)
  have hl : lv_has ls 1 [(0, .ref (xk X 2 k0))] := hl
  have hown : s.vm.findClass "java/lang/String" = some m.cls := hown
  unfold wpJ0_isLatin1_aae02 at hw
  refine va_gets hx hb hE.cs hS hown (hE.w qw_550 rfl _) (fun _ h9 => h9) dJ0_isLatin1_aae02_0 ?_
  refine lv_if_eq (tgt := 17) hx hb dJ0_isLatin1_aae02_3 (by decide) (fun c1 => ?_) (fun c1 => ?_)
  · replace hw := ite_t hw c1
    refine lv_iconst (v := 0) hx hb dJ0_isLatin1_aae02_17 (by decide) ?_
    exact end_i hx hb hr hlk (by decide) hw hP hD hS dJ0_isLatin1_aae02_18
  · replace hw := ite_f hw c1
    refine lv_aload_n hx hb dJ0_isLatin1_aae02_6 rfl (lv_at hl 0 rfl) ?_
    refine vk_getf hx hb (hE.S.1 _ h0).2.1 hS hown (hE.w qw_737 rfl _) (fun _ h9 => h9) dJ0_isLatin1_aae02_7 ?_
    refine lv_if_ne (tgt := 17) hx hb dJ0_isLatin1_aae02_10 (by decide) (fun c2 => ?_) (fun c2 => ?_)
    · replace hw := ite_f hw c2
      refine lv_iconst (v := 0) hx hb dJ0_isLatin1_aae02_17 (by decide) ?_
      exact end_i hx hb hr hlk (by decide) hw hP hD hS dJ0_isLatin1_aae02_18
    · replace hw := ite_t hw c2
      refine lv_iconst (v := 1) hx hb dJ0_isLatin1_aae02_13 (by decide) ?_
      refine lv_goto (tgt := 18) hx hb dJ0_isLatin1_aae02_14 (by decide) ?_
      exact end_i hx hb hr hlk (by decide) hw hP hD hS dJ0_isLatin1_aae02_18
def wpJ3_checkIndex_8e157 (post : Int32 → GS → Prop) (a1 : Int32) (a2 : Int32) (r3 : Option Nat) (G : GS) : Prop :=
  if a1 < 0 then
  False
else
  if a1 < a2 then
    post a1 G
  else
    False
set_option maxHeartbeats 4000000 in
set_option maxRecDepth 100000 in
theorem okJ3_checkIndex_8e157 (X : Cx) (l : Launch) (hfl : l.stackTraces = false) {post : Int32 → GS → Prop} {a1 : Int32} {a2 : Int32} {r3 : Option Nat} {G : GS}  (hw : wpJ3_checkIndex_8e157 post a1 a2 r3 G) : CT X l yJ3_checkIndex_8e157 cJ3_checkIndex_8e157 3 (some FieldType.int) 1 0 0 [.int a1, .int a2, va_rf r3] G (Qi X post) := by
  refine mbegin (by decide) (by cases r3 <;> exact Nat.le_of_ble_eq_true rfl) (fun p e s m below meth c hx hb hr hml hlk hown hE hz ls hl hP hD hS => ?_)
  have hl : lv_has ls 3 [(0, .int a1), (1, .int a2)] := by cases r3 <;> exact lv_sub hl [0, 1] rfl
  have hown : s.vm.findClass "jdk/internal/util/Preconditions" = some m.cls := hown
  unfold wpJ3_checkIndex_8e157 at hw
  refine lv_iload_n hx hb dJ3_checkIndex_8e157_0 rfl (lv_at hl 0 rfl) ?_
  refine lv_if_lt (tgt := 9) hx hb dJ3_checkIndex_8e157_1 (by decide) (fun c1 => ?_) (fun c1 => ?_)
  · replace hw := ite_t hw c1
    exact hw.elim
  · replace hw := ite_f hw c1
    refine lv_iload_n hx hb dJ3_checkIndex_8e157_4 rfl (lv_at hl 0 rfl) ?_
    refine lv_iload_n hx hb dJ3_checkIndex_8e157_5 rfl (lv_at hl 1 rfl) ?_
    refine lv_icmp_lt (tgt := 16) hx hb dJ3_checkIndex_8e157_6 (by decide) (fun c2 => ?_) (fun c2 => ?_)
    · replace hw := ite_t hw c2
      refine lv_iload_n hx hb dJ3_checkIndex_8e157_16 rfl (lv_at hl 0 rfl) ?_
      exact end_i hx hb hr hlk rfl hw hP hD hS dJ3_checkIndex_8e157_17
    · replace hw := ite_f hw c2
      exact hw.elim
def wpJ0_checkIndex_df160 (post : GS → Prop) (a1 : Int32) (a2 : Int32) (G : GS) : Prop :=
  ∀ rf1 : Option Nat,
  wpJ3_checkIndex_8e157 (fun (r3 : Int32) (G2 : GS) =>
  post G2) a1 a2 rf1 G
set_option maxHeartbeats 4000000 in
set_option maxRecDepth 100000 in
theorem okJ0_checkIndex_df160 (X : Cx) (l : Launch) (hfl : l.stackTraces = false) {post : GS → Prop} {a1 : Int32} {a2 : Int32} {G : GS}  (hw : wpJ0_checkIndex_df160 post a1 a2 G) : CT X l yJ0_checkIndex_df160 cJ0_checkIndex_df160 2 none 2 0 0 [.int a1, .int a2] G (Qv X post) := by
  refine mbegin (by decide) (Nat.le_of_ble_eq_true rfl) (fun p e s m below meth c hx hb hr hml hlk hown hE hz ls hl hP hD hS => ?_)
  have hl : lv_has ls 2 [(0, .int a1), (1, .int a2)] := hl
  have hown : s.vm.findClass "java/lang/String" = some m.cls := hown
  unfold wpJ0_checkIndex_df160 at hw
  refine lv_iload_n hx hb dJ0_checkIndex_df160_0 rfl (lv_at hl 0 rfl) ?_
  refine lv_iload_n hx hb dJ0_checkIndex_df160_1 rfl (lv_at hl 1 rfl) ?_
  obtain ⟨rf1, hZrf1⟩ := hE.fm
  replace hw := hw rf1
  refine va_gets hx hb hZrf1 hS hown (hE.w qw_528 rfl _) (fun _ h9 => h9) dJ0_checkIndex_df160_2 ?_
  refine call_i (run_S (cc := cJ0_checkIndex_df160) (As := [.int a1, .int a2, va_rf rf1]) (rest := []) hx hb hml hown hE hz (okJ3_checkIndex_8e157 X l hfl  hw) qw_816 qw_817 qw_100 qw_818 (myJ3_checkIndex_8e157).2 ⟨Nat.le_of_ble_eq_true rfl, Nat.le_of_ble_eq_true rfl⟩ hP hD hS rfl hl.1 rfl (Nat.le_of_ble_eq_true rfl) dJ0_checkIndex_df160_5 ⟨Nat.le_of_ble_eq_true rfl, Nat.le_of_ble_eq_true rfl⟩) hS (fun r3 G2 H locs hw hP hD hS => ?_)
  refine lv_pop hx hb dJ0_checkIndex_df160_8 rfl ?_
  exact end_v hx hb hr hlk hw hP hD hS dJ0_checkIndex_df160_9
def wpJ1_charAt_3b067 (post : Int32 → GS → Prop) (k1 : Nat) (a2 : Int32) (G : GS) : Prop :=
  wpJ0_checkIndex_df160 (fun (G1 : GS) =>
  vp_in a2 (LTl.getD k1 0) ∧
    narrow .char (.int (((((LTb.getD k1 []).getD a2.toNatClampNeg 0) &&& 255).toUInt32 % 65536).toInt32)) = .int (((((LTb.getD k1 []).getD a2.toNatClampNeg 0) &&& 255).toUInt32 % 65536).toInt32) ∧ post (((((LTb.getD k1 []).getD a2.toNatClampNeg 0) &&& 255).toUInt32 % 65536).toInt32) G1) a2 (nI (LTl.getD k1 0)) G
set_option maxHeartbeats 4000000 in
set_option maxRecDepth 100000 in
theorem okJ1_charAt_3b067 (X : Cx) (l : Launch) (hfl : l.stackTraces = false) {post : Int32 → GS → Prop} {k1 : Nat} {a2 : Int32} {G : GS} (h1 : k1 < 37) (hw : wpJ1_charAt_3b067 post k1 a2 G) : CT X l yJ1_charAt_3b067 cJ1_charAt_3b067 2 (some FieldType.char) 3 0 0 [.ref (xk X 3 k1), .int a2] G (Qi X post) := by
  refine mbegin (by decide) (Nat.le_of_ble_eq_true rfl) (fun p e s m below meth c hx hb hr hml hlk hown hE hz ls hl hP hD hS => ?_)
  have hl : lv_has ls 2 [(0, .ref (xk X 3 k1)), (1, .int a2)] := hl
  have hown : s.vm.findClass "java/lang/StringLatin1" = some m.cls := hown
  unfold wpJ1_charAt_3b067 at hw
  refine lv_iload_n hx hb dJ1_charAt_3b067_0 rfl (lv_at hl 1 rfl) ?_
  refine lv_aload_n hx hb dJ1_charAt_3b067_1 rfl (lv_at hl 0 rfl) ?_
  refine va_tlen hx hb (hE.S.1 _ h1).2.2.2 hS rfl dJ1_charAt_3b067_2 ?_
  refine call_v (run_S (cc := cJ1_charAt_3b067) (As := [.int a2, .int (nI (LTl.getD k1 0))]) (rest := []) hx hb hml hown hE hz (okJ0_checkIndex_df160 X l hfl  hw) qw_831 qw_814 qw_84 qw_815 (myJ0_checkIndex_df160).2 ⟨Nat.le_of_ble_eq_true rfl, Nat.le_of_ble_eq_true rfl⟩ hP hD hS rfl hl.1 rfl (Nat.le_of_ble_eq_true rfl) dJ1_charAt_3b067_3 ⟨Nat.le_of_ble_eq_true rfl, Nat.le_of_ble_eq_true rfl⟩) hS (fun G1 H locs hw hP hD hS => ?_)
  refine lv_aload_n hx hb dJ1_charAt_3b067_6 rfl (lv_at hl 0 rfl) ?_
  refine lv_iload_n hx hb dJ1_charAt_3b067_7 rfl (lv_at hl 1 rfl) ?_
  obtain ⟨y2, hw⟩ := hw
  refine va_tb hx hb (hE.S.1 _ h1).2.2.2 hS y2 rfl dJ1_charAt_3b067_8 ?_
  refine lv_sipush (v := 255) hx hb dJ1_charAt_3b067_9 (by decide) ?_
  refine lv_iand hx hb dJ1_charAt_3b067_12 ?_
  refine lv_i2c hx hb dJ1_charAt_3b067_13 rfl ?_
  obtain ⟨y3, hw⟩ := hw
  exact end_i hx hb hr hlk y3 hw hP hD hS dJ1_charAt_3b067_14
def wpJ0_charAt_5068e (post : Int32 → GS → Prop) (k0 : Nat) (a1 : Int32) (G : GS) : Prop :=
  wpJ0_isLatin1_aae02 (fun (r2 : Int32) (G1 : GS) =>
  if r2 = 0 then
    False
  else
    wpJ1_charAt_3b067 (fun (r5 : Int32) (G4 : GS) =>
      narrow .char (.int r5) = .int r5 ∧ post r5 G4) k0 a1 G1) k0 G
set_option maxHeartbeats 4000000 in
set_option maxRecDepth 100000 in
theorem okJ0_charAt_5068e (X : Cx) (l : Launch) (hfl : l.stackTraces = false) {post : Int32 → GS → Prop} {k0 : Nat} {a1 : Int32} {G : GS} (h0 : k0 < 37) (hw : wpJ0_charAt_5068e post k0 a1 G) : CT X l yJ0_charAt_5068e cJ0_charAt_5068e 2 (some FieldType.char) 4 0 0 [.ref (xk X 2 k0), .int a1] G (Qi X post) := by
  refine mbegin (by decide) (Nat.le_of_ble_eq_true rfl) (fun p e s m below meth c hx hb hr hml hlk hown hE hz ls hl hP hD hS => ?_)
  have hl : lv_has ls 2 [(0, .ref (xk X 2 k0)), (1, .int a1)] := hl
  have hown : s.vm.findClass "java/lang/String" = some m.cls := hown
  unfold wpJ0_charAt_5068e at hw
  refine lv_aload_n hx hb dJ0_charAt_5068e_0 rfl (lv_at hl 0 rfl) ?_
  refine call_i (run_V (cc := cJ0_charAt_5068e) (As := []) (rest := []) hx hb hml hown hE hz (okJ0_isLatin1_aae02 X l hfl h0 hw) qw_824 qw_825 qw_826 qw_84 qw_827 (myJ0_isLatin1_aae02) ⟨Nat.le_of_ble_eq_true rfl, Nat.le_of_ble_eq_true rfl⟩ (vk_recv hE.S h0 hS) hP hD hS rfl hl.1 rfl (Nat.le_of_ble_eq_true rfl) dJ0_charAt_5068e_1 ⟨Nat.le_of_ble_eq_true rfl, Nat.le_of_ble_eq_true rfl⟩) hS (fun r2 G1 H locs hw hP hD hS => ?_)
  refine lv_if_eq (tgt := 16) hx hb dJ0_charAt_5068e_4 (by decide) (fun c3 => ?_) (fun c3 => ?_)
  · replace hw := ite_t hw c3
    exact hw.elim
  · replace hw := ite_f hw c3
    refine lv_aload_n hx hb dJ0_charAt_5068e_7 rfl (lv_at hl 0 rfl) ?_
    refine vk_getf hx hb (hE.S.1 _ h0).2.2.1 hS hown (hE.w qw_736 rfl _) (fun _ h9 => h9) dJ0_charAt_5068e_8 ?_
    refine lv_iload_n hx hb dJ0_charAt_5068e_11 rfl (lv_at hl 1 rfl) ?_
    refine call_i (run_S (cc := cJ0_charAt_5068e) (As := [.ref (xk X 3 k0), .int a1]) (rest := []) hx hb hml hown hE hz (okJ1_charAt_3b067 X l hfl h0 hw) qw_828 qw_829 qw_99 qw_830 (myJ1_charAt_3b067).2 ⟨Nat.le_of_ble_eq_true rfl, Nat.le_of_ble_eq_true rfl⟩ hP hD hS rfl hl.1 rfl (Nat.le_of_ble_eq_true rfl) dJ0_charAt_5068e_12 ⟨Nat.le_of_ble_eq_true rfl, Nat.le_of_ble_eq_true rfl⟩) hS (fun r5 G4 H locs hw hP hD hS => ?_)
    obtain ⟨y6, hw⟩ := hw
    exact end_i hx hb hr hlk y6 hw hP hD hS dJ0_charAt_5068e_15
def wpJ1_canEncode_9a6ad (post : Int32 → GS → Prop) (a1 : Int32) (G : GS) : Prop :=
  if a1 < 0 then
  post 0 G
else
  if 255 < a1 then
    post 0 G
  else
    post 1 G
set_option maxHeartbeats 4000000 in
set_option maxRecDepth 100000 in
theorem okJ1_canEncode_9a6ad (X : Cx) (l : Launch) (hfl : l.stackTraces = false) {post : Int32 → GS → Prop} {a1 : Int32} {G : GS}  (hw : wpJ1_canEncode_9a6ad post a1 G) : CT X l yJ1_canEncode_9a6ad cJ1_canEncode_9a6ad 1 (some FieldType.boolean) 1 0 0 [.int a1] G (Qi X post) := by
  refine mbegin (by decide) (Nat.le_of_ble_eq_true rfl) (fun p e s m below meth c hx hb hr hml hlk hown hE hz ls hl hP hD hS => ?_)
  have hl : lv_has ls 1 [(0, .int a1)] := hl
  have hown : s.vm.findClass "java/lang/StringLatin1" = some m.cls := hown
  unfold wpJ1_canEncode_9a6ad at hw
  refine lv_iload_n hx hb dJ1_canEncode_9a6ad_0 rfl (lv_at hl 0 rfl) ?_
  refine lv_if_lt (tgt := 15) hx hb dJ1_canEncode_9a6ad_1 (by decide) (fun c1 => ?_) (fun c1 => ?_)
  · replace hw := ite_t hw c1
    refine lv_iconst (v := 0) hx hb dJ1_canEncode_9a6ad_15 (by decide) ?_
    exact end_i hx hb hr hlk (by decide) hw hP hD hS dJ1_canEncode_9a6ad_16
  · replace hw := ite_f hw c1
    refine lv_iload_n hx hb dJ1_canEncode_9a6ad_4 rfl (lv_at hl 0 rfl) ?_
    refine lv_sipush (v := 255) hx hb dJ1_canEncode_9a6ad_5 (by decide) ?_
    refine lv_icmp_gt (tgt := 15) hx hb dJ1_canEncode_9a6ad_8 (by decide) (fun c2 => ?_) (fun c2 => ?_)
    · replace hw := ite_t hw c2
      refine lv_iconst (v := 0) hx hb dJ1_canEncode_9a6ad_15 (by decide) ?_
      exact end_i hx hb hr hlk (by decide) hw hP hD hS dJ1_canEncode_9a6ad_16
    · replace hw := ite_f hw c2
      refine lv_iconst (v := 1) hx hb dJ1_canEncode_9a6ad_11 (by decide) ?_
      refine lv_goto (tgt := 16) hx hb dJ1_canEncode_9a6ad_12 (by decide) ?_
      exact end_i hx hb hr hlk (by decide) hw hP hD hS dJ1_canEncode_9a6ad_16
def wlJ1_indexOfChar_4cfef_7 (post : Int32 → GS → Prop) (k1 : Nat) (a2 : Int32) (a3 : Int32) (a4 : Int32) : Nat → GS → Int32 → Int32 → Prop
  | 0, _, _, _ => False
  | n + 1, G, v4, v5 =>
    if a4 ≤ v5 then
  post (-1) G
else
  vp_in v5 (LTl.getD k1 0) ∧
    if ((LTb.getD k1 []).getD v5.toNatClampNeg 0) = v4 then
    post v5 G
  else
    ∀ z5 : Int32, z5 = v5 + 1 →
      wlJ1_indexOfChar_4cfef_7 post k1 a2 a3 a4 n G v4 z5
def wpJ1_indexOfChar_4cfef (post : Int32 → GS → Prop) (k1 : Nat) (a2 : Int32) (a3 : Int32) (a4 : Int32) (G : GS) : Prop :=
  ∀ z1 : Int32, z1 = a2.toInt8.toInt32 →
  ∃ nn, wlJ1_indexOfChar_4cfef_7 post k1 a2 a3 a4 nn G z1 a3
set_option maxHeartbeats 4000000 in
set_option maxRecDepth 100000 in
theorem okJ1_indexOfChar_4cfef (X : Cx) (l : Launch) (hfl : l.stackTraces = false) {post : Int32 → GS → Prop} {k1 : Nat} {a2 : Int32} {a3 : Int32} {a4 : Int32} {G : GS} (h1 : k1 < 37) (hw : wpJ1_indexOfChar_4cfef post k1 a2 a3 a4 G) : CT X l yJ1_indexOfChar_4cfef cJ1_indexOfChar_4cfef 6 (some FieldType.int) 1 0 0 [.ref (xk X 3 k1), .int a2, .int a3, .int a4] G (Qi X post) := by
  refine mbegin (by decide) (Nat.le_of_ble_eq_true rfl) (fun p e s m below meth c hx hb hr hml hlk hown hE hz ls hl hP hD hS => ?_)
  have hl : lv_has ls 6 [(0, .ref (xk X 3 k1)), (1, .int a2), (2, .int a3), (3, .int a4)] := hl
  have hown : s.vm.findClass "java/lang/StringLatin1" = some m.cls := hown
  have L7 : ∀ (n7 : Nat) (G : GS) (v4 : Int32) (v5 : Int32) (H : Heap) (locs : List Loc) (ls : Array Slot), wlJ1_indexOfChar_4cfef_7 post k1 a2 a3 a4 n7 G v4 v5 → va_P (xD X) vwCl (pool X G) H → va_D (xA X) (pool X G) → va_S (xA X) s.heap H locs → lv_has ls 6 [(0, .ref (xk X 3 k1)), (3, .int a4), (4, .int v4), (5, .int v5)] → W p l e (rmL 1 0 0) s m [.ref (xk X 3 k1), .int a2, .int a3, .int a4].toArray below meth c H locs 0 0 (MQ below (Qi X post) [.ref (xk X 3 k1), .int a2, .int a3, .int a4].toArray s 0 0 (xA X)) (F0 m 7 ls []) := by
    intro n7
    induction n7 with
    | zero => intro G v4 v5  H locs ls hw; exact hw.elim
    | succ n7 ih7 =>
      intro G v4 v5  H locs ls hw hP hD hS hl
      rw [wlJ1_indexOfChar_4cfef_7] at hw
      refine lv_iload hx hb dJ1_indexOfChar_4cfef_7 (lv_at hl 3 rfl) ?_
      refine lv_iload_n hx hb dJ1_indexOfChar_4cfef_9 rfl (lv_at hl 1 rfl) ?_
      refine lv_icmp_ge (tgt := 31) hx hb dJ1_indexOfChar_4cfef_10 (by decide) (fun c6 => ?_) (fun c6 => ?_)
      · replace hw := ite_t hw c6
        refine lv_iconst (v := -1) hx hb dJ1_indexOfChar_4cfef_31 (by decide) ?_
        exact end_i hx hb hr hlk rfl hw hP hD hS dJ1_indexOfChar_4cfef_32
      · replace hw := ite_f hw c6
        refine lv_aload_n hx hb dJ1_indexOfChar_4cfef_13 rfl (lv_at hl 0 rfl) ?_
        refine lv_iload hx hb dJ1_indexOfChar_4cfef_14 (lv_at hl 3 rfl) ?_
        obtain ⟨y7, hw⟩ := hw
        refine va_tb hx hb (hE.S.1 _ h1).2.2.2 hS y7 rfl dJ1_indexOfChar_4cfef_16 ?_
        refine lv_iload hx hb dJ1_indexOfChar_4cfef_17 (lv_at hl 2 rfl) ?_
        refine lv_icmp_ne (tgt := 25) hx hb dJ1_indexOfChar_4cfef_19 (by decide) (fun c8 => ?_) (fun c8 => ?_)
        · replace hw := ite_f hw c8
          obtain ⟨z9, ez9⟩ : ∃ y : Int32, y = v5 + 1 := ⟨_, rfl⟩
          replace hw := hw z9 ez9
          refine lv_iinc (v := z9) (lv' := [(5, .int z9), (0, .ref (xk X 3 k1)), (3, .int a4), (4, .int v4)]) hx hb dJ1_indexOfChar_4cfef_25 hl (k := 3) rfl (by rw [ez9]; rfl) (by decide) rfl (fun ls hl => ?_)
          refine lv_goto (tgt := 7) hx hb dJ1_indexOfChar_4cfef_28 (by decide) ?_
          exact ih7 G v4 z9  _ _ _ hw hP hD hS (lv_sub hl [1, 2, 3, 0] rfl)
        · replace hw := ite_t hw c8
          refine lv_iload hx hb dJ1_indexOfChar_4cfef_22 (lv_at hl 3 rfl) ?_
          exact end_i hx hb hr hlk rfl hw hP hD hS dJ1_indexOfChar_4cfef_24
  unfold wpJ1_indexOfChar_4cfef at hw
  refine lv_iload_n hx hb dJ1_indexOfChar_4cfef_0 rfl (lv_at hl 1 rfl) ?_
  refine lv_i2b hx hb dJ1_indexOfChar_4cfef_1 rfl ?_
  refine lv_topi (fun z1 ez1 => ?_)
  replace hw := hw z1 ez1
  refine lv_istore (lv' := [(4, .int z1), (0, .ref (xk X 3 k1)), (1, .int a2), (2, .int a3), (3, .int a4)]) hx hb dJ1_indexOfChar_4cfef_2 hl (by decide) rfl (fun ls hl => ?_)
  refine lv_iload_n hx hb dJ1_indexOfChar_4cfef_4 rfl (lv_at hl 3 rfl) ?_
  refine lv_istore (lv' := [(5, .int a3), (4, .int z1), (0, .ref (xk X 3 k1)), (1, .int a2), (2, .int a3), (3, .int a4)]) hx hb dJ1_indexOfChar_4cfef_5 hl (by decide) rfl (fun ls hl => ?_)
  obtain ⟨nn, hw⟩ := hw
  exact L7 nn G z1 a3  _ _ _ hw hP hD hS (lv_sub hl [2, 5, 1, 0] rfl)
def wpJ1_indexOf_4cfef (post : Int32 → GS → Prop) (k1 : Nat) (a2 : Int32) (a3 : Int32) (a4 : Int32) (G : GS) : Prop :=
  wpJ1_canEncode_9a6ad (fun (r2 : Int32) (G1 : GS) =>
  if r2 = 0 then
    post (-1) G1
  else
    ∀ z4 : Int32, z4 = (if a3 < 0 then 0 else a3) →
      ∀ z5 : Int32, z5 = (if (nI (LTl.getD k1 0)) < a4 then (nI (LTl.getD k1 0)) else a4) →
      if z4 < z5 then
      wpJ1_indexOfChar_4cfef (fun (r8 : Int32) (G7 : GS) =>
        post r8 G7) k1 a2 z4 z5 G1
    else
      post (-1) G1) a2 G
set_option maxHeartbeats 4000000 in
set_option maxRecDepth 100000 in
theorem okJ1_indexOf_4cfef (X : Cx) (l : Launch) (hfl : l.stackTraces = false) {post : Int32 → GS → Prop} {k1 : Nat} {a2 : Int32} {a3 : Int32} {a4 : Int32} {G : GS} (h1 : k1 < 37) (hw : wpJ1_indexOf_4cfef post k1 a2 a3 a4 G) : CT X l yJ1_indexOf_4cfef cJ1_indexOf_4cfef 4 (some FieldType.int) 2 0 0 [.ref (xk X 3 k1), .int a2, .int a3, .int a4] G (Qi X post) := by
  refine mbegin (by decide) (Nat.le_of_ble_eq_true rfl) (fun p e s m below meth c hx hb hr hml hlk hown hE hz ls hl hP hD hS => ?_)
  have hl : lv_has ls 4 [(0, .ref (xk X 3 k1)), (1, .int a2), (2, .int a3), (3, .int a4)] := hl
  have hown : s.vm.findClass "java/lang/StringLatin1" = some m.cls := hown
  unfold wpJ1_indexOf_4cfef at hw
  refine lv_iload_n hx hb dJ1_indexOf_4cfef_0 rfl (lv_at hl 1 rfl) ?_
  refine call_i (run_S (cc := cJ1_indexOf_4cfef) (As := [.int a2]) (rest := []) hx hb hml hown hE hz (okJ1_canEncode_9a6ad X l hfl  hw) qw_975 qw_976 qw_99 qw_977 (myJ1_canEncode_9a6ad).2 ⟨Nat.le_of_ble_eq_true rfl, Nat.le_of_ble_eq_true rfl⟩ hP hD hS rfl hl.1 rfl (Nat.le_of_ble_eq_true rfl) dJ1_indexOf_4cfef_1 ⟨Nat.le_of_ble_eq_true rfl, Nat.le_of_ble_eq_true rfl⟩) hS (fun r2 G1 H locs hw hP hD hS => ?_)
  refine lv_if_ne (tgt := 9) hx hb dJ1_indexOf_4cfef_4 (by decide) (fun c3 => ?_) (fun c3 => ?_)
  · replace hw := ite_f hw c3
    refine lv_iload_n hx hb dJ1_indexOf_4cfef_9 rfl (lv_at hl 2 rfl) ?_
    refine lv_iconst (v := 0) hx hb dJ1_indexOf_4cfef_10 (by decide) ?_
    refine va_mmax hx hb (hml.trans hl.1.symm) hown (hE.w qw_978 rfl _) (hE.w qw_438 rfl _) (hE.w qw_97 rfl _) (hE.w qw_439 rfl _) (Nat.le_of_ble_eq_true rfl) (Nat.le_of_ble_eq_true rfl) (Nat.le_of_ble_eq_true rfl) (Nat.le_of_ble_eq_true rfl) dJ1_indexOf_4cfef_11 ?_
    refine lv_topi (fun z4 ez4 => ?_)
    replace hw := hw z4 ez4
    refine lv_istore_n (lv' := [(2, .int z4), (0, .ref (xk X 3 k1)), (1, .int a2), (3, .int a4)]) hx hb dJ1_indexOf_4cfef_14 rfl hl (by decide) rfl (fun ls hl => ?_)
    refine lv_iload_n hx hb dJ1_indexOf_4cfef_15 rfl (lv_at hl 3 rfl) ?_
    refine lv_aload_n hx hb dJ1_indexOf_4cfef_16 rfl (lv_at hl 1 rfl) ?_
    refine va_tlen hx hb (hE.S.1 _ h1).2.2.2 hS rfl dJ1_indexOf_4cfef_17 ?_
    refine va_mmin hx hb (hml.trans hl.1.symm) hown (hE.w qw_979 rfl _) (hE.w qw_506 rfl _) (hE.w qw_97 rfl _) (hE.w qw_507 rfl _) (Nat.le_of_ble_eq_true rfl) (Nat.le_of_ble_eq_true rfl) (Nat.le_of_ble_eq_true rfl) (Nat.le_of_ble_eq_true rfl) dJ1_indexOf_4cfef_18 ?_
    refine lv_topi (fun z5 ez5 => ?_)
    replace hw := hw z5 ez5
    refine lv_istore_n (lv' := [(3, .int z5), (2, .int z4), (0, .ref (xk X 3 k1)), (1, .int a2)]) hx hb dJ1_indexOf_4cfef_21 rfl hl (by decide) rfl (fun ls hl => ?_)
    refine lv_iload_n hx hb dJ1_indexOf_4cfef_22 rfl (lv_at hl 1 rfl) ?_
    refine lv_iload_n hx hb dJ1_indexOf_4cfef_23 rfl (lv_at hl 0 rfl) ?_
    refine lv_icmp_lt (tgt := 29) hx hb dJ1_indexOf_4cfef_24 (by decide) (fun c6 => ?_) (fun c6 => ?_)
    · replace hw := ite_t hw c6
      refine lv_aload_n hx hb dJ1_indexOf_4cfef_29 rfl (lv_at hl 2 rfl) ?_
      refine lv_iload_n hx hb dJ1_indexOf_4cfef_30 rfl (lv_at hl 3 rfl) ?_
      refine lv_iload_n hx hb dJ1_indexOf_4cfef_31 rfl (lv_at hl 1 rfl) ?_
      refine lv_iload_n hx hb dJ1_indexOf_4cfef_32 rfl (lv_at hl 0 rfl) ?_
      refine call_i (run_S (cc := cJ1_indexOf_4cfef) (As := [.ref (xk X 3 k1), .int a2, .int z4, .int z5]) (rest := []) hx hb hml hown hE hz (okJ1_indexOfChar_4cfef X l hfl h1 hw) qw_980 qw_981 qw_99 qw_982 (myJ1_indexOfChar_4cfef).2 ⟨Nat.le_of_ble_eq_true rfl, Nat.le_of_ble_eq_true rfl⟩ hP hD hS rfl hl.1 rfl (Nat.le_of_ble_eq_true rfl) dJ1_indexOf_4cfef_33 ⟨Nat.le_of_ble_eq_true rfl, Nat.le_of_ble_eq_true rfl⟩) hS (fun r8 G7 H locs hw hP hD hS => ?_)
      exact end_i hx hb hr hlk rfl hw hP hD hS dJ1_indexOf_4cfef_36
    · replace hw := ite_f hw c6
      refine lv_iconst (v := -1) hx hb dJ1_indexOf_4cfef_27 (by decide) ?_
      exact end_i hx hb hr hlk rfl hw hP hD hS dJ1_indexOf_4cfef_28
  · replace hw := ite_t hw c3
    refine lv_iconst (v := -1) hx hb dJ1_indexOf_4cfef_7 (by decide) ?_
    exact end_i hx hb hr hlk rfl hw hP hD hS dJ1_indexOf_4cfef_8
def wpJ0_indexOf_7cf53 (post : Int32 → GS → Prop) (k0 : Nat) (a1 : Int32) (a2 : Int32) (G : GS) : Prop :=
  wpJ0_isLatin1_aae02 (fun (r2 : Int32) (G1 : GS) =>
  if r2 = 0 then
    False
  else
    wpJ0_length_8abf5 (fun (r5 : Int32) (G4 : GS) =>
      wpJ1_indexOf_4cfef (fun (r7 : Int32) (G6 : GS) =>
        post r7 G6) k0 a1 a2 r5 G4) k0 G1) k0 G
set_option maxHeartbeats 4000000 in
set_option maxRecDepth 100000 in
theorem okJ0_indexOf_7cf53 (X : Cx) (l : Launch) (hfl : l.stackTraces = false) {post : Int32 → GS → Prop} {k0 : Nat} {a1 : Int32} {a2 : Int32} {G : GS} (h0 : k0 < 37) (hw : wpJ0_indexOf_7cf53 post k0 a1 a2 G) : CT X l yJ0_indexOf_7cf53 cJ0_indexOf_7cf53 3 (some FieldType.int) 3 0 0 [.ref (xk X 2 k0), .int a1, .int a2] G (Qi X post) := by
  refine mbegin (by decide) (Nat.le_of_ble_eq_true rfl) (fun p e s m below meth c hx hb hr hml hlk hown hE hz ls hl hP hD hS => ?_)
  have hl : lv_has ls 3 [(0, .ref (xk X 2 k0)), (1, .int a1), (2, .int a2)] := hl
  have hown : s.vm.findClass "java/lang/String" = some m.cls := hown
  unfold wpJ0_indexOf_7cf53 at hw
  refine lv_aload_n hx hb dJ0_indexOf_7cf53_0 rfl (lv_at hl 0 rfl) ?_
  refine call_i (run_V (cc := cJ0_indexOf_7cf53) (As := []) (rest := []) hx hb hml hown hE hz (okJ0_isLatin1_aae02 X l hfl h0 hw) qw_824 qw_825 qw_826 qw_84 qw_827 (myJ0_isLatin1_aae02) ⟨Nat.le_of_ble_eq_true rfl, Nat.le_of_ble_eq_true rfl⟩ (vk_recv hE.S h0 hS) hP hD hS rfl hl.1 rfl (Nat.le_of_ble_eq_true rfl) dJ0_indexOf_7cf53_1 ⟨Nat.le_of_ble_eq_true rfl, Nat.le_of_ble_eq_true rfl⟩) hS (fun r2 G1 H locs hw hP hD hS => ?_)
  refine lv_if_eq (tgt := 23) hx hb dJ0_indexOf_7cf53_4 (by decide) (fun c3 => ?_) (fun c3 => ?_)
  · replace hw := ite_t hw c3
    exact hw.elim
  · replace hw := ite_f hw c3
    refine lv_aload_n hx hb dJ0_indexOf_7cf53_7 rfl (lv_at hl 0 rfl) ?_
    refine vk_getf hx hb (hE.S.1 _ h0).2.2.1 hS hown (hE.w qw_736 rfl _) (fun _ h9 => h9) dJ0_indexOf_7cf53_8 ?_
    refine lv_iload_n hx hb dJ0_indexOf_7cf53_11 rfl (lv_at hl 1 rfl) ?_
    refine lv_iload_n hx hb dJ0_indexOf_7cf53_12 rfl (lv_at hl 2 rfl) ?_
    refine lv_aload_n hx hb dJ0_indexOf_7cf53_13 rfl (lv_at hl 0 rfl) ?_
    refine call_i (run_V (cc := cJ0_indexOf_7cf53) (As := []) (rest := [.int a2, .int a1, .ref (xk X 3 k0)]) hx hb hml hown hE hz (okJ0_length_8abf5 X l hfl h0 hw) qw_971 qw_543 qw_544 qw_84 qw_545 (myJ0_length_8abf5) ⟨Nat.le_of_ble_eq_true rfl, Nat.le_of_ble_eq_true rfl⟩ (vk_recv hE.S h0 hS) hP hD hS rfl hl.1 rfl (Nat.le_of_ble_eq_true rfl) dJ0_indexOf_7cf53_14 ⟨Nat.le_of_ble_eq_true rfl, Nat.le_of_ble_eq_true rfl⟩) hS (fun r5 G4 H locs hw hP hD hS => ?_)
    refine call_i (run_S (cc := cJ0_indexOf_7cf53) (As := [.ref (xk X 3 k0), .int a1, .int a2, .int r5]) (rest := []) hx hb hml hown hE hz (okJ1_indexOf_4cfef X l hfl h0 hw) qw_972 qw_973 qw_99 qw_974 (myJ1_indexOf_4cfef).2 ⟨Nat.le_of_ble_eq_true rfl, Nat.le_of_ble_eq_true rfl⟩ hP hD hS rfl hl.1 rfl (Nat.le_of_ble_eq_true rfl) dJ0_indexOf_7cf53_17 ⟨Nat.le_of_ble_eq_true rfl, Nat.le_of_ble_eq_true rfl⟩) hS (fun r7 G6 H locs hw hP hD hS => ?_)
    refine lv_goto (tgt := 36) hx hb dJ0_indexOf_7cf53_20 (by decide) ?_
    exact end_i hx hb hr hlk rfl hw hP hD hS dJ0_indexOf_7cf53_36
def wpJ0_indexOf_0f7a4 (post : Int32 → GS → Prop) (k0 : Nat) (a1 : Int32) (G : GS) : Prop :=
  wpJ0_indexOf_7cf53 (fun (r2 : Int32) (G1 : GS) =>
  post r2 G1) k0 a1 0 G
set_option maxHeartbeats 4000000 in
set_option maxRecDepth 100000 in
theorem okJ0_indexOf_0f7a4 (X : Cx) (l : Launch) (hfl : l.stackTraces = false) {post : Int32 → GS → Prop} {k0 : Nat} {a1 : Int32} {G : GS} (h0 : k0 < 37) (hw : wpJ0_indexOf_0f7a4 post k0 a1 G) : CT X l yJ0_indexOf_0f7a4 cJ0_indexOf_0f7a4 2 (some FieldType.int) 4 0 0 [.ref (xk X 2 k0), .int a1] G (Qi X post) := by
  refine mbegin (by decide) (Nat.le_of_ble_eq_true rfl) (fun p e s m below meth c hx hb hr hml hlk hown hE hz ls hl hP hD hS => ?_)
  have hl : lv_has ls 2 [(0, .ref (xk X 2 k0)), (1, .int a1)] := hl
  have hown : s.vm.findClass "java/lang/String" = some m.cls := hown
  unfold wpJ0_indexOf_0f7a4 at hw
  refine lv_aload_n hx hb dJ0_indexOf_0f7a4_0 rfl (lv_at hl 0 rfl) ?_
  refine lv_iload_n hx hb dJ0_indexOf_0f7a4_1 rfl (lv_at hl 1 rfl) ?_
  refine lv_iconst (v := 0) hx hb dJ0_indexOf_0f7a4_2 (by decide) ?_
  refine call_i (run_V (cc := cJ0_indexOf_0f7a4) (As := [.int a1, .int 0]) (rest := []) hx hb hml hown hE hz (okJ0_indexOf_7cf53 X l hfl h0 hw) qw_967 qw_968 qw_969 qw_84 qw_970 (myJ0_indexOf_7cf53) ⟨Nat.le_of_ble_eq_true rfl, Nat.le_of_ble_eq_true rfl⟩ (vk_recv hE.S h0 hS) hP hD hS rfl hl.1 rfl (Nat.le_of_ble_eq_true rfl) dJ0_indexOf_0f7a4_3 ⟨Nat.le_of_ble_eq_true rfl, Nat.le_of_ble_eq_true rfl⟩) hS (fun r2 G1 H locs hw hP hD hS => ?_)
  exact end_i hx hb hr hlk rfl hw hP hD hS dJ0_indexOf_0f7a4_6
def wpJ1_canEncode_fc78d (post : Int32 → GS → Prop) (a1 : Int32) (G : GS) : Prop :=
  if 255 < a1 then
  post 0 G
else
  post 1 G
set_option maxHeartbeats 4000000 in
set_option maxRecDepth 100000 in
theorem okJ1_canEncode_fc78d (X : Cx) (l : Launch) (hfl : l.stackTraces = false) {post : Int32 → GS → Prop} {a1 : Int32} {G : GS}  (hw : wpJ1_canEncode_fc78d post a1 G) : CT X l yJ1_canEncode_fc78d cJ1_canEncode_fc78d 1 (some FieldType.boolean) 1 0 0 [.int a1] G (Qi X post) := by
  refine mbegin (by decide) (Nat.le_of_ble_eq_true rfl) (fun p e s m below meth c hx hb hr hml hlk hown hE hz ls hl hP hD hS => ?_)
  have hl : lv_has ls 1 [(0, .int a1)] := hl
  have hown : s.vm.findClass "java/lang/StringLatin1" = some m.cls := hown
  unfold wpJ1_canEncode_fc78d at hw
  refine lv_iload_n hx hb dJ1_canEncode_fc78d_0 rfl (lv_at hl 0 rfl) ?_
  refine lv_sipush (v := 255) hx hb dJ1_canEncode_fc78d_1 (by decide) ?_
  refine lv_icmp_gt (tgt := 11) hx hb dJ1_canEncode_fc78d_4 (by decide) (fun c1 => ?_) (fun c1 => ?_)
  · replace hw := ite_t hw c1
    refine lv_iconst (v := 0) hx hb dJ1_canEncode_fc78d_11 (by decide) ?_
    exact end_i hx hb hr hlk (by decide) hw hP hD hS dJ1_canEncode_fc78d_12
  · replace hw := ite_f hw c1
    refine lv_iconst (v := 1) hx hb dJ1_canEncode_fc78d_7 (by decide) ?_
    refine lv_goto (tgt := 12) hx hb dJ1_canEncode_fc78d_8 (by decide) ?_
    exact end_i hx hb hr hlk (by decide) hw hP hD hS dJ1_canEncode_fc78d_12
