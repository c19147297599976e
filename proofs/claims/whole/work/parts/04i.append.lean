def wbJ5_setLength_d00df_76 (post : GS → Prop) (a1 : Int32) (G : GS) : Prop :=
  ∀ G5 : GS, G5 = gI G 187 3 a1 →
  post G5
def wpJ5_setLength_d00df (post : GS → Prop) (a1 : Int32) (G : GS) : Prop :=
  if 0 ≤ a1 then
  wpJ5_ensureCapacityInternal_d00df (fun (G2 : GS) =>
    if a1 ≤ (G2.1 187 3) then
      if (G2.1 187 3) ≤ a1 then
        wbJ5_setLength_d00df_76 post a1 G2
      else
        ∀ G7 : GS, G7 = gI G2 187 2 1 →
          wbJ5_setLength_d00df_76 post a1 G7
    else
      False) a1 G
else
  False
set_option maxHeartbeats 4000000 in
set_option maxRecDepth 100000 in
theorem okJ5_setLength_d00df (X : Cx) (l : Launch) (hfl : l.stackTraces = false) {post : GS → Prop} {a1 : Int32} {G : GS}  (hw : wpJ5_setLength_d00df post a1 G) : CT X l yJ5_setLength_d00df cJ5_setLength_d00df 2 none 4 1 136 [.ref (xa X 187), .int a1] G (Qv X post) := by
  refine mbegin (by decide) (Nat.le_of_ble_eq_true rfl) (fun p e s m below meth c hx hb hr hml hlk hown hE hz ls hl hP hD hS => ?_)
  have hl : lv_has ls 2 [(0, .ref (xa X 187)), (1, .int a1)] := hl
  have hown : s.vm.findClass "java/lang/AbstractStringBuilder" = some m.cls := hown
  have B76 : ∀ (G : GS) (H : Heap) (locs : List Loc) (ls : Array Slot), wbJ5_setLength_d00df_76 post a1 G  → va_P (xD X) vwCl (pool X G) H → va_D (xA X) (pool X G) → va_S (xA X) s.heap H locs → lv_has ls 2 [(0, .ref (xa X 187)), (1, .int a1)] → W p l e (rmL 4 1 136) s m [.ref (xa X 187), .int a1].toArray below meth c H locs 1 136 (MQ below (Qv X post) [.ref (xa X 187), .int a1].toArray s 1 136 (xA X)) (F0 m 76 ls []) := by
    intro G   H locs ls hw hP hD hS hl
    unfold wbJ5_setLength_d00df_76 at hw
    refine lv_aload_n hx hb dJ5_setLength_d00df_76 rfl (lv_at hl 0 rfl) ?_
    refine lv_iload_n hx hb dJ5_setLength_d00df_77 rfl (lv_at hl 1 rfl) ?_
    refine pf_J4_3 (fun _ h9 => h9) hx hb hE hP hD hS hown rfl (hE.w qw_307 rfl _) dJ5_setLength_d00df_78 (fun G6 H locs eG6 hP hD hS => ?_)
    replace hw := hw G6 eG6
    exact end_v hx hb hr hlk hw hP hD hS dJ5_setLength_d00df_81
  unfold wpJ5_setLength_d00df at hw
  refine lv_iload_n hx hb dJ5_setLength_d00df_0 rfl (lv_at hl 1 rfl) ?_
  refine lv_if_ge (tgt := 13) hx hb dJ5_setLength_d00df_1 (by decide) (fun c1 => ?_) (fun c1 => ?_)
  · replace hw := ite_t hw c1
    refine lv_aload_n hx hb dJ5_setLength_d00df_13 rfl (lv_at hl 0 rfl) ?_
    refine lv_iload_n hx hb dJ5_setLength_d00df_14 rfl (lv_at hl 1 rfl) ?_
    refine call_v (run_U (cc := cJ5_setLength_d00df) (As := [.int a1]) (rest := []) (x := yJ5_ensureCapacityInternal_d00df) (owner := "java/lang/AbstractStringBuilder") hx hb hml hown hE hz (okJ5_ensureCapacityInternal_d00df X l hfl  hw) qw_478 qw_2072 (sel_priv (Cond.privateMethod_at (hE.w qw_479 rfl #[])) (hE.w qw_480 rfl _) (by decide) (hE.w qw_514 rfl _) rfl) qw_480 qw_82 qw_481 rfl (myJ5_ensureCapacityInternal_d00df).2 ⟨Nat.le_of_ble_eq_true rfl, Nat.le_of_ble_eq_true rfl⟩ (rv_J4 hE hP rfl) hP hD hS rfl hl.1 rfl (Nat.le_of_ble_eq_true rfl) dJ5_setLength_d00df_15 ⟨Nat.le_of_ble_eq_true rfl, Nat.le_of_ble_eq_true rfl⟩) hS (fun G2 H locs hw hP hD hS => ?_)
    refine lv_aload_n hx hb dJ5_setLength_d00df_18 rfl (lv_at hl 0 rfl) ?_
    refine gf_J4_3 (fun _ h9 => h9) hx hb hE hP hown rfl (hE.w qw_307 rfl _) dJ5_setLength_d00df_19 ?_
    refine lv_iload_n hx hb dJ5_setLength_d00df_22 rfl (lv_at hl 1 rfl) ?_
    refine lv_icmp_ge (tgt := 63) hx hb dJ5_setLength_d00df_23 (by decide) (fun c3 => ?_) (fun c3 => ?_)
    · replace hw := ite_t hw c3
      refine lv_aload_n hx hb dJ5_setLength_d00df_63 rfl (lv_at hl 0 rfl) ?_
      refine gf_J4_3 (fun _ h9 => h9) hx hb hE hP hown rfl (hE.w qw_307 rfl _) dJ5_setLength_d00df_64 ?_
      refine lv_iload_n hx hb dJ5_setLength_d00df_67 rfl (lv_at hl 1 rfl) ?_
      refine lv_icmp_le (tgt := 76) hx hb dJ5_setLength_d00df_68 (by decide) (fun c4 => ?_) (fun c4 => ?_)
      · replace hw := ite_t hw c4
        exact B76 G2   _ _ _ hw hP hD hS (lv_sub hl [0, 1] rfl)
      · replace hw := ite_f hw c4
        refine lv_aload_n hx hb dJ5_setLength_d00df_71 rfl (lv_at hl 0 rfl) ?_
        refine lv_iconst (v := 1) hx hb dJ5_setLength_d00df_72 (by decide) ?_
        refine pf_J4_2 (fun _ h9 => h9) hx hb hE hP hD hS hown rfl (hE.w qw_305 rfl _) (by decide) (by decide) dJ5_setLength_d00df_73 (fun G7 H locs eG7 hP hD hS => ?_)
        replace hw := hw G7 eG7
        exact B76 G7   _ _ _ hw hP hD hS (lv_sub hl [0, 1] rfl)
    · replace hw := ite_f hw c3
      exact hw.elim
  · replace hw := ite_f hw c1
    exact hw.elim
def wpJ5_charAt_5068e (post : Int32 → GS → Prop) (a1 : Int32) (G : GS) : Prop :=
  ∀ z1 : Int32, z1 = (G.1 187 1) →
  ∀ o2 : Nat, o2 = G.2.1.1 →
  o2 = G.2.1.1 ∧
  ∀ z4 : Int32, z4 = (if ((nI G.2.1.2) >>> (z1 &&& 31)) < (G.1 187 3) then ((nI G.2.1.2) >>> (z1 &&& 31)) else (G.1 187 3)) →
  wpJ0_checkIndex_df160 (fun (G5 : GS) =>
  if z1 = 0 then
    o2 = G5.2.1.1 ∧ vp_in a1 G5.2.1.2 ∧
      narrow .char (.int ((((G5.1 188 a1.toNatClampNeg) &&& 255).toUInt32 % 65536).toInt32)) = .int ((((G5.1 188 a1.toNatClampNeg) &&& 255).toUInt32 % 65536).toInt32) ∧ post ((((G5.1 188 a1.toNatClampNeg) &&& 255).toUInt32 % 65536).toInt32) G5
  else
    False) a1 z4 G
set_option maxHeartbeats 4000000 in
set_option maxRecDepth 100000 in
theorem okJ5_charAt_5068e (X : Cx) (l : Launch) (hfl : l.stackTraces = false) {post : Int32 → GS → Prop} {a1 : Int32} {G : GS}  (hw : wpJ5_charAt_5068e post a1 G) : CT X l yJ5_charAt_5068e cJ5_charAt_5068e 5 (some FieldType.char) 3 0 0 [.ref (xa X 187), .int a1] G (Qi X post) := by
  refine mbegin (by decide) (Nat.le_of_ble_eq_true rfl) (fun p e s m below meth c hx hb hr hml hlk hown hE hz ls hl hP hD hS => ?_)
  have hl : lv_has ls 5 [(0, .ref (xa X 187)), (1, .int a1)] := hl
  have hown : s.vm.findClass "java/lang/AbstractStringBuilder" = some m.cls := hown
  unfold wpJ5_charAt_5068e at hw
  refine lv_aload_n hx hb dJ5_charAt_5068e_0 rfl (lv_at hl 0 rfl) ?_
  refine gf_J4_1 (fun _ h9 => h9) hx hb hE hP hown rfl (hE.w qw_304 rfl _) dJ5_charAt_5068e_1 ?_
  refine lv_topi (fun z1 ez1 => ?_)
  replace hw := hw z1 ez1
  refine lv_istore_n (lv' := [(2, .int z1), (0, .ref (xa X 187)), (1, .int a1)]) hx hb dJ5_charAt_5068e_4 rfl hl (by decide) rfl (fun ls hl => ?_)
  refine lv_aload_n hx hb dJ5_charAt_5068e_5 rfl (lv_at hl 1 rfl) ?_
  refine gf_J4_0 (fun _ h9 => h9) hx hb hE hP hown rfl (hE.w qw_303 rfl _) dJ5_charAt_5068e_6 ?_
  refine topo (fun o2 eo2 => ?_)
  replace hw := hw o2 eo2
  refine lv_astore_n (lv' := [(3, .ref o2), (2, .int z1), (0, .ref (xa X 187)), (1, .int a1)]) hx hb dJ5_charAt_5068e_9 rfl hl (by decide) rfl (fun ls hl => ?_)
  refine lv_aload_n hx hb dJ5_charAt_5068e_10 rfl (lv_at hl 2 rfl) ?_
  refine gf_J4_3 (fun _ h9 => h9) hx hb hE hP hown rfl (hE.w qw_307 rfl _) dJ5_charAt_5068e_11 ?_
  refine lv_aload_n hx hb dJ5_charAt_5068e_14 rfl (lv_at hl 0 rfl) ?_
  obtain ⟨y3, hw⟩ := hw
  refine alen_12o y3 hx hb hE hP dJ5_charAt_5068e_15 ?_
  refine lv_iload_n hx hb dJ5_charAt_5068e_16 rfl (lv_at hl 1 rfl) ?_
  refine lv_ishr hx hb dJ5_charAt_5068e_17 ?_
  refine va_mmin hx hb (hml.trans hl.1.symm) hown (hE.w qw_1429 rfl _) (hE.w qw_506 rfl _) (hE.w qw_97 rfl _) (hE.w qw_507 rfl _) (Nat.le_of_ble_eq_true rfl) (Nat.le_of_ble_eq_true rfl) (Nat.le_of_ble_eq_true rfl) (Nat.le_of_ble_eq_true rfl) dJ5_charAt_5068e_18 ?_
  refine lv_topi (fun z4 ez4 => ?_)
  replace hw := hw z4 ez4
  refine lv_istore (lv' := [(4, .int z4), (3, .ref o2), (2, .int z1), (0, .ref (xa X 187)), (1, .int a1)]) hx hb dJ5_charAt_5068e_21 hl (by decide) rfl (fun ls hl => ?_)
  refine lv_iload_n hx hb dJ5_charAt_5068e_23 rfl (lv_at hl 4 rfl) ?_
  refine lv_iload hx hb dJ5_charAt_5068e_24 (lv_at hl 0 rfl) ?_
  refine call_v (run_S (cc := cJ5_charAt_5068e) (As := [.int a1, .int z4]) (rest := []) hx hb hml hown hE hz (okJ0_checkIndex_df160 X l hfl  hw) qw_1430 qw_814 qw_84 qw_815 (myJ0_checkIndex_df160).2 ⟨Nat.le_of_ble_eq_true rfl, Nat.le_of_ble_eq_true rfl⟩ hP hD hS rfl hl.1 rfl (Nat.le_of_ble_eq_true rfl) dJ5_charAt_5068e_26 ⟨Nat.le_of_ble_eq_true rfl, Nat.le_of_ble_eq_true rfl⟩) hS (fun G5 H locs hw hP hD hS => ?_)
  refine lv_iload_n hx hb dJ5_charAt_5068e_29 rfl (lv_at hl 2 rfl) ?_
  refine lv_if_ne (tgt := 42) hx hb dJ5_charAt_5068e_30 (by decide) (fun c6 => ?_) (fun c6 => ?_)
  · replace hw := ite_f hw c6
    exact hw.elim
  · replace hw := ite_t hw c6
    refine lv_aload_n hx hb dJ5_charAt_5068e_33 rfl (lv_at hl 1 rfl) ?_
    refine lv_iload_n hx hb dJ5_charAt_5068e_34 rfl (lv_at hl 4 rfl) ?_
    obtain ⟨y8, y7, hw⟩ := hw
    refine ald_12o y8 hx hb hE hP y7 dJ5_charAt_5068e_35 ?_
    refine lv_sipush (v := 255) hx hb dJ5_charAt_5068e_36 (by decide) ?_
    refine lv_iand hx hb dJ5_charAt_5068e_39 ?_
    refine lv_i2c hx hb dJ5_charAt_5068e_40 rfl ?_
    obtain ⟨y9, hw⟩ := hw
    exact end_i hx hb hr hlk y9 hw hP hD hS dJ5_charAt_5068e_41
def wpJ5_append_3fe6f (post : Nat → GS → Prop) (a1 : Int32) (G : GS) : Prop :=
  wpJ5_ensureCapacityInternal_d00df (fun (G1 : GS) =>
  wpJ5_isLatin1_aae02 (fun (r3 : Int32) (G2 : GS) =>
    if r3 = 0 then
      False
    else
      wpJ1_canEncode_fc78d (fun (r6 : Int32) (G5 : GS) =>
        if r6 = 0 then
          False
        else
          ∀ o8 : Nat, o8 = G5.2.1.1 →
            ∀ G9 : GS, G9 = gI G5 187 3 ((G5.1 187 3) + 1) →
            o8 = G9.2.1.1 ∧ vp_in (G5.1 187 3) G9.2.1.2 ∧ ∀ G11 : GS, G11 = gI G9 188 ((G5.1 187 3).toNatClampNeg) (vp_nar .byte a1.toInt8.toInt32) →
            post 187 G11) a1 G2)  G1) ((G.1 187 3) + 1) G
set_option maxHeartbeats 4000000 in
set_option maxRecDepth 100000 in
theorem okJ5_append_3fe6f (X : Cx) (l : Launch) (hfl : l.stackTraces = false) {post : Nat → GS → Prop} {a1 : Int32} {G : GS}  (hw : wpJ5_append_3fe6f post a1 G) : CT X l yJ5_append_3fe6f cJ5_append_3fe6f 2 (some (FieldType.object "java/lang/AbstractStringBuilder")) 4 1 136 [.ref (xa X 187), .int a1] G (Qr X (xa X) post) := by
  refine mbegin (by decide) (Nat.le_of_ble_eq_true rfl) (fun p e s m below meth c hx hb hr hml hlk hown hE hz ls hl hP hD hS => ?_)
  have hl : lv_has ls 2 [(0, .ref (xa X 187)), (1, .int a1)] := hl
  have hown : s.vm.findClass "java/lang/AbstractStringBuilder" = some m.cls := hown
  unfold wpJ5_append_3fe6f at hw
  refine lv_aload_n hx hb dJ5_append_3fe6f_0 rfl (lv_at hl 0 rfl) ?_
  refine lv_aload_n hx hb dJ5_append_3fe6f_1 rfl (lv_at hl 0 rfl) ?_
  refine gf_J4_3 (fun _ h9 => h9) hx hb hE hP hown rfl (hE.w qw_307 rfl _) dJ5_append_3fe6f_2 ?_
  refine lv_iconst (v := 1) hx hb dJ5_append_3fe6f_5 (by decide) ?_
  refine lv_iadd hx hb dJ5_append_3fe6f_6 ?_
  refine call_v (run_U (cc := cJ5_append_3fe6f) (As := [.int ((G.1 187 3) + 1)]) (rest := []) (x := yJ5_ensureCapacityInternal_d00df) (owner := "java/lang/AbstractStringBuilder") hx hb hml hown hE hz (okJ5_ensureCapacityInternal_d00df X l hfl  hw) qw_478 qw_2072 (sel_priv (Cond.privateMethod_at (hE.w qw_479 rfl #[])) (hE.w qw_480 rfl _) (by decide) (hE.w qw_514 rfl _) rfl) qw_480 qw_82 qw_481 rfl (myJ5_ensureCapacityInternal_d00df).2 ⟨Nat.le_of_ble_eq_true rfl, Nat.le_of_ble_eq_true rfl⟩ (rv_J4 hE hP rfl) hP hD hS rfl hl.1 rfl (Nat.le_of_ble_eq_true rfl) dJ5_append_3fe6f_7 ⟨Nat.le_of_ble_eq_true rfl, Nat.le_of_ble_eq_true rfl⟩) hS (fun G1 H locs hw hP hD hS => ?_)
  refine lv_aload_n hx hb dJ5_append_3fe6f_10 rfl (lv_at hl 0 rfl) ?_
  refine call_i (run_U (cc := cJ5_append_3fe6f) (As := []) (rest := []) (x := yJ5_isLatin1_aae02) (owner := "java/lang/AbstractStringBuilder") hx hb hml hown hE hz (okJ5_isLatin1_aae02 X l hfl  hw) qw_511 qw_513 (hE.w qw_514 rfl _) qw_512 qw_82 qw_515 rfl (myJ5_isLatin1_aae02).2 ⟨Nat.le_of_ble_eq_true rfl, Nat.le_of_ble_eq_true rfl⟩ (rv_J4 hE hP rfl) hP hD hS rfl hl.1 rfl (Nat.le_of_ble_eq_true rfl) dJ5_append_3fe6f_11 ⟨Nat.le_of_ble_eq_true rfl, Nat.le_of_ble_eq_true rfl⟩) hS (fun r3 G2 H locs hw hP hD hS => ?_)
  refine lv_if_eq (tgt := 45) hx hb dJ5_append_3fe6f_14 (by decide) (fun c4 => ?_) (fun c4 => ?_)
  · replace hw := ite_t hw c4
    exact hw.elim
  · replace hw := ite_f hw c4
    refine lv_iload_n hx hb dJ5_append_3fe6f_17 rfl (lv_at hl 1 rfl) ?_
    refine call_i (run_S (cc := cJ5_append_3fe6f) (As := [.int a1]) (rest := []) hx hb hml hown hE hz (okJ1_canEncode_fc78d X l hfl  hw) qw_804 qw_805 qw_99 qw_806 (myJ1_canEncode_fc78d).2 ⟨Nat.le_of_ble_eq_true rfl, Nat.le_of_ble_eq_true rfl⟩ hP hD hS rfl hl.1 rfl (Nat.le_of_ble_eq_true rfl) dJ5_append_3fe6f_18 ⟨Nat.le_of_ble_eq_true rfl, Nat.le_of_ble_eq_true rfl⟩) hS (fun r6 G5 H locs hw hP hD hS => ?_)
    refine lv_if_eq (tgt := 45) hx hb dJ5_append_3fe6f_21 (by decide) (fun c7 => ?_) (fun c7 => ?_)
    · replace hw := ite_t hw c7
      exact hw.elim
    · replace hw := ite_f hw c7
      refine lv_aload_n hx hb dJ5_append_3fe6f_24 rfl (lv_at hl 0 rfl) ?_
      refine gf_J4_0 (fun _ h9 => h9) hx hb hE hP hown rfl (hE.w qw_303 rfl _) dJ5_append_3fe6f_25 ?_
      refine topo (fun o8 eo8 => ?_)
      replace hw := hw o8 eo8
      refine lv_aload_n hx hb dJ5_append_3fe6f_28 rfl (lv_at hl 0 rfl) ?_
      refine lv_dup hx hb dJ5_append_3fe6f_29 rfl ?_
      refine gf_J4_3 (fun _ h9 => h9) hx hb hE hP hown rfl (hE.w qw_307 rfl _) dJ5_append_3fe6f_30 ?_
      refine lv_dup_x1 hx hb dJ5_append_3fe6f_33 rfl rfl ?_
      refine lv_iconst (v := 1) hx hb dJ5_append_3fe6f_34 (by decide) ?_
      refine lv_iadd hx hb dJ5_append_3fe6f_35 ?_
      refine pf_J4_3 (fun _ h9 => h9) hx hb hE hP hD hS hown rfl (hE.w qw_307 rfl _) dJ5_append_3fe6f_36 (fun G9 H locs eG9 hP hD hS => ?_)
      replace hw := hw G9 eG9
      refine lv_iload_n hx hb dJ5_append_3fe6f_39 rfl (lv_at hl 1 rfl) ?_
      refine lv_i2b hx hb dJ5_append_3fe6f_40 rfl ?_
      obtain ⟨y12, y10, hw⟩ := hw
      refine ast_12o y12 hx hb hE hP hD hS y10 dJ5_append_3fe6f_41 (fun G11 H locs eG11 hP hD hS => ?_)
      replace hw := hw G11 eG11
      refine lv_goto (tgt := 75) hx hb dJ5_append_3fe6f_42 (by decide) ?_
      refine lv_aload_n hx hb dJ5_append_3fe6f_75 rfl (lv_at hl 0 rfl) ?_
      exact end_r hx hb hr hlk (Or.inl ⟨_, rfl⟩) hw hP hD hS dJ5_append_3fe6f_76
def wpJ5_append_c97b9 (post : Nat → GS → Prop) (a1 : Int32) (G : GS) : Prop :=
  ∀ z1 : Int32, z1 = (G.1 187 3) →
  wpJ6_stringSize_0f7a4 (fun (r3 : Int32) (G2 : GS) =>
  ∀ z4 : Int32, z4 = (z1 + r3) →
    wpJ5_ensureCapacityInternal_d00df (fun (G5 : GS) =>
    wpJ5_isLatin1_aae02 (fun (r7 : Int32) (G6 : GS) =>
      if r7 = 0 then
        False
      else
        ∀ o9 : Nat, o9 = G6.2.1.1 →
          wpJ6_getChars_ba4f3 (fun (r11 : Int32) (G10 : GS) =>
          ∀ G12 : GS, G12 = gI G10 187 3 z4 →
            post 187 G12) a1 z4 o9 G6)  G5) z4 G2) a1 G
set_option maxHeartbeats 4000000 in
set_option maxRecDepth 100000 in
theorem okJ5_append_c97b9 (X : Cx) (l : Launch) (hfl : l.stackTraces = false) {post : Nat → GS → Prop} {a1 : Int32} {G : GS}  (hw : wpJ5_append_c97b9 post a1 G) : CT X l yJ5_append_c97b9 cJ5_append_c97b9 4 (some (FieldType.object "java/lang/AbstractStringBuilder")) 4 1 136 [.ref (xa X 187), .int a1] G (Qr X (xa X) post) := by
  refine mbegin (by decide) (Nat.le_of_ble_eq_true rfl) (fun p e s m below meth c hx hb hr hml hlk hown hE hz ls hl hP hD hS => ?_)
  have hl : lv_has ls 4 [(0, .ref (xa X 187)), (1, .int a1)] := hl
  have hown : s.vm.findClass "java/lang/AbstractStringBuilder" = some m.cls := hown
  unfold wpJ5_append_c97b9 at hw
  refine lv_aload_n hx hb dJ5_append_c97b9_0 rfl (lv_at hl 0 rfl) ?_
  refine gf_J4_3 (fun _ h9 => h9) hx hb hE hP hown rfl (hE.w qw_307 rfl _) dJ5_append_c97b9_1 ?_
  refine lv_topi (fun z1 ez1 => ?_)
  replace hw := hw z1 ez1
  refine lv_istore_n (lv' := [(2, .int z1), (0, .ref (xa X 187)), (1, .int a1)]) hx hb dJ5_append_c97b9_4 rfl hl (by decide) rfl (fun ls hl => ?_)
  refine lv_iload_n hx hb dJ5_append_c97b9_5 rfl (lv_at hl 0 rfl) ?_
  refine lv_iload_n hx hb dJ5_append_c97b9_6 rfl (lv_at hl 2 rfl) ?_
  refine call_i (run_S (cc := cJ5_append_c97b9) (As := [.int a1]) (rest := [.int z1]) hx hb hml hown hE hz (okJ6_stringSize_0f7a4 X l hfl  hw) qw_592 qw_593 qw_108 qw_594 (myJ6_stringSize_0f7a4).2 ⟨Nat.le_of_ble_eq_true rfl, Nat.le_of_ble_eq_true rfl⟩ hP hD hS rfl hl.1 rfl (Nat.le_of_ble_eq_true rfl) dJ5_append_c97b9_7 ⟨Nat.le_of_ble_eq_true rfl, Nat.le_of_ble_eq_true rfl⟩) hS (fun r3 G2 H locs hw hP hD hS => ?_)
  refine lv_iadd hx hb dJ5_append_c97b9_10 ?_
  refine lv_topi (fun z4 ez4 => ?_)
  replace hw := hw z4 ez4
  refine lv_istore_n (lv' := [(3, .int z4), (2, .int z1), (0, .ref (xa X 187)), (1, .int a1)]) hx hb dJ5_append_c97b9_11 rfl hl (by decide) rfl (fun ls hl => ?_)
  refine lv_aload_n hx hb dJ5_append_c97b9_12 rfl (lv_at hl 2 rfl) ?_
  refine lv_iload_n hx hb dJ5_append_c97b9_13 rfl (lv_at hl 0 rfl) ?_
  refine call_v (run_U (cc := cJ5_append_c97b9) (As := [.int z4]) (rest := []) (x := yJ5_ensureCapacityInternal_d00df) (owner := "java/lang/AbstractStringBuilder") hx hb hml hown hE hz (okJ5_ensureCapacityInternal_d00df X l hfl  hw) qw_478 qw_2072 (sel_priv (Cond.privateMethod_at (hE.w qw_479 rfl #[])) (hE.w qw_480 rfl _) (by decide) (hE.w qw_514 rfl _) rfl) qw_480 qw_82 qw_481 rfl (myJ5_ensureCapacityInternal_d00df).2 ⟨Nat.le_of_ble_eq_true rfl, Nat.le_of_ble_eq_true rfl⟩ (rv_J4 hE hP rfl) hP hD hS rfl hl.1 rfl (Nat.le_of_ble_eq_true rfl) dJ5_append_c97b9_14 ⟨Nat.le_of_ble_eq_true rfl, Nat.le_of_ble_eq_true rfl⟩) hS (fun G5 H locs hw hP hD hS => ?_)
  refine lv_aload_n hx hb dJ5_append_c97b9_17 rfl (lv_at hl 2 rfl) ?_
  refine call_i (run_U (cc := cJ5_append_c97b9) (As := []) (rest := []) (x := yJ5_isLatin1_aae02) (owner := "java/lang/AbstractStringBuilder") hx hb hml hown hE hz (okJ5_isLatin1_aae02 X l hfl  hw) qw_511 qw_513 (hE.w qw_514 rfl _) qw_512 qw_82 qw_515 rfl (myJ5_isLatin1_aae02).2 ⟨Nat.le_of_ble_eq_true rfl, Nat.le_of_ble_eq_true rfl⟩ (rv_J4 hE hP rfl) hP hD hS rfl hl.1 rfl (Nat.le_of_ble_eq_true rfl) dJ5_append_c97b9_18 ⟨Nat.le_of_ble_eq_true rfl, Nat.le_of_ble_eq_true rfl⟩) hS (fun r7 G6 H locs hw hP hD hS => ?_)
  refine lv_if_eq (tgt := 37) hx hb dJ5_append_c97b9_21 (by decide) (fun c8 => ?_) (fun c8 => ?_)
  · replace hw := ite_t hw c8
    exact hw.elim
  · replace hw := ite_f hw c8
    refine lv_iload_n hx hb dJ5_append_c97b9_24 rfl (lv_at hl 3 rfl) ?_
    refine lv_iload_n hx hb dJ5_append_c97b9_25 rfl (lv_at hl 0 rfl) ?_
    refine lv_aload_n hx hb dJ5_append_c97b9_26 rfl (lv_at hl 2 rfl) ?_
    refine gf_J4_0 (fun _ h9 => h9) hx hb hE hP hown rfl (hE.w qw_303 rfl _) dJ5_append_c97b9_27 ?_
    refine topo (fun o9 eo9 => ?_)
    replace hw := hw o9 eo9
    refine call_i (run_S (cc := cJ5_append_c97b9) (As := [.int a1, .int z4, .ref o9]) (rest := []) hx hb hml hown hE hz (okJ6_getChars_ba4f3 X l hfl  hw) qw_595 qw_596 qw_108 qw_597 (myJ6_getChars_ba4f3).2 ⟨Nat.le_of_ble_eq_true rfl, Nat.le_of_ble_eq_true rfl⟩ hP hD hS rfl hl.1 rfl (Nat.le_of_ble_eq_true rfl) dJ5_append_c97b9_30 ⟨Nat.le_of_ble_eq_true rfl, Nat.le_of_ble_eq_true rfl⟩) hS (fun r11 G10 H locs hw hP hD hS => ?_)
    refine lv_pop hx hb dJ5_append_c97b9_33 rfl ?_
    refine lv_goto (tgt := 48) hx hb dJ5_append_c97b9_34 (by decide) ?_
    refine lv_aload_n hx hb dJ5_append_c97b9_48 rfl (lv_at hl 2 rfl) ?_
    refine lv_iload_n hx hb dJ5_append_c97b9_49 rfl (lv_at hl 0 rfl) ?_
    refine pf_J4_3 (fun _ h9 => h9) hx hb hE hP hD hS hown rfl (hE.w qw_307 rfl _) dJ5_append_c97b9_50 (fun G12 H locs eG12 hP hD hS => ?_)
    replace hw := hw G12 eG12
    refine lv_aload_n hx hb dJ5_append_c97b9_53 rfl (lv_at hl 2 rfl) ?_
    exact end_r hx hb hr hlk (Or.inl ⟨_, rfl⟩) hw hP hD hS dJ5_append_c97b9_54
def wpJ4_append_cf468 (post : Nat → GS → Prop) (a1 : Int32) (G : GS) : Prop :=
  wpJ5_append_3fe6f (fun (r2 : Nat) (G1 : GS) =>
  r2 = 187 ∧
    post 187 G1) a1 G
set_option maxHeartbeats 4000000 in
set_option maxRecDepth 100000 in
theorem okJ4_append_cf468 (X : Cx) (l : Launch) (hfl : l.stackTraces = false) {post : Nat → GS → Prop} {a1 : Int32} {G : GS}  (hw : wpJ4_append_cf468 post a1 G) : CT X l yJ4_append_cf468 cJ4_append_cf468 2 (some (FieldType.object "java/lang/StringBuilder")) 5 1 136 [.ref (xa X 187), .int a1] G (Qr X (xa X) post) := by
  refine mbegin (by decide) (Nat.le_of_ble_eq_true rfl) (fun p e s m below meth c hx hb hr hml hlk hown hE hz ls hl hP hD hS => ?_)
  have hl : lv_has ls 2 [(0, .ref (xa X 187)), (1, .int a1)] := hl
  have hown : s.vm.findClass "java/lang/StringBuilder" = some m.cls := hown
  unfold wpJ4_append_cf468 at hw
  refine lv_aload_n hx hb dJ4_append_cf468_0 rfl (lv_at hl 0 rfl) ?_
  refine lv_iload_n hx hb dJ4_append_cf468_1 rfl (lv_at hl 1 rfl) ?_
  refine call_r (run_SU (cc := cJ4_append_cf468) (As := [.int a1]) (rest := []) (at_sb hE) hx hb hml hown hE hz (okJ5_append_3fe6f X l hfl  hw) qw_801 qw_2079 qw_316 qw_802 qw_82 qw_803 ⟨by decide, (myJ5_append_3fe6f).2.2.2⟩ ⟨Nat.le_of_ble_eq_true rfl, Nat.le_of_ble_eq_true rfl⟩ (rv_J4 hE hP rfl) hP hD hS rfl hl.1 rfl (Nat.le_of_ble_eq_true rfl) dJ4_append_cf468_2 ⟨Nat.le_of_ble_eq_true rfl, Nat.le_of_ble_eq_true rfl⟩) hS (fun r2 G1 H locs hw hP hD hS => ?_)
  obtain ⟨rfl, hw⟩ := hw
  refine lv_pop hx hb dJ4_append_cf468_5 rfl ?_
  refine lv_aload_n hx hb dJ4_append_cf468_6 rfl (lv_at hl 0 rfl) ?_
  exact end_r hx hb hr hlk (Or.inl ⟨_, rfl⟩) hw hP hD hS dJ4_append_cf468_7
def wpJ4_append_bf812 (post : Nat → GS → Prop) (a1 : Int32) (G : GS) : Prop :=
  wpJ5_append_c97b9 (fun (r2 : Nat) (G1 : GS) =>
  r2 = 187 ∧
    post 187 G1) a1 G
set_option maxHeartbeats 4000000 in
set_option maxRecDepth 100000 in
theorem okJ4_append_bf812 (X : Cx) (l : Launch) (hfl : l.stackTraces = false) {post : Nat → GS → Prop} {a1 : Int32} {G : GS}  (hw : wpJ4_append_bf812 post a1 G) : CT X l yJ4_append_bf812 cJ4_append_bf812 2 (some (FieldType.object "java/lang/StringBuilder")) 5 1 136 [.ref (xa X 187), .int a1] G (Qr X (xa X) post) := by
  refine mbegin (by decide) (Nat.le_of_ble_eq_true rfl) (fun p e s m below meth c hx hb hr hml hlk hown hE hz ls hl hP hD hS => ?_)
  have hl : lv_has ls 2 [(0, .ref (xa X 187)), (1, .int a1)] := hl
  have hown : s.vm.findClass "java/lang/StringBuilder" = some m.cls := hown
  unfold wpJ4_append_bf812 at hw
  refine lv_aload_n hx hb dJ4_append_bf812_0 rfl (lv_at hl 0 rfl) ?_
  refine lv_iload_n hx hb dJ4_append_bf812_1 rfl (lv_at hl 1 rfl) ?_
  refine call_r (run_SU (cc := cJ4_append_bf812) (As := [.int a1]) (rest := []) (at_sb hE) hx hb hml hown hE hz (okJ5_append_c97b9 X l hfl  hw) qw_589 qw_2077 qw_316 qw_590 qw_82 qw_591 ⟨by decide, (myJ5_append_c97b9).2.2.2⟩ ⟨Nat.le_of_ble_eq_true rfl, Nat.le_of_ble_eq_true rfl⟩ (rv_J4 hE hP rfl) hP hD hS rfl hl.1 rfl (Nat.le_of_ble_eq_true rfl) dJ4_append_bf812_2 ⟨Nat.le_of_ble_eq_true rfl, Nat.le_of_ble_eq_true rfl⟩) hS (fun r2 G1 H locs hw hP hD hS => ?_)
  obtain ⟨rfl, hw⟩ := hw
  refine lv_pop hx hb dJ4_append_bf812_5 rfl ?_
  refine lv_aload_n hx hb dJ4_append_bf812_6 rfl (lv_at hl 0 rfl) ?_
  exact end_r hx hb hr hlk (Or.inl ⟨_, rfl⟩) hw hP hD hS dJ4_append_bf812_7
def wpJ4_charAt_5068e (post : Int32 → GS → Prop) (a1 : Int32) (G : GS) : Prop :=
  wpJ5_charAt_5068e (fun (r2 : Int32) (G1 : GS) =>
  narrow .char (.int r2) = .int r2 ∧ post r2 G1) a1 G
set_option maxHeartbeats 4000000 in
set_option maxRecDepth 100000 in
theorem okJ4_charAt_5068e (X : Cx) (l : Launch) (hfl : l.stackTraces = false) {post : Int32 → GS → Prop} {a1 : Int32} {G : GS}  (hw : wpJ4_charAt_5068e post a1 G) : CT X l yJ4_charAt_5068e cJ4_charAt_5068e 2 (some FieldType.char) 4 0 0 [.ref (xa X 187), .int a1] G (Qi X post) := by
  refine mbegin (by decide) (Nat.le_of_ble_eq_true rfl) (fun p e s m below meth c hx hb hr hml hlk hown hE hz ls hl hP hD hS => ?_)
  have hl : lv_has ls 2 [(0, .ref (xa X 187)), (1, .int a1)] := hl
  have hown : s.vm.findClass "java/lang/StringBuilder" = some m.cls := hown
  unfold wpJ4_charAt_5068e at hw
  refine lv_aload_n hx hb dJ4_charAt_5068e_0 rfl (lv_at hl 0 rfl) ?_
  refine lv_iload_n hx hb dJ4_charAt_5068e_1 rfl (lv_at hl 1 rfl) ?_
  refine call_i (run_SU (cc := cJ4_charAt_5068e) (As := [.int a1]) (rest := []) (at_sb hE) hx hb hml hown hE hz (okJ5_charAt_5068e X l hfl  hw) qw_1426 qw_2081 qw_316 qw_1427 qw_82 qw_1428 ⟨by decide, (myJ5_charAt_5068e).2.2.2⟩ ⟨Nat.le_of_ble_eq_true rfl, Nat.le_of_ble_eq_true rfl⟩ (rv_J4 hE hP rfl) hP hD hS rfl hl.1 rfl (Nat.le_of_ble_eq_true rfl) dJ4_charAt_5068e_2 ⟨Nat.le_of_ble_eq_true rfl, Nat.le_of_ble_eq_true rfl⟩) hS (fun r2 G1 H locs hw hP hD hS => ?_)
  obtain ⟨y3, hw⟩ := hw
  exact end_i hx hb hr hlk y3 hw hP hD hS dJ4_charAt_5068e_5
def wpJ4_setLength_d00df (post : GS → Prop) (a1 : Int32) (G : GS) : Prop :=
  wpJ5_setLength_d00df (fun (G1 : GS) =>
  post G1) a1 G
set_option maxHeartbeats 4000000 in
set_option maxRecDepth 100000 in
theorem okJ4_setLength_d00df (X : Cx) (l : Launch) (hfl : l.stackTraces = false) {post : GS → Prop} {a1 : Int32} {G : GS}  (hw : wpJ4_setLength_d00df post a1 G) : CT X l yJ4_setLength_d00df cJ4_setLength_d00df 2 none 5 1 136 [.ref (xa X 187), .int a1] G (Qv X post) := by
  refine mbegin (by decide) (Nat.le_of_ble_eq_true rfl) (fun p e s m below meth c hx hb hr hml hlk hown hE hz ls hl hP hD hS => ?_)
  have hl : lv_has ls 2 [(0, .ref (xa X 187)), (1, .int a1)] := hl
  have hown : s.vm.findClass "java/lang/StringBuilder" = some m.cls := hown
  unfold wpJ4_setLength_d00df at hw
  refine lv_aload_n hx hb dJ4_setLength_d00df_0 rfl (lv_at hl 0 rfl) ?_
  refine lv_iload_n hx hb dJ4_setLength_d00df_1 rfl (lv_at hl 1 rfl) ?_
  refine call_v (run_SU (cc := cJ4_setLength_d00df) (As := [.int a1]) (rest := []) (at_sb hE) hx hb hml hown hE hz (okJ5_setLength_d00df X l hfl  hw) qw_456 qw_2069 qw_316 qw_457 qw_82 qw_458 ⟨by decide, (myJ5_setLength_d00df).2.2.2⟩ ⟨Nat.le_of_ble_eq_true rfl, Nat.le_of_ble_eq_true rfl⟩ (rv_J4 hE hP rfl) hP hD hS rfl hl.1 rfl (Nat.le_of_ble_eq_true rfl) dJ4_setLength_d00df_2 ⟨Nat.le_of_ble_eq_true rfl, Nat.le_of_ble_eq_true rfl⟩) hS (fun G1 H locs hw hP hD hS => ?_)
  exact end_v hx hb hr hlk hw hP hD hS dJ4_setLength_d00df_5
def wpJ4_length_8abf5 (post : Int32 → GS → Prop) (G : GS) : Prop :=
  wpJ5_length_8abf5 (fun (r2 : Int32) (G1 : GS) =>
  post r2 G1)  G
set_option maxHeartbeats 4000000 in
set_option maxRecDepth 100000 in
theorem okJ4_length_8abf5 (X : Cx) (l : Launch) (hfl : l.stackTraces = false) {post : Int32 → GS → Prop}  {G : GS}  (hw : wpJ4_length_8abf5 post G) : CT X l yJ4_length_8abf5 cJ4_length_8abf5 1 (some FieldType.int) 2 0 0 [.ref (xa X 187)] G (Qi X post) := by
  refine mbegin (by decide) (Nat.le_of_ble_eq_true rfl) (fun p e s m below meth c hx hb hr hml hlk hown hE hz ls hl hP hD hS => ?_)
  have hl : lv_has ls 1 [(0, .ref (xa X 187))] := hl
  have hown : s.vm.findClass "java/lang/StringBuilder" = some m.cls := hown
  unfold wpJ4_length_8abf5 at hw
  refine lv_aload_n hx hb dJ4_length_8abf5_0 rfl (lv_at hl 0 rfl) ?_
  refine call_i (run_SU (cc := cJ4_length_8abf5) (As := []) (rest := []) (at_sb hE) hx hb hml hown hE hz (okJ5_length_8abf5 X l hfl  hw) qw_634 qw_630 qw_316 qw_629 qw_82 qw_635 ⟨by decide, (myJ5_length_8abf5).2.2.2⟩ ⟨Nat.le_of_ble_eq_true rfl, Nat.le_of_ble_eq_true rfl⟩ (rv_J4 hE hP rfl) hP hD hS rfl hl.1 rfl (Nat.le_of_ble_eq_true rfl) dJ4_length_8abf5_1 ⟨Nat.le_of_ble_eq_true rfl, Nat.le_of_ble_eq_true rfl⟩) hS (fun r2 G1 H locs hw hP hD hS => ?_)
  exact end_i hx hb hr hlk rfl hw hP hD hS dJ4_length_8abf5_4
