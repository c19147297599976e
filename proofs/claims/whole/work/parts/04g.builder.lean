def wlJ6_stringSize_0f7a4_16 (post : Int32 → GS → Prop) (a1 : Int32) : Nat → GS → Int32 → Int32 → Int32 → Int32 → Prop
  | 0, _, _, _, _, _ => False
  | n + 1, G, v0, v1, v2, v3 =>
    if 10 ≤ v3 then
  post (10 + v1) G
else
  if v0 ≤ v2 then
    ∀ z4 : Int32, z4 = (10 * v2) →
      ∀ z5 : Int32, z5 = v3 + 1 →
      wlJ6_stringSize_0f7a4_16 post a1 n G v0 v1 z4 z5
  else
    post (v3 + v1) G
def wpJ6_stringSize_0f7a4 (post : Int32 → GS → Prop) (a1 : Int32) (G : GS) : Prop :=
  if a1 < 0 then
  ∃ nn, wlJ6_stringSize_0f7a4_16 post a1 nn G a1 1 (-10) 1
else
  ∃ nn, wlJ6_stringSize_0f7a4_16 post a1 nn G (-a1) 0 (-10) 1
set_option maxHeartbeats 4000000 in
set_option maxRecDepth 100000 in
theorem okJ6_stringSize_0f7a4 (X : Cx) (l : Launch) (hfl : l.stackTraces = false) {post : Int32 → GS → Prop} {a1 : Int32} {G : GS}  (hw : wpJ6_stringSize_0f7a4 post a1 G) : CT X l yJ6_stringSize_0f7a4 cJ6_stringSize_0f7a4 4 (some FieldType.int) 1 0 0 [.int a1] G (Qi X post) := by
  refine mbegin (by decide) (Nat.le_of_ble_eq_true rfl) (fun p e s m below meth c hx hb hr hml hlk hown hE hz ls hl hP hD hS => ?_)
  have hl : lv_has ls 4 [(0, .int a1)] := hl
  have hown : s.vm.findClass "java/lang/Integer" = some m.cls := hown
  have L16 : ∀ (n16 : Nat) (G : GS) (v0 : Int32) (v1 : Int32) (v2 : Int32) (v3 : Int32) (H : Heap) (locs : List Loc) (ls : Array Slot), wlJ6_stringSize_0f7a4_16 post a1 n16 G v0 v1 v2 v3 → va_P (xD X) vwCl (pool X G) H → va_D (xA X) (pool X G) → va_S (xA X) s.heap H locs → lv_has ls 4 [(0, .int v0), (1, .int v1), (2, .int v2), (3, .int v3)] → W p l e (rmL 1 0 0) s m [.int a1].toArray below meth c H locs 0 0 (MQ below (Qi X post) [.int a1].toArray s 0 0 (xA X)) (F0 m 16 ls []) := by
    intro n16
    induction n16 with
    | zero => intro G v0 v1 v2 v3  H locs ls hw; exact hw.elim
    | succ n16 ih16 =>
      intro G v0 v1 v2 v3  H locs ls hw hP hD hS hl
      rw [wlJ6_stringSize_0f7a4_16] at hw
      refine lv_iload_n hx hb dJ6_stringSize_0f7a4_16 rfl (lv_at hl 3 rfl) ?_
      refine lv_bipush (v := 10) hx hb dJ6_stringSize_0f7a4_17 (by decide) ?_
      refine lv_icmp_ge (tgt := 42) hx hb dJ6_stringSize_0f7a4_19 (by decide) (fun c6 => ?_) (fun c6 => ?_)
      · replace hw := ite_t hw c6
        refine lv_bipush (v := 10) hx hb dJ6_stringSize_0f7a4_42 (by decide) ?_
        refine lv_iload_n hx hb dJ6_stringSize_0f7a4_44 rfl (lv_at hl 1 rfl) ?_
        refine lv_iadd hx hb dJ6_stringSize_0f7a4_45 ?_
        exact end_i hx hb hr hlk rfl hw hP hD hS dJ6_stringSize_0f7a4_46
      · replace hw := ite_f hw c6
        refine lv_iload_n hx hb dJ6_stringSize_0f7a4_22 rfl (lv_at hl 0 rfl) ?_
        refine lv_iload_n hx hb dJ6_stringSize_0f7a4_23 rfl (lv_at hl 2 rfl) ?_
        refine lv_icmp_le (tgt := 31) hx hb dJ6_stringSize_0f7a4_24 (by decide) (fun c7 => ?_) (fun c7 => ?_)
        · replace hw := ite_t hw c7
          refine lv_bipush (v := 10) hx hb dJ6_stringSize_0f7a4_31 (by decide) ?_
          refine lv_iload_n hx hb dJ6_stringSize_0f7a4_33 rfl (lv_at hl 2 rfl) ?_
          refine lv_imul hx hb dJ6_stringSize_0f7a4_34 ?_
          refine lv_topi (fun z8 ez8 => ?_)
          replace hw := hw z8 ez8
          refine lv_istore_n (lv' := [(2, .int z8), (0, .int v0), (1, .int v1), (3, .int v3)]) hx hb dJ6_stringSize_0f7a4_35 rfl hl (by decide) rfl (fun ls hl => ?_)
          obtain ⟨z9, ez9⟩ : ∃ y : Int32, y = v3 + 1 := ⟨_, rfl⟩
          replace hw := hw z9 ez9
          refine lv_iinc (v := z9) (lv' := [(3, .int z9), (2, .int z8), (0, .int v0), (1, .int v1)]) hx hb dJ6_stringSize_0f7a4_36 hl (k := 3) rfl (by rw [ez9]; rfl) (by decide) rfl (fun ls hl => ?_)
          refine lv_goto (tgt := 16) hx hb dJ6_stringSize_0f7a4_39 (by decide) ?_
          exact ih16 G v0 v1 z8 z9  _ _ _ hw hP hD hS (lv_sub hl [2, 3, 1, 0] rfl)
        · replace hw := ite_f hw c7
          refine lv_iload_n hx hb dJ6_stringSize_0f7a4_27 rfl (lv_at hl 3 rfl) ?_
          refine lv_iload_n hx hb dJ6_stringSize_0f7a4_28 rfl (lv_at hl 1 rfl) ?_
          refine lv_iadd hx hb dJ6_stringSize_0f7a4_29 ?_
          exact end_i hx hb hr hlk rfl hw hP hD hS dJ6_stringSize_0f7a4_30
  unfold wpJ6_stringSize_0f7a4 at hw
  refine lv_iconst (v := 1) hx hb dJ6_stringSize_0f7a4_0 (by decide) ?_
  refine lv_istore_n (lv' := [(1, .int 1), (0, .int a1)]) hx hb dJ6_stringSize_0f7a4_1 rfl hl (by decide) rfl (fun ls hl => ?_)
  refine lv_iload_n hx hb dJ6_stringSize_0f7a4_2 rfl (lv_at hl 1 rfl) ?_
  refine lv_if_lt (tgt := 11) hx hb dJ6_stringSize_0f7a4_3 (by decide) (fun c1 => ?_) (fun c1 => ?_)
  · replace hw := ite_t hw c1
    refine lv_bipush (v := -10) hx hb dJ6_stringSize_0f7a4_11 (by decide) ?_
    refine lv_istore_n (lv' := [(2, .int (-10)), (1, .int 1), (0, .int a1)]) hx hb dJ6_stringSize_0f7a4_13 rfl hl (by decide) rfl (fun ls hl => ?_)
    refine lv_iconst (v := 1) hx hb dJ6_stringSize_0f7a4_14 (by decide) ?_
    refine lv_istore_n (lv' := [(3, .int 1), (2, .int (-10)), (1, .int 1), (0, .int a1)]) hx hb dJ6_stringSize_0f7a4_15 rfl hl (by decide) rfl (fun ls hl => ?_)
    obtain ⟨nn, hw⟩ := hw
    exact L16 nn G a1 1 (-10) 1  _ _ _ hw hP hD hS (lv_sub hl [3, 2, 1, 0] rfl)
  · replace hw := ite_f hw c1
    refine lv_iconst (v := 0) hx hb dJ6_stringSize_0f7a4_6 (by decide) ?_
    refine lv_istore_n (lv' := [(1, .int 0), (0, .int a1)]) hx hb dJ6_stringSize_0f7a4_7 rfl hl (by decide) rfl (fun ls hl => ?_)
    refine lv_iload_n hx hb dJ6_stringSize_0f7a4_8 rfl (lv_at hl 1 rfl) ?_
    refine lv_ineg hx hb dJ6_stringSize_0f7a4_9 ?_
    refine lv_istore_n (lv' := [(0, .int (-a1)), (1, .int 0)]) hx hb dJ6_stringSize_0f7a4_10 rfl hl (by decide) rfl (fun ls hl => ?_)
    refine lv_bipush (v := -10) hx hb dJ6_stringSize_0f7a4_11 (by decide) ?_
    refine lv_istore_n (lv' := [(2, .int (-10)), (0, .int (-a1)), (1, .int 0)]) hx hb dJ6_stringSize_0f7a4_13 rfl hl (by decide) rfl (fun ls hl => ?_)
    refine lv_iconst (v := 1) hx hb dJ6_stringSize_0f7a4_14 (by decide) ?_
    refine lv_istore_n (lv' := [(3, .int 1), (2, .int (-10)), (0, .int (-a1)), (1, .int 0)]) hx hb dJ6_stringSize_0f7a4_15 rfl hl (by decide) rfl (fun ls hl => ?_)
    obtain ⟨nn, hw⟩ := hw
    exact L16 nn G (-a1) 0 (-10) 1  _ _ _ hw hP hD hS (lv_sub hl [2, 3, 1, 0] rfl)
def wpJ8_newLength_cabcc (post : Int32 → GS → Prop) (a1 : Int32) (a2 : Int32) (a3 : Int32) (G : GS) : Prop :=
  ∀ z1 : Int32, z1 = (a1 + (if a2 < a3 then a3 else a2)) →
  if z1 ≤ 0 then
  False
else
  if 2147483639 < z1 then
    False
  else
    post z1 G
set_option maxHeartbeats 4000000 in
set_option maxRecDepth 100000 in
theorem okJ8_newLength_cabcc (X : Cx) (l : Launch) (hfl : l.stackTraces = false) {post : Int32 → GS → Prop} {a1 : Int32} {a2 : Int32} {a3 : Int32} {G : GS}  (hw : wpJ8_newLength_cabcc post a1 a2 a3 G) : CT X l yJ8_newLength_cabcc cJ8_newLength_cabcc 4 (some FieldType.int) 1 0 0 [.int a1, .int a2, .int a3] G (Qi X post) := by
  refine mbegin (by decide) (Nat.le_of_ble_eq_true rfl) (fun p e s m below meth c hx hb hr hml hlk hown hE hz ls hl hP hD hS => ?_)
  have hl : lv_has ls 4 [(0, .int a1), (1, .int a2), (2, .int a3)] := hl
  have hown : s.vm.findClass "jdk/internal/util/ArraysSupport" = some m.cls := hown
  unfold wpJ8_newLength_cabcc at hw
  refine lv_iload_n hx hb dJ8_newLength_cabcc_0 rfl (lv_at hl 0 rfl) ?_
  refine lv_iload_n hx hb dJ8_newLength_cabcc_1 rfl (lv_at hl 1 rfl) ?_
  refine lv_iload_n hx hb dJ8_newLength_cabcc_2 rfl (lv_at hl 2 rfl) ?_
  refine va_mmax hx hb (hml.trans hl.1.symm) hown (hE.w qw_489 rfl _) (hE.w qw_438 rfl _) (hE.w qw_97 rfl _) (hE.w qw_439 rfl _) (Nat.le_of_ble_eq_true rfl) (Nat.le_of_ble_eq_true rfl) (Nat.le_of_ble_eq_true rfl) (Nat.le_of_ble_eq_true rfl) dJ8_newLength_cabcc_3 ?_
  refine lv_iadd hx hb dJ8_newLength_cabcc_6 ?_
  refine lv_topi (fun z1 ez1 => ?_)
  replace hw := hw z1 ez1
  refine lv_istore_n (lv' := [(3, .int z1), (0, .int a1), (1, .int a2), (2, .int a3)]) hx hb dJ8_newLength_cabcc_7 rfl hl (by decide) rfl (fun ls hl => ?_)
  refine lv_iconst (v := 0) hx hb dJ8_newLength_cabcc_8 (by decide) ?_
  refine lv_iload_n hx hb dJ8_newLength_cabcc_9 rfl (lv_at hl 0 rfl) ?_
  refine lv_icmp_ge (tgt := 21) hx hb dJ8_newLength_cabcc_10 (by decide) (fun c2 => ?_) (fun c2 => ?_)
  · replace hw := ite_t hw c2
    exact hw.elim
  · replace hw := ite_f hw c2
    refine lv_iload_n hx hb dJ8_newLength_cabcc_13 rfl (lv_at hl 0 rfl) ?_
    refine lv_ldc (v := 2147483639) hx hb hown (hE.w qw_490 rfl _) dJ8_newLength_cabcc_14 ?_
    refine lv_icmp_gt (tgt := 21) hx hb dJ8_newLength_cabcc_16 (by decide) (fun c3 => ?_) (fun c3 => ?_)
    · replace hw := ite_t hw c3
      exact hw.elim
    · replace hw := ite_f hw c3
      refine lv_iload_n hx hb dJ8_newLength_cabcc_19 rfl (lv_at hl 0 rfl) ?_
      exact end_i hx hb hr hlk rfl hw hP hD hS dJ8_newLength_cabcc_20
def wpJ5_newCapacity_0f7a4 (post : Int32 → GS → Prop) (a1 : Int32) (G : GS) : Prop :=
  ∀ o1 : Nat, o1 = G.2.1.1 →
  o1 = G.2.1.1 ∧
  ∀ z3 : Int32, z3 = (nI G.2.1.2) →
  ∀ z4 : Int32, z4 = (a1 <<< ((G.1 187 1) &&& 31)) →
  ∀ z5 : Int32, z5 = (z4 - z3) →
  wpJ8_newLength_cabcc (fun (r7 : Int32) (G6 : GS) =>
  if r7 = 2147483647 then
    False
  else
    post (r7 >>> ((G6.1 187 1) &&& 31)) G6) z3 z5 (z3 + (2 <<< ((G.1 187 1) &&& 31))) G
set_option maxHeartbeats 4000000 in
set_option maxRecDepth 100000 in
theorem okJ5_newCapacity_0f7a4 (X : Cx) (l : Launch) (hfl : l.stackTraces = false) {post : Int32 → GS → Prop} {a1 : Int32} {G : GS}  (hw : wpJ5_newCapacity_0f7a4 post a1 G) : CT X l yJ5_newCapacity_0f7a4 cJ5_newCapacity_0f7a4 6 (some FieldType.int) 2 0 0 [.ref (xa X 187), .int a1] G (Qi X post) := by
  refine mbegin (by decide) (Nat.le_of_ble_eq_true rfl) (fun p e s m below meth c hx hb hr hml hlk hown hE hz ls hl hP hD hS => ?_)
  have hl : lv_has ls 6 [(0, .ref (xa X 187)), (1, .int a1)] := hl
  have hown : s.vm.findClass "java/lang/AbstractStringBuilder" = some m.cls := hown
  unfold wpJ5_newCapacity_0f7a4 at hw
  refine lv_aload_n hx hb dJ5_newCapacity_0f7a4_0 rfl (lv_at hl 0 rfl) ?_
  refine gf_J4_0 (fun _ h9 => h9) hx hb hE hP hown rfl (hE.w qw_303 rfl _) dJ5_newCapacity_0f7a4_1 ?_
  refine topo (fun o1 eo1 => ?_)
  replace hw := hw o1 eo1
  obtain ⟨y2, hw⟩ := hw
  refine alen_12o y2 hx hb hE hP dJ5_newCapacity_0f7a4_4 ?_
  refine lv_topi (fun z3 ez3 => ?_)
  replace hw := hw z3 ez3
  refine lv_istore_n (lv' := [(2, .int z3), (0, .ref (xa X 187)), (1, .int a1)]) hx hb dJ5_newCapacity_0f7a4_5 rfl hl (by decide) rfl (fun ls hl => ?_)
  refine lv_iload_n hx hb dJ5_newCapacity_0f7a4_6 rfl (lv_at hl 2 rfl) ?_
  refine lv_aload_n hx hb dJ5_newCapacity_0f7a4_7 rfl (lv_at hl 1 rfl) ?_
  refine gf_J4_1 (fun _ h9 => h9) hx hb hE hP hown rfl (hE.w qw_304 rfl _) dJ5_newCapacity_0f7a4_8 ?_
  refine lv_ishl hx hb dJ5_newCapacity_0f7a4_11 ?_
  refine lv_topi (fun z4 ez4 => ?_)
  replace hw := hw z4 ez4
  refine lv_istore_n (lv' := [(3, .int z4), (2, .int z3), (0, .ref (xa X 187)), (1, .int a1)]) hx hb dJ5_newCapacity_0f7a4_12 rfl hl (by decide) rfl (fun ls hl => ?_)
  refine lv_iload_n hx hb dJ5_newCapacity_0f7a4_13 rfl (lv_at hl 0 rfl) ?_
  refine lv_iload_n hx hb dJ5_newCapacity_0f7a4_14 rfl (lv_at hl 1 rfl) ?_
  refine lv_isub hx hb dJ5_newCapacity_0f7a4_15 ?_
  refine lv_topi (fun z5 ez5 => ?_)
  replace hw := hw z5 ez5
  refine lv_istore (lv' := [(4, .int z5), (3, .int z4), (2, .int z3), (0, .ref (xa X 187)), (1, .int a1)]) hx hb dJ5_newCapacity_0f7a4_16 hl (by decide) rfl (fun ls hl => ?_)
  refine lv_iload_n hx hb dJ5_newCapacity_0f7a4_18 rfl (lv_at hl 2 rfl) ?_
  refine lv_iload hx hb dJ5_newCapacity_0f7a4_19 (lv_at hl 0 rfl) ?_
  refine lv_iload_n hx hb dJ5_newCapacity_0f7a4_21 rfl (lv_at hl 2 rfl) ?_
  refine lv_iconst (v := 2) hx hb dJ5_newCapacity_0f7a4_22 (by decide) ?_
  refine lv_aload_n hx hb dJ5_newCapacity_0f7a4_23 rfl (lv_at hl 3 rfl) ?_
  refine gf_J4_1 (fun _ h9 => h9) hx hb hE hP hown rfl (hE.w qw_304 rfl _) dJ5_newCapacity_0f7a4_24 ?_
  refine lv_ishl hx hb dJ5_newCapacity_0f7a4_27 ?_
  refine lv_iadd hx hb dJ5_newCapacity_0f7a4_28 ?_
  refine call_i (run_S (cc := cJ5_newCapacity_0f7a4) (As := [.int z3, .int z5, .int (z3 + (2 <<< ((G.1 187 1) &&& 31)))]) (rest := []) hx hb hml hown hE hz (okJ8_newLength_cabcc X l hfl  hw) qw_486 qw_487 qw_105 qw_488 (myJ8_newLength_cabcc).2 ⟨Nat.le_of_ble_eq_true rfl, Nat.le_of_ble_eq_true rfl⟩ hP hD hS rfl hl.1 rfl (Nat.le_of_ble_eq_true rfl) dJ5_newCapacity_0f7a4_29 ⟨Nat.le_of_ble_eq_true rfl, Nat.le_of_ble_eq_true rfl⟩) hS (fun r7 G6 H locs hw hP hD hS => ?_)
  refine lv_istore (lv' := [(5, .int r7), (4, .int z5), (3, .int z4), (2, .int z3), (0, .ref (xa X 187)), (1, .int a1)]) hx hb dJ5_newCapacity_0f7a4_32 hl (by decide) rfl (fun ls hl => ?_)
  refine lv_iload hx hb dJ5_newCapacity_0f7a4_34 (lv_at hl 0 rfl) ?_
  refine lv_ldc (v := 2147483647) hx hb hown (hE.w qw_494 rfl _) dJ5_newCapacity_0f7a4_36 ?_
  refine lv_icmp_ne (tgt := 51) hx hb dJ5_newCapacity_0f7a4_38 (by decide) (fun c8 => ?_) (fun c8 => ?_)
  · replace hw := ite_f hw c8
    refine lv_iload hx hb dJ5_newCapacity_0f7a4_51 (lv_at hl 0 rfl) ?_
    refine lv_aload_n hx hb dJ5_newCapacity_0f7a4_53 rfl (lv_at hl 4 rfl) ?_
    refine gf_J4_1 (fun _ h9 => h9) hx hb hE hP hown rfl (hE.w qw_304 rfl _) dJ5_newCapacity_0f7a4_54 ?_
    refine lv_ishr hx hb dJ5_newCapacity_0f7a4_57 ?_
    exact end_i hx hb hr hlk rfl hw hP hD hS dJ5_newCapacity_0f7a4_58
  · replace hw := ite_t hw c8
    exact hw.elim
def wpJ5_isLatin1_aae02 (post : Int32 → GS → Prop) (G : GS) : Prop :=
  if (1 : Int32) = 0 then
  post 0 G
else
  if (G.1 187 1) = 0 then
    post 1 G
  else
    post 0 G
set_option maxHeartbeats 4000000 in
set_option maxRecDepth 100000 in
theorem okJ5_isLatin1_aae02 (X : Cx) (l : Launch) (hfl : l.stackTraces = false) {post : Int32 → GS → Prop}  {G : GS}  (hw : wpJ5_isLatin1_aae02 post G) : CT X l yJ5_isLatin1_aae02 cJ5_isLatin1_aae02 1 (some FieldType.boolean) 1 0 0 [.ref (xa X 187)] G (Qi X post) := by
  refine mbegin (by decide) (Nat.le_of_ble_eq_true rfl) (fun p e s m below meth c hx hb hr hml hlk hown hE hz ls hl hP hD hS => ?_)
  have hl : lv_has ls 1 [(0, .ref (xa X 187))] := hl
  have hown : s.vm.findClass "java/lang/AbstractStringBuilder" = some m.cls := hown
  unfold wpJ5_isLatin1_aae02 at hw
  refine va_gets hx hb hE.cs hS hown (hE.w qw_294 rfl _) (fun _ h9 => h9) dJ5_isLatin1_aae02_0 ?_
  refine lv_if_eq (tgt := 17) hx hb dJ5_isLatin1_aae02_3 (by decide) (fun c1 => ?_) (fun c1 => ?_)
  · replace hw := ite_t hw c1
    refine lv_iconst (v := 0) hx hb dJ5_isLatin1_aae02_17 (by decide) ?_
    exact end_i hx hb hr hlk (by decide) hw hP hD hS dJ5_isLatin1_aae02_18
  · replace hw := ite_f hw c1
    refine lv_aload_n hx hb dJ5_isLatin1_aae02_6 rfl (lv_at hl 0 rfl) ?_
    refine gf_J4_1 (fun _ h9 => h9) hx hb hE hP hown rfl (hE.w qw_304 rfl _) dJ5_isLatin1_aae02_7 ?_
    refine lv_if_ne (tgt := 17) hx hb dJ5_isLatin1_aae02_10 (by decide) (fun c2 => ?_) (fun c2 => ?_)
    · replace hw := ite_f hw c2
      refine lv_iconst (v := 0) hx hb dJ5_isLatin1_aae02_17 (by decide) ?_
      exact end_i hx hb hr hlk (by decide) hw hP hD hS dJ5_isLatin1_aae02_18
    · replace hw := ite_t hw c2
      refine lv_iconst (v := 1) hx hb dJ5_isLatin1_aae02_13 (by decide) ?_
      refine lv_goto (tgt := 18) hx hb dJ5_isLatin1_aae02_14 (by decide) ?_
      exact end_i hx hb hr hlk (by decide) hw hP hD hS dJ5_isLatin1_aae02_18
def wpJ5_length_8abf5 (post : Int32 → GS → Prop) (G : GS) : Prop :=
  post (G.1 187 3) G
set_option maxHeartbeats 4000000 in
set_option maxRecDepth 100000 in
theorem okJ5_length_8abf5 (X : Cx) (l : Launch) (hfl : l.stackTraces = false) {post : Int32 → GS → Prop}  {G : GS}  (hw : wpJ5_length_8abf5 post G) : CT X l yJ5_length_8abf5 cJ5_length_8abf5 1 (some FieldType.int) 1 0 0 [.ref (xa X 187)] G (Qi X post) := by
  refine mbegin (by decide) (Nat.le_of_ble_eq_true rfl) (fun p e s m below meth c hx hb hr hml hlk hown hE hz ls hl hP hD hS => ?_)
  have hl : lv_has ls 1 [(0, .ref (xa X 187))] := hl
  have hown : s.vm.findClass "java/lang/AbstractStringBuilder" = some m.cls := hown
  unfold wpJ5_length_8abf5 at hw
  refine lv_aload_n hx hb dJ5_length_8abf5_0 rfl (lv_at hl 0 rfl) ?_
  refine gf_J4_3 (fun _ h9 => h9) hx hb hE hP hown rfl (hE.w qw_307 rfl _) dJ5_length_8abf5_1 ?_
  exact end_i hx hb hr hlk rfl hw hP hD hS dJ5_length_8abf5_4
def wbJ6_getChars_ba4f3_104 (post : Int32 → GS → Prop) (a1 : Int32) (a2 : Int32) (o3 : Nat) (G : GS) (v5 : Int32) (v6 : Int32) : Prop :=
  if v6 = 0 then
  post v5 G
else
  ∀ z11 : Int32, z11 = v5 + (-1) →
    o3 = G.2.1.1 ∧ vp_in z11 G.2.1.2 ∧ ∀ G13 : GS, G13 = gI G 188 z11.toNatClampNeg (vp_nar .byte 45) →
    post z11 G13
def wlJ6_getChars_ba4f3_22 (post : Int32 → GS → Prop) (a1 : Int32) (a2 : Int32) (o3 : Nat) : Nat → GS → Int32 → Int32 → Int32 → Prop
  | 0, _, _, _, _ => False
  | n + 1, G, v0, v5, v6 =>
    if (-100) < v0 then
  ∀ z4 : Int32, z4 = v5 + (-1) →
    vp_in (-v0) 100 ∧
    o3 = G.2.1.1 ∧ vp_in z4 G.2.1.2 ∧ ∀ G7 : GS, G7 = gI G 188 z4.toNatClampNeg (vp_nar .byte (DOl.getD (-v0).toNatClampNeg 0)) →
    if (-9) ≤ v0 then
    wbJ6_getChars_ba4f3_104 post a1 a2 o3 G7 z4 v6
  else
    ∀ z20 : Int32, z20 = z4 + (-1) →
      vp_in (-v0) 100 ∧
      o3 = G7.2.1.1 ∧ vp_in z20 G7.2.1.2 ∧ ∀ G23 : GS, G23 = gI G7 188 z20.toNatClampNeg (vp_nar .byte (DTl.getD (-v0).toNatClampNeg 0)) →
      wbJ6_getChars_ba4f3_104 post a1 a2 o3 G23 z20 v6
else
  ∀ z26 : Int32, z26 = (v0 / 100) →
    ∀ z27 : Int32, z27 = ((z26 * 100) - v0) →
    ∀ z28 : Int32, z28 = v5 + (-1) →
    vp_in z27 100 ∧
    o3 = G.2.1.1 ∧ vp_in z28 G.2.1.2 ∧ ∀ G31 : GS, G31 = gI G 188 z28.toNatClampNeg (vp_nar .byte (DOl.getD z27.toNatClampNeg 0)) →
    ∀ z33 : Int32, z33 = z28 + (-1) →
    vp_in z27 100 ∧
    o3 = G31.2.1.1 ∧ vp_in z33 G31.2.1.2 ∧ ∀ G36 : GS, G36 = gI G31 188 z33.toNatClampNeg (vp_nar .byte (DTl.getD z27.toNatClampNeg 0)) →
    wlJ6_getChars_ba4f3_22 post a1 a2 o3 n G36 z26 z33 v6
def wbJ6_getChars_ba4f3_12 (post : Int32 → GS → Prop) (a1 : Int32) (a2 : Int32) (o3 : Nat) (G : GS) (v0 : Int32) (v5 : Int32) (t0 : Int32) : Prop :=
  if t0 = 0 then
  ∃ nn, wlJ6_getChars_ba4f3_22 post a1 a2 o3 nn G (-v0) v5 t0
else
  ∃ nn, wlJ6_getChars_ba4f3_22 post a1 a2 o3 nn G v0 v5 t0
def wpJ6_getChars_ba4f3 (post : Int32 → GS → Prop) (a1 : Int32) (a2 : Int32) (o3 : Nat) (G : GS) : Prop :=
  if 0 ≤ a1 then
  wbJ6_getChars_ba4f3_12 post a1 a2 o3 G a1 a2 0
else
  wbJ6_getChars_ba4f3_12 post a1 a2 o3 G a1 a2 1
set_option maxHeartbeats 4000000 in
set_option maxRecDepth 100000 in
theorem okJ6_getChars_ba4f3 (X : Cx) (l : Launch) (hfl : l.stackTraces = false) {post : Int32 → GS → Prop} {a1 : Int32} {a2 : Int32} {o3 : Nat} {G : GS}  (hw : wpJ6_getChars_ba4f3 post a1 a2 o3 G) : CT X l yJ6_getChars_ba4f3 cJ6_getChars_ba4f3 7 (some FieldType.int) 1 0 0 [.int a1, .int a2, .ref o3] G (Qi X post) := by
  refine mbegin (by decide) (Nat.le_of_ble_eq_true rfl) (fun p e s m below meth c hx hb hr hml hlk hown hE hz ls hl hP hD hS => ?_)
  have hl : lv_has ls 7 [(0, .int a1), (1, .int a2), (2, .ref o3)] := hl
  have hown : s.vm.findClass "java/lang/Integer" = some m.cls := hown
  have B104 : ∀ (G : GS) (v5 : Int32) (v6 : Int32) (H : Heap) (locs : List Loc) (ls : Array Slot), wbJ6_getChars_ba4f3_104 post a1 a2 o3 G v5 v6 → va_P (xD X) vwCl (pool X G) H → va_D (xA X) (pool X G) → va_S (xA X) s.heap H locs → lv_has ls 7 [(2, .ref o3), (5, .int v5), (6, .int v6)] → W p l e (rmL 1 0 0) s m [.int a1, .int a2, .ref o3].toArray below meth c H locs 0 0 (MQ below (Qi X post) [.int a1, .int a2, .ref o3].toArray s 0 0 (xA X)) (F0 m 104 ls []) := by
    intro G v5 v6  H locs ls hw hP hD hS hl
    unfold wbJ6_getChars_ba4f3_104 at hw
    refine lv_iload hx hb dJ6_getChars_ba4f3_104 (lv_at hl 2 rfl) ?_
    refine lv_if_eq (tgt := 118) hx hb dJ6_getChars_ba4f3_106 (by decide) (fun c15 => ?_) (fun c15 => ?_)
    · replace hw := ite_t hw c15
      refine lv_iload hx hb dJ6_getChars_ba4f3_118 (lv_at hl 1 rfl) ?_
      exact end_i hx hb hr hlk rfl hw hP hD hS dJ6_getChars_ba4f3_120
    · replace hw := ite_f hw c15
      refine lv_aload_n hx hb dJ6_getChars_ba4f3_109 rfl (lv_at hl 0 rfl) ?_
      obtain ⟨z16, ez16⟩ : ∃ y : Int32, y = v5 + (-1) := ⟨_, rfl⟩
      replace hw := hw z16 ez16
      refine lv_iinc (v := z16) (lv' := [(5, .int z16), (2, .ref o3), (6, .int v6)]) hx hb dJ6_getChars_ba4f3_110 hl (k := 1) rfl (by rw [ez16]; rfl) (by decide) rfl (fun ls hl => ?_)
      refine lv_iload hx hb dJ6_getChars_ba4f3_113 (lv_at hl 0 rfl) ?_
      refine lv_bipush (v := 45) hx hb dJ6_getChars_ba4f3_115 (by decide) ?_
      obtain ⟨y19, y17, hw⟩ := hw
      refine ast_12o y19 hx hb hE hP hD hS y17 dJ6_getChars_ba4f3_117 (fun G18 H locs eG18 hP hD hS => ?_)
      replace hw := hw G18 eG18
      refine lv_iload hx hb dJ6_getChars_ba4f3_118 (lv_at hl 0 rfl) ?_
      exact end_i hx hb hr hlk rfl hw hP hD hS dJ6_getChars_ba4f3_120
  have L22 : ∀ (n22 : Nat) (G : GS) (v0 : Int32) (v5 : Int32) (v6 : Int32) (H : Heap) (locs : List Loc) (ls : Array Slot), wlJ6_getChars_ba4f3_22 post a1 a2 o3 n22 G v0 v5 v6 → va_P (xD X) vwCl (pool X G) H → va_D (xA X) (pool X G) → va_S (xA X) s.heap H locs → lv_has ls 7 [(0, .int v0), (2, .ref o3), (5, .int v5), (6, .int v6)] → W p l e (rmL 1 0 0) s m [.int a1, .int a2, .ref o3].toArray below meth c H locs 0 0 (MQ below (Qi X post) [.int a1, .int a2, .ref o3].toArray s 0 0 (xA X)) (F0 m 22 ls []) := by
    intro n22
    induction n22 with
    | zero => intro G v0 v5 v6  H locs ls hw; exact hw.elim
    | succ n22 ih22 =>
      intro G v0 v5 v6  H locs ls hw hP hD hS hl
      rw [wlJ6_getChars_ba4f3_22] at hw
      refine lv_iload_n hx hb dJ6_getChars_ba4f3_22 rfl (lv_at hl 0 rfl) ?_
      refine lv_bipush (v := -100) hx hb dJ6_getChars_ba4f3_23 (by decide) ?_
      refine lv_icmp_gt (tgt := 72) hx hb dJ6_getChars_ba4f3_25 (by decide) (fun c38 => ?_) (fun c38 => ?_)
      · replace hw := ite_t hw c38
        refine lv_aload_n hx hb dJ6_getChars_ba4f3_72 rfl (lv_at hl 1 rfl) ?_
        obtain ⟨z39, ez39⟩ : ∃ y : Int32, y = v5 + (-1) := ⟨_, rfl⟩
        replace hw := hw z39 ez39
        refine lv_iinc (v := z39) (lv' := [(5, .int z39), (0, .int v0), (2, .ref o3), (6, .int v6)]) hx hb dJ6_getChars_ba4f3_73 hl (k := 2) rfl (by rw [ez39]; rfl) (by decide) rfl (fun ls hl => ?_)
        refine lv_iload hx hb dJ6_getChars_ba4f3_76 (lv_at hl 0 rfl) ?_
        refine va_gets hx hb hE.zO hS hown (hE.w qw_598 rfl _) (fun _ h9 => h9) dJ6_getChars_ba4f3_78 ?_
        refine lv_iload_n hx hb dJ6_getChars_ba4f3_81 rfl (lv_at hl 1 rfl) ?_
        refine lv_ineg hx hb dJ6_getChars_ba4f3_82 ?_
        obtain ⟨y40, hw⟩ := hw
        refine va_tb hx hb hE.tO hS y40 rfl dJ6_getChars_ba4f3_83 ?_
        obtain ⟨y43, y41, hw⟩ := hw
        refine ast_12o y43 hx hb hE hP hD hS y41 dJ6_getChars_ba4f3_84 (fun G42 H locs eG42 hP hD hS => ?_)
        replace hw := hw G42 eG42
        refine lv_iload_n hx hb dJ6_getChars_ba4f3_85 rfl (lv_at hl 1 rfl) ?_
        refine lv_bipush (v := -9) hx hb dJ6_getChars_ba4f3_86 (by decide) ?_
        refine lv_icmp_ge (tgt := 104) hx hb dJ6_getChars_ba4f3_88 (by decide) (fun c44 => ?_) (fun c44 => ?_)
        · replace hw := ite_t hw c44
          exact B104 G42 z39 v6  _ _ _ hw hP hD hS (lv_sub hl [2, 0, 3] rfl)
        · replace hw := ite_f hw c44
          refine lv_aload_n hx hb dJ6_getChars_ba4f3_91 rfl (lv_at hl 2 rfl) ?_
          obtain ⟨z45, ez45⟩ : ∃ y : Int32, y = z39 + (-1) := ⟨_, rfl⟩
          replace hw := hw z45 ez45
          refine lv_iinc (v := z45) (lv' := [(5, .int z45), (0, .int v0), (2, .ref o3), (6, .int v6)]) hx hb dJ6_getChars_ba4f3_92 hl (k := 0) rfl (by rw [ez45]; rfl) (by decide) rfl (fun ls hl => ?_)
          refine lv_iload hx hb dJ6_getChars_ba4f3_95 (lv_at hl 0 rfl) ?_
          refine va_gets hx hb hE.zT hS hown (hE.w qw_600 rfl _) (fun _ h9 => h9) dJ6_getChars_ba4f3_97 ?_
          refine lv_iload_n hx hb dJ6_getChars_ba4f3_100 rfl (lv_at hl 1 rfl) ?_
          refine lv_ineg hx hb dJ6_getChars_ba4f3_101 ?_
          obtain ⟨y46, hw⟩ := hw
          refine va_tb hx hb hE.tT hS y46 rfl dJ6_getChars_ba4f3_102 ?_
          obtain ⟨y49, y47, hw⟩ := hw
          refine ast_12o y49 hx hb hE hP hD hS y47 dJ6_getChars_ba4f3_103 (fun G48 H locs eG48 hP hD hS => ?_)
          replace hw := hw G48 eG48
          exact B104 G48 z45 v6  _ _ _ hw hP hD hS (lv_sub hl [2, 0, 3] rfl)
      · replace hw := ite_f hw c38
        refine lv_iload_n hx hb dJ6_getChars_ba4f3_28 rfl (lv_at hl 0 rfl) ?_
        refine lv_bipush (v := 100) hx hb dJ6_getChars_ba4f3_29 (by decide) ?_
        refine lv_idiv hx hb dJ6_getChars_ba4f3_31 (by decide) ?_
        refine lv_topi (fun z51 ez51 => ?_)
        replace hw := hw z51 ez51
        refine lv_istore_n (lv' := [(3, .int z51), (0, .int v0), (2, .ref o3), (5, .int v5), (6, .int v6)]) hx hb dJ6_getChars_ba4f3_32 rfl hl (by decide) rfl (fun ls hl => ?_)
        refine lv_iload_n hx hb dJ6_getChars_ba4f3_33 rfl (lv_at hl 0 rfl) ?_
        refine lv_bipush (v := 100) hx hb dJ6_getChars_ba4f3_34 (by decide) ?_
        refine lv_imul hx hb dJ6_getChars_ba4f3_36 ?_
        refine lv_iload_n hx hb dJ6_getChars_ba4f3_37 rfl (lv_at hl 1 rfl) ?_
        refine lv_isub hx hb dJ6_getChars_ba4f3_38 ?_
        refine lv_topi (fun z52 ez52 => ?_)
        replace hw := hw z52 ez52
        refine lv_istore (lv' := [(4, .int z52), (3, .int z51), (0, .int v0), (2, .ref o3), (5, .int v5), (6, .int v6)]) hx hb dJ6_getChars_ba4f3_39 hl (by decide) rfl (fun ls hl => ?_)
        refine lv_iload_n hx hb dJ6_getChars_ba4f3_41 rfl (lv_at hl 1 rfl) ?_
        refine lv_istore_n (lv' := [(0, .int z51), (4, .int z52), (3, .int z51), (2, .ref o3), (5, .int v5), (6, .int v6)]) hx hb dJ6_getChars_ba4f3_42 rfl hl (by decide) rfl (fun ls hl => ?_)
        refine lv_aload_n hx hb dJ6_getChars_ba4f3_43 rfl (lv_at hl 3 rfl) ?_
        obtain ⟨z53, ez53⟩ : ∃ y : Int32, y = v5 + (-1) := ⟨_, rfl⟩
        replace hw := hw z53 ez53
        refine lv_iinc (v := z53) (lv' := [(5, .int z53), (0, .int z51), (4, .int z52), (3, .int z51), (2, .ref o3), (6, .int v6)]) hx hb dJ6_getChars_ba4f3_44 hl (k := 4) rfl (by rw [ez53]; rfl) (by decide) rfl (fun ls hl => ?_)
        refine lv_iload hx hb dJ6_getChars_ba4f3_47 (lv_at hl 0 rfl) ?_
        refine va_gets hx hb hE.zO hS hown (hE.w qw_598 rfl _) (fun _ h9 => h9) dJ6_getChars_ba4f3_49 ?_
        refine lv_iload hx hb dJ6_getChars_ba4f3_52 (lv_at hl 2 rfl) ?_
        obtain ⟨y54, hw⟩ := hw
        refine va_tb hx hb hE.tO hS y54 rfl dJ6_getChars_ba4f3_54 ?_
        obtain ⟨y57, y55, hw⟩ := hw
        refine ast_12o y57 hx hb hE hP hD hS y55 dJ6_getChars_ba4f3_55 (fun G56 H locs eG56 hP hD hS => ?_)
        replace hw := hw G56 eG56
        refine lv_aload_n hx hb dJ6_getChars_ba4f3_56 rfl (lv_at hl 4 rfl) ?_
        obtain ⟨z58, ez58⟩ : ∃ y : Int32, y = z53 + (-1) := ⟨_, rfl⟩
        replace hw := hw z58 ez58
        refine lv_iinc (v := z58) (lv' := [(5, .int z58), (0, .int z51), (4, .int z52), (3, .int z51), (2, .ref o3), (6, .int v6)]) hx hb dJ6_getChars_ba4f3_57 hl (k := 0) rfl (by rw [ez58]; rfl) (by decide) rfl (fun ls hl => ?_)
        refine lv_iload hx hb dJ6_getChars_ba4f3_60 (lv_at hl 0 rfl) ?_
        refine va_gets hx hb hE.zT hS hown (hE.w qw_600 rfl _) (fun _ h9 => h9) dJ6_getChars_ba4f3_62 ?_
        refine lv_iload hx hb dJ6_getChars_ba4f3_65 (lv_at hl 2 rfl) ?_
        obtain ⟨y59, hw⟩ := hw
        refine va_tb hx hb hE.tT hS y59 rfl dJ6_getChars_ba4f3_67 ?_
        obtain ⟨y62, y60, hw⟩ := hw
        refine ast_12o y62 hx hb hE hP hD hS y60 dJ6_getChars_ba4f3_68 (fun G61 H locs eG61 hP hD hS => ?_)
        replace hw := hw G61 eG61
        refine lv_goto (tgt := 22) hx hb dJ6_getChars_ba4f3_69 (by decide) ?_
        exact ih22 G61 z51 z58 v6  _ _ _ hw hP hD hS (lv_sub hl [1, 4, 0, 5] rfl)
  have B12 : ∀ (G : GS) (v0 : Int32) (v5 : Int32) (t0 : Int32) (H : Heap) (locs : List Loc) (ls : Array Slot), wbJ6_getChars_ba4f3_12 post a1 a2 o3 G v0 v5 t0 → va_P (xD X) vwCl (pool X G) H → va_D (xA X) (pool X G) → va_S (xA X) s.heap H locs → lv_has ls 7 [(0, .int v0), (2, .ref o3), (5, .int v5)] → W p l e (rmL 1 0 0) s m [.int a1, .int a2, .ref o3].toArray below meth c H locs 0 0 (MQ below (Qi X post) [.int a1, .int a2, .ref o3].toArray s 0 0 (xA X)) (F0 m 12 ls [.int t0]) := by
    intro G v0 v5 t0  H locs ls hw hP hD hS hl
    unfold wbJ6_getChars_ba4f3_12 at hw
    refine lv_istore (lv' := [(6, .int t0), (0, .int v0), (2, .ref o3), (5, .int v5)]) hx hb dJ6_getChars_ba4f3_12 hl (by decide) rfl (fun ls hl => ?_)
    refine lv_iload hx hb dJ6_getChars_ba4f3_14 (lv_at hl 0 rfl) ?_
    refine lv_if_ne (tgt := 22) hx hb dJ6_getChars_ba4f3_16 (by decide) (fun c63 => ?_) (fun c63 => ?_)
    · replace hw := ite_f hw c63
      obtain ⟨nn, hw⟩ := hw
      exact L22 nn G v0 v5 t0  _ _ _ hw hP hD hS (lv_sub hl [1, 2, 3, 0] rfl)
    · replace hw := ite_t hw c63
      refine lv_iload_n hx hb dJ6_getChars_ba4f3_19 rfl (lv_at hl 1 rfl) ?_
      refine lv_ineg hx hb dJ6_getChars_ba4f3_20 ?_
      refine lv_istore_n (lv' := [(0, .int (-v0)), (6, .int t0), (2, .ref o3), (5, .int v5)]) hx hb dJ6_getChars_ba4f3_21 rfl hl (by decide) rfl (fun ls hl => ?_)
      obtain ⟨nn, hw⟩ := hw
      exact L22 nn G (-v0) v5 t0  _ _ _ hw hP hD hS (lv_sub hl [0, 2, 3, 1] rfl)
  unfold wpJ6_getChars_ba4f3 at hw
  refine lv_iload_n hx hb dJ6_getChars_ba4f3_0 rfl (lv_at hl 1 rfl) ?_
  refine lv_istore (lv' := [(5, .int a2), (0, .int a1), (1, .int a2), (2, .ref o3)]) hx hb dJ6_getChars_ba4f3_1 hl (by decide) rfl (fun ls hl => ?_)
  refine lv_iload_n hx hb dJ6_getChars_ba4f3_3 rfl (lv_at hl 1 rfl) ?_
  refine lv_if_ge (tgt := 11) hx hb dJ6_getChars_ba4f3_4 (by decide) (fun c1 => ?_) (fun c1 => ?_)
  · replace hw := ite_t hw c1
    refine lv_iconst (v := 0) hx hb dJ6_getChars_ba4f3_11 (by decide) ?_
    exact B12 G a1 a2 0  _ _ _ hw hP hD hS (lv_sub hl [1, 3, 0] rfl)
  · replace hw := ite_f hw c1
    refine lv_iconst (v := 1) hx hb dJ6_getChars_ba4f3_7 (by decide) ?_
    refine lv_goto (tgt := 12) hx hb dJ6_getChars_ba4f3_8 (by decide) ?_
    exact B12 G a1 a2 1  _ _ _ hw hP hD hS (lv_sub hl [1, 3, 0] rfl)
