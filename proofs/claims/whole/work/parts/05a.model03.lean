def wpX9_setStickiness (post : Int32 → GS → Prop) (a1 : Int32) (a2 : Int32) (G : GS) : Prop :=
  ∀ G1 : GS, G1 = gI G 189 0 0 →
  wpX9_notStick (fun (r3 : Int32) (G2 : GS) =>
  if r3 = 0 then
    wpX9_remembers (fun (G5 : GS) =>
      wpX9_sticks (fun (r7 : Int32) (G6 : GS) =>
        post r7 G6) a1 a2 G5)  G2
  else
    wpX9_fails (fun (r9 : Int32) (G8 : GS) =>
      post r9 G8) r3 G2) a1 a2 G1
set_option maxHeartbeats 4000000 in
set_option maxRecDepth 100000 in
theorem okX9_setStickiness (X : Cx) (l : Launch) (hfl : l.stackTraces = false) {post : Int32 → GS → Prop} {a1 : Int32} {a2 : Int32} {G : GS}  (hw : wpX9_setStickiness post a1 a2 G) : CT X l yX9_setStickiness cX9_setStickiness 4 (some FieldType.int) 4 0 0 [.ref (xa X 189), .int a1, .int a2] G (Qi X post) := by
  refine mbegin (by decide) (Nat.le_of_ble_eq_true rfl) (fun p e s m below meth c hx hb hr hml hlk hown hE hz ls hl hP hD hS => ?_)
  have hl : lv_has ls 4 [(0, .ref (xa X 189)), (1, .int a1), (2, .int a2)] := hl
  have hown : s.vm.findClass "FlyTreasuryModel" = some m.cls := hown
  unfold wpX9_setStickiness at hw
  refine lv_aload_n hx hb dX9_setStickiness_0 rfl (lv_at hl 0 rfl) ?_
  refine lv_iconst (v := 0) hx hb dX9_setStickiness_1 (by decide) ?_
  refine pf_X9_0 hx hb hE hP hD hS hown rfl (hE.w qw_1570 rfl _) dX9_setStickiness_2 (fun G1 H locs eG1 hP hD hS => ?_)
  replace hw := hw G1 eG1
  refine lv_aload_n hx hb dX9_setStickiness_5 rfl (lv_at hl 0 rfl) ?_
  refine lv_iload_n hx hb dX9_setStickiness_6 rfl (lv_at hl 1 rfl) ?_
  refine lv_iload_n hx hb dX9_setStickiness_7 rfl (lv_at hl 2 rfl) ?_
  refine call_i (run_V (cc := cX9_setStickiness) (As := [.int a1, .int a2]) (rest := []) hx hb hml hown hE hz (okX9_notStick X l hfl  hw) qw_1782 qw_1784 qw_47 qw_86 qw_1785 (myX9_notStick) ⟨Nat.le_of_ble_eq_true rfl, Nat.le_of_ble_eq_true rfl⟩ (rv_X9 hE hP rfl) hP hD hS rfl hl.1 rfl (Nat.le_of_ble_eq_true rfl) dX9_setStickiness_8 ⟨Nat.le_of_ble_eq_true rfl, Nat.le_of_ble_eq_true rfl⟩) hS (fun r3 G2 H locs hw hP hD hS => ?_)
  refine lv_istore_n (lv' := [(3, .int r3), (0, .ref (xa X 189)), (1, .int a1), (2, .int a2)]) hx hb dX9_setStickiness_11 rfl hl (by decide) rfl (fun ls hl => ?_)
  refine lv_iload_n hx hb dX9_setStickiness_12 rfl (lv_at hl 0 rfl) ?_
  refine lv_if_eq (tgt := 22) hx hb dX9_setStickiness_13 (by decide) (fun c4 => ?_) (fun c4 => ?_)
  · replace hw := ite_t hw c4
    refine lv_aload_n hx hb dX9_setStickiness_22 rfl (lv_at hl 1 rfl) ?_
    refine call_v (run_V (cc := cX9_setStickiness) (As := []) (rest := []) hx hb hml hown hE hz (okX9_remembers X l hfl  hw) qw_1640 qw_1642 qw_21 qw_86 qw_1643 (myX9_remembers) ⟨Nat.le_of_ble_eq_true rfl, Nat.le_of_ble_eq_true rfl⟩ (rv_X9 hE hP rfl) hP hD hS rfl hl.1 rfl (Nat.le_of_ble_eq_true rfl) dX9_setStickiness_23 ⟨Nat.le_of_ble_eq_true rfl, Nat.le_of_ble_eq_true rfl⟩) hS (fun G5 H locs hw hP hD hS => ?_)
    refine lv_aload_n hx hb dX9_setStickiness_26 rfl (lv_at hl 1 rfl) ?_
    refine lv_iload_n hx hb dX9_setStickiness_27 rfl (lv_at hl 2 rfl) ?_
    refine lv_iload_n hx hb dX9_setStickiness_28 rfl (lv_at hl 3 rfl) ?_
    refine call_i (run_V (cc := cX9_setStickiness) (As := [.int a1, .int a2]) (rest := []) hx hb hml hown hE hz (okX9_sticks X l hfl  hw) qw_1786 qw_1788 qw_48 qw_86 qw_1789 (myX9_sticks) ⟨Nat.le_of_ble_eq_true rfl, Nat.le_of_ble_eq_true rfl⟩ (rv_X9 hE hP rfl) hP hD hS rfl hl.1 rfl (Nat.le_of_ble_eq_true rfl) dX9_setStickiness_29 ⟨Nat.le_of_ble_eq_true rfl, Nat.le_of_ble_eq_true rfl⟩) hS (fun r7 G6 H locs hw hP hD hS => ?_)
    exact end_i hx hb hr hlk rfl hw hP hD hS dX9_setStickiness_32
  · replace hw := ite_f hw c4
    refine lv_aload_n hx hb dX9_setStickiness_16 rfl (lv_at hl 1 rfl) ?_
    refine lv_iload_n hx hb dX9_setStickiness_17 rfl (lv_at hl 0 rfl) ?_
    refine call_i (run_V (cc := cX9_setStickiness) (As := [.int r3]) (rest := []) hx hb hml hown hE hz (okX9_fails X l hfl  hw) qw_1636 qw_1638 qw_20 qw_86 qw_1639 (myX9_fails) ⟨Nat.le_of_ble_eq_true rfl, Nat.le_of_ble_eq_true rfl⟩ (rv_X9 hE hP rfl) hP hD hS rfl hl.1 rfl (Nat.le_of_ble_eq_true rfl) dX9_setStickiness_18 ⟨Nat.le_of_ble_eq_true rfl, Nat.le_of_ble_eq_true rfl⟩) hS (fun r9 G8 H locs hw hP hD hS => ?_)
    exact end_i hx hb hr hlk rfl hw hP hD hS dX9_setStickiness_21
def wbX9_passesOne_43 (post : Int32 → GS → Prop) (K14 : GS → Int32 → Int32 → Prop) (G : GS) (v1 : Int32) (v2 : Int32) : Prop :=
  wpX9_of (fun (r13 : Int32) (G12 : GS) =>
  if r13 ≤ 0 then
    ∀ z15 : Int32, z15 = v2 + 1 →
      K14 G12 v1 z15
  else
    wpX9_adds (fun (G16 : GS) =>
      ∀ z17 : Int32, z17 = v2 + 1 →
        K14 G16 v1 z17) v2 7 (-1) G12) v2 7 G
def wlX9_passesOne_14 (post : Int32 → GS → Prop) : Nat → GS → Int32 → Int32 → Prop
  | 0, _, _, _ => False
  | n + 1, G, v1, v2 =>
    vp_in 0 (ln 190) ∧
  if (G.1 190 (0 : Int32).toNatClampNeg) ≤ v2 then
  vp_in 13 (ln 190) ∧
    vp_in 13 (ln 190) ∧ ∀ G8 : GS, G8 = gI G 190 ((13 : Int32).toNatClampNeg) ((G.1 190 (13 : Int32).toNatClampNeg) + v1) →
    post v1 G8
else
  wpX9_of (fun (r10 : Int32) (G9 : GS) =>
    if r10 ≤ 0 then
      wbX9_passesOne_43 post (fun (G : GS) (v1 : Int32) (v2 : Int32) => wlX9_passesOne_14 post n G v1 v2) G9 v1 v2
    else
      wpX9_adds (fun (G24 : GS) =>
        ∀ z25 : Int32, z25 = v1 + 1 →
          wbX9_passesOne_43 post (fun (G : GS) (v1 : Int32) (v2 : Int32) => wlX9_passesOne_14 post n G v1 v2) G24 z25 v2) v2 4 (-1) G9) v2 4 G
def wpX9_passesOne (post : Int32 → GS → Prop) (G : GS) : Prop :=
  vp_in 1 (ln 190) ∧
  vp_in 1 (ln 190) ∧ ∀ G3 : GS, G3 = gI G 190 ((1 : Int32).toNatClampNeg) ((G.1 190 (1 : Int32).toNatClampNeg) + 1) →
  ∃ nn, wlX9_passesOne_14 post nn G3 0 0
set_option maxHeartbeats 4000000 in
set_option maxRecDepth 100000 in
theorem okX9_passesOne (X : Cx) (l : Launch) (hfl : l.stackTraces = false) {post : Int32 → GS → Prop}  {G : GS}  (hw : wpX9_passesOne post G) : CT X l yX9_passesOne cX9_passesOne 3 (some FieldType.int) 2 0 0 [.ref (xa X 189)] G (Qi X post) := by
  refine mbegin (by decide) (Nat.le_of_ble_eq_true rfl) (fun p e s m below meth c hx hb hr hml hlk hown hE hz ls hl hP hD hS => ?_)
  have hl : lv_has ls 3 [(0, .ref (xa X 189))] := hl
  have hown : s.vm.findClass "FlyTreasuryModel" = some m.cls := hown
  have L14 : ∀ (n14 : Nat) (G : GS) (v1 : Int32) (v2 : Int32) (H : Heap) (locs : List Loc) (ls : Array Slot), wlX9_passesOne_14 post n14 G v1 v2 → va_P (xD X) vwCl (pool X G) H → va_D (xA X) (pool X G) → va_S (xA X) s.heap H locs → lv_has ls 3 [(0, .ref (xa X 189)), (1, .int v1), (2, .int v2)] → W p l e (rmL 2 0 0) s m [.ref (xa X 189)].toArray below meth c H locs 0 0 (MQ below (Qi X post) [.ref (xa X 189)].toArray s 0 0 (xA X)) (F0 m 14 ls []) := by
    intro n14
    induction n14 with
    | zero => intro G v1 v2  H locs ls hw; exact hw.elim
    | succ n14 ih14 =>
      have B43 : ∀ (G : GS) (v1 : Int32) (v2 : Int32) (H : Heap) (locs : List Loc) (ls : Array Slot), wbX9_passesOne_43 post (fun (G : GS) (v1 : Int32) (v2 : Int32) => wlX9_passesOne_14 post n14 G v1 v2) G v1 v2 → va_P (xD X) vwCl (pool X G) H → va_D (xA X) (pool X G) → va_S (xA X) s.heap H locs → lv_has ls 3 [(0, .ref (xa X 189)), (1, .int v1), (2, .int v2)] → W p l e (rmL 2 0 0) s m [.ref (xa X 189)].toArray below meth c H locs 0 0 (MQ below (Qi X post) [.ref (xa X 189)].toArray s 0 0 (xA X)) (F0 m 43 ls []) := by
        intro G v1 v2  H locs ls hw hP hD hS hl
        unfold wbX9_passesOne_43 at hw
        refine lv_aload_n hx hb dX9_passesOne_43 rfl (lv_at hl 0 rfl) ?_
        refine lv_iload_n hx hb dX9_passesOne_44 rfl (lv_at hl 2 rfl) ?_
        refine lv_bipush (v := 7) hx hb dX9_passesOne_45 (by decide) ?_
        refine call_i (run_V (cc := cX9_passesOne) (As := [.int v2, .int 7]) (rest := []) hx hb hml hown hE hz (okX9_of X l hfl  hw) qw_1675 qw_1677 qw_28 qw_86 qw_1678 (myX9_of) ⟨Nat.le_of_ble_eq_true rfl, Nat.le_of_ble_eq_true rfl⟩ (rv_X9 hE hP rfl) hP hD hS rfl hl.1 rfl (Nat.le_of_ble_eq_true rfl) dX9_passesOne_47 ⟨Nat.le_of_ble_eq_true rfl, Nat.le_of_ble_eq_true rfl⟩) hS (fun r19 G18 H locs hw hP hD hS => ?_)
        refine lv_if_le (tgt := 61) hx hb dX9_passesOne_50 (by decide) (fun c20 => ?_) (fun c20 => ?_)
        · replace hw := ite_t hw c20
          obtain ⟨z21, ez21⟩ : ∃ y : Int32, y = v2 + 1 := ⟨_, rfl⟩
          replace hw := hw z21 ez21
          refine lv_iinc (v := z21) (lv' := [(2, .int z21), (0, .ref (xa X 189)), (1, .int v1)]) hx hb dX9_passesOne_61 hl (k := 2) rfl (by rw [ez21]; rfl) (by decide) rfl (fun ls hl => ?_)
          refine lv_goto (tgt := 14) hx hb dX9_passesOne_64 (by decide) ?_
          exact ih14 G18 v1 z21  _ _ _ hw hP hD hS (lv_sub hl [1, 2, 0] rfl)
        · replace hw := ite_f hw c20
          refine lv_aload_n hx hb dX9_passesOne_53 rfl (lv_at hl 0 rfl) ?_
          refine lv_iload_n hx hb dX9_passesOne_54 rfl (lv_at hl 2 rfl) ?_
          refine lv_bipush (v := 7) hx hb dX9_passesOne_55 (by decide) ?_
          refine lv_iconst (v := -1) hx hb dX9_passesOne_57 (by decide) ?_
          refine call_v (run_V (cc := cX9_passesOne) (As := [.int v2, .int 7, .int (-1)]) (rest := []) hx hb hml hown hE hz (okX9_adds X l hfl  hw) qw_1683 qw_1685 qw_30 qw_86 qw_1686 (myX9_adds) ⟨Nat.le_of_ble_eq_true rfl, Nat.le_of_ble_eq_true rfl⟩ (rv_X9 hE hP rfl) hP hD hS rfl hl.1 rfl (Nat.le_of_ble_eq_true rfl) dX9_passesOne_58 ⟨Nat.le_of_ble_eq_true rfl, Nat.le_of_ble_eq_true rfl⟩) hS (fun G22 H locs hw hP hD hS => ?_)
          obtain ⟨z23, ez23⟩ : ∃ y : Int32, y = v2 + 1 := ⟨_, rfl⟩
          replace hw := hw z23 ez23
          refine lv_iinc (v := z23) (lv' := [(2, .int z23), (0, .ref (xa X 189)), (1, .int v1)]) hx hb dX9_passesOne_61 hl (k := 2) rfl (by rw [ez23]; rfl) (by decide) rfl (fun ls hl => ?_)
          refine lv_goto (tgt := 14) hx hb dX9_passesOne_64 (by decide) ?_
          exact ih14 G22 v1 z23  _ _ _ hw hP hD hS (lv_sub hl [1, 2, 0] rfl)
      intro G v1 v2  H locs ls hw hP hD hS hl
      rw [wlX9_passesOne_14] at hw
      refine lv_iload_n hx hb dX9_passesOne_14 rfl (lv_at hl 2 rfl) ?_
      refine lv_aload_n hx hb dX9_passesOne_15 rfl (lv_at hl 0 rfl) ?_
      refine gf_X9_1 hx hb hE hP hown rfl (hE.w qw_1571 rfl _) dX9_passesOne_16 ?_
      refine lv_iconst (v := 0) hx hb dX9_passesOne_19 (by decide) ?_
      obtain ⟨y26, hw⟩ := hw
      refine ald_2 hx hb hE hP rfl y26 dX9_passesOne_20 ?_
      refine lv_icmp_ge (tgt := 67) hx hb dX9_passesOne_21 (by decide) (fun c27 => ?_) (fun c27 => ?_)
      · replace hw := ite_t hw c27
        refine lv_aload_n hx hb dX9_passesOne_67 rfl (lv_at hl 0 rfl) ?_
        refine gf_X9_1 hx hb hE hP hown rfl (hE.w qw_1571 rfl _) dX9_passesOne_68 ?_
        refine lv_bipush (v := 13) hx hb dX9_passesOne_71 (by decide) ?_
        refine lv_dup2_11 hx hb dX9_passesOne_73 rfl rfl ?_
        obtain ⟨y28, hw⟩ := hw
        refine ald_2 hx hb hE hP rfl y28 dX9_passesOne_74 ?_
        refine lv_iload_n hx hb dX9_passesOne_75 rfl (lv_at hl 1 rfl) ?_
        refine lv_iadd hx hb dX9_passesOne_76 ?_
        obtain ⟨y29, hw⟩ := hw
        refine ast_2 hx hb hE hP hD hS rfl y29 dX9_passesOne_77 (fun G30 H locs eG30 hP hD hS => ?_)
        replace hw := hw G30 eG30
        refine lv_iload_n hx hb dX9_passesOne_78 rfl (lv_at hl 1 rfl) ?_
        exact end_i hx hb hr hlk rfl hw hP hD hS dX9_passesOne_79
      · replace hw := ite_f hw c27
        refine lv_aload_n hx hb dX9_passesOne_24 rfl (lv_at hl 0 rfl) ?_
        refine lv_iload_n hx hb dX9_passesOne_25 rfl (lv_at hl 2 rfl) ?_
        refine lv_iconst (v := 4) hx hb dX9_passesOne_26 (by decide) ?_
        refine call_i (run_V (cc := cX9_passesOne) (As := [.int v2, .int 4]) (rest := []) hx hb hml hown hE hz (okX9_of X l hfl  hw) qw_1675 qw_1677 qw_28 qw_86 qw_1678 (myX9_of) ⟨Nat.le_of_ble_eq_true rfl, Nat.le_of_ble_eq_true rfl⟩ (rv_X9 hE hP rfl) hP hD hS rfl hl.1 rfl (Nat.le_of_ble_eq_true rfl) dX9_passesOne_27 ⟨Nat.le_of_ble_eq_true rfl, Nat.le_of_ble_eq_true rfl⟩) hS (fun r32 G31 H locs hw hP hD hS => ?_)
        refine lv_if_le (tgt := 43) hx hb dX9_passesOne_30 (by decide) (fun c33 => ?_) (fun c33 => ?_)
        · replace hw := ite_t hw c33
          exact B43 G31 v1 v2  _ _ _ hw hP hD hS (lv_sub hl [0, 1, 2] rfl)
        · replace hw := ite_f hw c33
          refine lv_aload_n hx hb dX9_passesOne_33 rfl (lv_at hl 0 rfl) ?_
          refine lv_iload_n hx hb dX9_passesOne_34 rfl (lv_at hl 2 rfl) ?_
          refine lv_iconst (v := 4) hx hb dX9_passesOne_35 (by decide) ?_
          refine lv_iconst (v := -1) hx hb dX9_passesOne_36 (by decide) ?_
          refine call_v (run_V (cc := cX9_passesOne) (As := [.int v2, .int 4, .int (-1)]) (rest := []) hx hb hml hown hE hz (okX9_adds X l hfl  hw) qw_1683 qw_1685 qw_30 qw_86 qw_1686 (myX9_adds) ⟨Nat.le_of_ble_eq_true rfl, Nat.le_of_ble_eq_true rfl⟩ (rv_X9 hE hP rfl) hP hD hS rfl hl.1 rfl (Nat.le_of_ble_eq_true rfl) dX9_passesOne_37 ⟨Nat.le_of_ble_eq_true rfl, Nat.le_of_ble_eq_true rfl⟩) hS (fun G34 H locs hw hP hD hS => ?_)
          obtain ⟨z35, ez35⟩ : ∃ y : Int32, y = v1 + 1 := ⟨_, rfl⟩
          replace hw := hw z35 ez35
          refine lv_iinc (v := z35) (lv' := [(1, .int z35), (0, .ref (xa X 189)), (2, .int v2)]) hx hb dX9_passesOne_40 hl (k := 1) rfl (by rw [ez35]; rfl) (by decide) rfl (fun ls hl => ?_)
          exact B43 G34 z35 v2  _ _ _ hw hP hD hS (lv_sub hl [1, 0, 2] rfl)
  unfold wpX9_passesOne at hw
  refine lv_iconst (v := 0) hx hb dX9_passesOne_0 (by decide) ?_
  refine lv_istore_n (lv' := [(1, .int 0), (0, .ref (xa X 189))]) hx hb dX9_passesOne_1 rfl hl (by decide) rfl (fun ls hl => ?_)
  refine lv_aload_n hx hb dX9_passesOne_2 rfl (lv_at hl 1 rfl) ?_
  refine gf_X9_1 hx hb hE hP hown rfl (hE.w qw_1571 rfl _) dX9_passesOne_3 ?_
  refine lv_iconst (v := 1) hx hb dX9_passesOne_6 (by decide) ?_
  refine lv_dup2_11 hx hb dX9_passesOne_7 rfl rfl ?_
  obtain ⟨y1, hw⟩ := hw
  refine ald_2 hx hb hE hP rfl y1 dX9_passesOne_8 ?_
  refine lv_iconst (v := 1) hx hb dX9_passesOne_9 (by decide) ?_
  refine lv_iadd hx hb dX9_passesOne_10 ?_
  obtain ⟨y2, hw⟩ := hw
  refine ast_2 hx hb hE hP hD hS rfl y2 dX9_passesOne_11 (fun G3 H locs eG3 hP hD hS => ?_)
  replace hw := hw G3 eG3
  refine lv_iconst (v := 0) hx hb dX9_passesOne_12 (by decide) ?_
  refine lv_istore_n (lv' := [(2, .int 0), (1, .int 0), (0, .ref (xa X 189))]) hx hb dX9_passesOne_13 rfl hl (by decide) rfl (fun ls hl => ?_)
  obtain ⟨nn, hw⟩ := hw
  exact L14 nn G3 0 0  _ _ _ hw hP hD hS (lv_sub hl [2, 1, 0] rfl)
def wlX9_passes_4 (post : Int32 → GS → Prop) (a1 : Int32) : Nat → GS → Int32 → Int32 → Prop
  | 0, _, _, _ => False
  | n + 1, G, v2, v3 =>
    if a1 ≤ v3 then
  post v2 G
else
  wpX9_passesOne (fun (r3 : Int32) (G2 : GS) =>
    ∀ z4 : Int32, z4 = (v2 + r3) →
      ∀ z5 : Int32, z5 = v3 + 1 →
      wlX9_passes_4 post a1 n G2 z4 z5)  G
def wpX9_passes (post : Int32 → GS → Prop) (a1 : Int32) (G : GS) : Prop :=
  ∃ nn, wlX9_passes_4 post a1 nn G 0 0
set_option maxHeartbeats 4000000 in
set_option maxRecDepth 100000 in
theorem okX9_passes (X : Cx) (l : Launch) (hfl : l.stackTraces = false) {post : Int32 → GS → Prop} {a1 : Int32} {G : GS}  (hw : wpX9_passes post a1 G) : CT X l yX9_passes cX9_passes 4 (some FieldType.int) 3 0 0 [.ref (xa X 189), .int a1] G (Qi X post) := by
  refine mbegin (by decide) (Nat.le_of_ble_eq_true rfl) (fun p e s m below meth c hx hb hr hml hlk hown hE hz ls hl hP hD hS => ?_)
  have hl : lv_has ls 4 [(0, .ref (xa X 189)), (1, .int a1)] := hl
  have hown : s.vm.findClass "FlyTreasuryModel" = some m.cls := hown
  have L4 : ∀ (n4 : Nat) (G : GS) (v2 : Int32) (v3 : Int32) (H : Heap) (locs : List Loc) (ls : Array Slot), wlX9_passes_4 post a1 n4 G v2 v3 → va_P (xD X) vwCl (pool X G) H → va_D (xA X) (pool X G) → va_S (xA X) s.heap H locs → lv_has ls 4 [(0, .ref (xa X 189)), (1, .int a1), (2, .int v2), (3, .int v3)] → W p l e (rmL 3 0 0) s m [.ref (xa X 189), .int a1].toArray below meth c H locs 0 0 (MQ below (Qi X post) [.ref (xa X 189), .int a1].toArray s 0 0 (xA X)) (F0 m 4 ls []) := by
    intro n4
    induction n4 with
    | zero => intro G v2 v3  H locs ls hw; exact hw.elim
    | succ n4 ih4 =>
      intro G v2 v3  H locs ls hw hP hD hS hl
      rw [wlX9_passes_4] at hw
      refine lv_iload_n hx hb dX9_passes_4 rfl (lv_at hl 3 rfl) ?_
      refine lv_iload_n hx hb dX9_passes_5 rfl (lv_at hl 1 rfl) ?_
      refine lv_icmp_ge (tgt := 22) hx hb dX9_passes_6 (by decide) (fun c6 => ?_) (fun c6 => ?_)
      · replace hw := ite_t hw c6
        refine lv_iload_n hx hb dX9_passes_22 rfl (lv_at hl 2 rfl) ?_
        exact end_i hx hb hr hlk rfl hw hP hD hS dX9_passes_23
      · replace hw := ite_f hw c6
        refine lv_iload_n hx hb dX9_passes_9 rfl (lv_at hl 2 rfl) ?_
        refine lv_aload_n hx hb dX9_passes_10 rfl (lv_at hl 0 rfl) ?_
        refine call_i (run_V (cc := cX9_passes) (As := []) (rest := [.int v2]) hx hb hml hown hE hz (okX9_passesOne X l hfl  hw) qw_1801 qw_1803 qw_50 qw_86 qw_1804 (myX9_passesOne) ⟨Nat.le_of_ble_eq_true rfl, Nat.le_of_ble_eq_true rfl⟩ (rv_X9 hE hP rfl) hP hD hS rfl hl.1 rfl (Nat.le_of_ble_eq_true rfl) dX9_passes_11 ⟨Nat.le_of_ble_eq_true rfl, Nat.le_of_ble_eq_true rfl⟩) hS (fun r8 G7 H locs hw hP hD hS => ?_)
        refine lv_iadd hx hb dX9_passes_14 ?_
        refine lv_topi (fun z9 ez9 => ?_)
        replace hw := hw z9 ez9
        refine lv_istore_n (lv' := [(2, .int z9), (0, .ref (xa X 189)), (1, .int a1), (3, .int v3)]) hx hb dX9_passes_15 rfl hl (by decide) rfl (fun ls hl => ?_)
        obtain ⟨z10, ez10⟩ : ∃ y : Int32, y = v3 + 1 := ⟨_, rfl⟩
        replace hw := hw z10 ez10
        refine lv_iinc (v := z10) (lv' := [(3, .int z10), (2, .int z9), (0, .ref (xa X 189)), (1, .int a1)]) hx hb dX9_passes_16 hl (k := 3) rfl (by rw [ez10]; rfl) (by decide) rfl (fun ls hl => ?_)
        refine lv_goto (tgt := 4) hx hb dX9_passes_19 (by decide) ?_
        exact ih4 G7 z9 z10  _ _ _ hw hP hD hS (lv_sub hl [2, 3, 1, 0] rfl)
  unfold wpX9_passes at hw
  refine lv_iconst (v := 0) hx hb dX9_passes_0 (by decide) ?_
  refine lv_istore_n (lv' := [(2, .int 0), (0, .ref (xa X 189)), (1, .int a1)]) hx hb dX9_passes_1 rfl hl (by decide) rfl (fun ls hl => ?_)
  refine lv_iconst (v := 0) hx hb dX9_passes_2 (by decide) ?_
  refine lv_istore_n (lv' := [(3, .int 0), (2, .int 0), (0, .ref (xa X 189)), (1, .int a1)]) hx hb dX9_passes_3 rfl hl (by decide) rfl (fun ls hl => ?_)
  obtain ⟨nn, hw⟩ := hw
  exact L4 nn G 0 0  _ _ _ hw hP hD hS (lv_sub hl [2, 3, 1, 0] rfl)
def wpX9_notDays (post : Int32 → GS → Prop) (a1 : Int32) (G : GS) : Prop :=
  wpX9_isBetween (fun (r2 : Int32) (G1 : GS) =>
  if r2 = 0 then
    post 1 G1
  else
    post 0 G1) a1 1 30 G
set_option maxHeartbeats 4000000 in
set_option maxRecDepth 100000 in
theorem okX9_notDays (X : Cx) (l : Launch) (hfl : l.stackTraces = false) {post : Int32 → GS → Prop} {a1 : Int32} {G : GS}  (hw : wpX9_notDays post a1 G) : CT X l yX9_notDays cX9_notDays 1 (some FieldType.int) 2 0 0 [.int a1] G (Qi X post) := by
  refine mbegin (by decide) (Nat.le_of_ble_eq_true rfl) (fun p e s m below meth c hx hb hr hml hlk hown hE hz ls hl hP hD hS => ?_)
  have hl : lv_has ls 1 [(0, .int a1)] := hl
  have hown : s.vm.findClass "FlyTreasuryModel" = some m.cls := hown
  unfold wpX9_notDays at hw
  refine lv_iload_n hx hb dX9_notDays_0 rfl (lv_at hl 0 rfl) ?_
  refine lv_iconst (v := 1) hx hb dX9_notDays_1 (by decide) ?_
  refine lv_bipush (v := 30) hx hb dX9_notDays_2 (by decide) ?_
  refine call_i (run_S (cc := cX9_notDays) (As := [.int a1, .int 1, .int 30]) (rest := []) hx hb hml hown hE hz (okX9_isBetween X l hfl  hw) qw_1633 qw_1634 qw_86 qw_1635 (myX9_isBetween).2 ⟨Nat.le_of_ble_eq_true rfl, Nat.le_of_ble_eq_true rfl⟩ hP hD hS rfl hl.1 rfl (Nat.le_of_ble_eq_true rfl) dX9_notDays_4 ⟨Nat.le_of_ble_eq_true rfl, Nat.le_of_ble_eq_true rfl⟩) hS (fun r2 G1 H locs hw hP hD hS => ?_)
  refine lv_if_eq (tgt := 14) hx hb dX9_notDays_7 (by decide) (fun c3 => ?_) (fun c3 => ?_)
  · replace hw := ite_t hw c3
    refine lv_iconst (v := 1) hx hb dX9_notDays_14 (by decide) ?_
    exact end_i hx hb hr hlk rfl hw hP hD hS dX9_notDays_15
  · replace hw := ite_f hw c3
    refine lv_iconst (v := 0) hx hb dX9_notDays_10 (by decide) ?_
    refine lv_goto (tgt := 15) hx hb dX9_notDays_11 (by decide) ?_
    exact end_i hx hb hr hlk rfl hw hP hD hS dX9_notDays_15
def wpX9_passDays (post : Int32 → GS → Prop) (a1 : Int32) (G : GS) : Prop :=
  ∀ G1 : GS, G1 = gI G 189 0 0 →
  wpX9_notDays (fun (r3 : Int32) (G2 : GS) =>
  if r3 = 0 then
    wpX9_remembers (fun (G5 : GS) =>
      wpX9_passes (fun (r7 : Int32) (G6 : GS) =>
        post r7 G6) a1 G5)  G2
  else
    wpX9_fails (fun (r9 : Int32) (G8 : GS) =>
      post r9 G8) 1 G2) a1 G1
set_option maxHeartbeats 4000000 in
set_option maxRecDepth 100000 in
theorem okX9_passDays (X : Cx) (l : Launch) (hfl : l.stackTraces = false) {post : Int32 → GS → Prop} {a1 : Int32} {G : GS}  (hw : wpX9_passDays post a1 G) : CT X l yX9_passDays cX9_passDays 2 (some FieldType.int) 4 0 0 [.ref (xa X 189), .int a1] G (Qi X post) := by
  refine mbegin (by decide) (Nat.le_of_ble_eq_true rfl) (fun p e s m below meth c hx hb hr hml hlk hown hE hz ls hl hP hD hS => ?_)
  have hl : lv_has ls 2 [(0, .ref (xa X 189)), (1, .int a1)] := hl
  have hown : s.vm.findClass "FlyTreasuryModel" = some m.cls := hown
  unfold wpX9_passDays at hw
  refine lv_aload_n hx hb dX9_passDays_0 rfl (lv_at hl 0 rfl) ?_
  refine lv_iconst (v := 0) hx hb dX9_passDays_1 (by decide) ?_
  refine pf_X9_0 hx hb hE hP hD hS hown rfl (hE.w qw_1570 rfl _) dX9_passDays_2 (fun G1 H locs eG1 hP hD hS => ?_)
  replace hw := hw G1 eG1
  refine lv_iload_n hx hb dX9_passDays_5 rfl (lv_at hl 1 rfl) ?_
  refine call_i (run_S (cc := cX9_passDays) (As := [.int a1]) (rest := []) hx hb hml hown hE hz (okX9_notDays X l hfl  hw) qw_1794 qw_1795 qw_86 qw_1796 (myX9_notDays).2 ⟨Nat.le_of_ble_eq_true rfl, Nat.le_of_ble_eq_true rfl⟩ hP hD hS rfl hl.1 rfl (Nat.le_of_ble_eq_true rfl) dX9_passDays_6 ⟨Nat.le_of_ble_eq_true rfl, Nat.le_of_ble_eq_true rfl⟩) hS (fun r3 G2 H locs hw hP hD hS => ?_)
  refine lv_if_eq (tgt := 18) hx hb dX9_passDays_9 (by decide) (fun c4 => ?_) (fun c4 => ?_)
  · replace hw := ite_t hw c4
    refine lv_aload_n hx hb dX9_passDays_18 rfl (lv_at hl 0 rfl) ?_
    refine call_v (run_V (cc := cX9_passDays) (As := []) (rest := []) hx hb hml hown hE hz (okX9_remembers X l hfl  hw) qw_1640 qw_1642 qw_21 qw_86 qw_1643 (myX9_remembers) ⟨Nat.le_of_ble_eq_true rfl, Nat.le_of_ble_eq_true rfl⟩ (rv_X9 hE hP rfl) hP hD hS rfl hl.1 rfl (Nat.le_of_ble_eq_true rfl) dX9_passDays_19 ⟨Nat.le_of_ble_eq_true rfl, Nat.le_of_ble_eq_true rfl⟩) hS (fun G5 H locs hw hP hD hS => ?_)
    refine lv_aload_n hx hb dX9_passDays_22 rfl (lv_at hl 0 rfl) ?_
    refine lv_iload_n hx hb dX9_passDays_23 rfl (lv_at hl 1 rfl) ?_
    refine call_i (run_V (cc := cX9_passDays) (As := [.int a1]) (rest := []) hx hb hml hown hE hz (okX9_passes X l hfl  hw) qw_1797 qw_1799 qw_49 qw_86 qw_1800 (myX9_passes) ⟨Nat.le_of_ble_eq_true rfl, Nat.le_of_ble_eq_true rfl⟩ (rv_X9 hE hP rfl) hP hD hS rfl hl.1 rfl (Nat.le_of_ble_eq_true rfl) dX9_passDays_24 ⟨Nat.le_of_ble_eq_true rfl, Nat.le_of_ble_eq_true rfl⟩) hS (fun r7 G6 H locs hw hP hD hS => ?_)
    exact end_i hx hb hr hlk rfl hw hP hD hS dX9_passDays_27
  · replace hw := ite_f hw c4
    refine lv_aload_n hx hb dX9_passDays_12 rfl (lv_at hl 0 rfl) ?_
    refine lv_iconst (v := 1) hx hb dX9_passDays_13 (by decide) ?_
    refine call_i (run_V (cc := cX9_passDays) (As := [.int 1]) (rest := []) hx hb hml hown hE hz (okX9_fails X l hfl  hw) qw_1636 qw_1638 qw_20 qw_86 qw_1639 (myX9_fails) ⟨Nat.le_of_ble_eq_true rfl, Nat.le_of_ble_eq_true rfl⟩ (rv_X9 hE hP rfl) hP hD hS rfl hl.1 rfl (Nat.le_of_ble_eq_true rfl) dX9_passDays_14 ⟨Nat.le_of_ble_eq_true rfl, Nat.le_of_ble_eq_true rfl⟩) hS (fun r9 G8 H locs hw hP hD hS => ?_)
    exact end_i hx hb hr hlk rfl hw hP hD hS dX9_passDays_17
def wpX9_asks (post : Int32 → GS → Prop) (a1 : Int32) (G : GS) : Prop :=
  ∀ G1 : GS, G1 = gI G 189 0 0 →
  vp_in a1 (ln 190) ∧
  post (G1.1 190 a1.toNatClampNeg) G1
set_option maxHeartbeats 4000000 in
set_option maxRecDepth 100000 in
theorem okX9_asks (X : Cx) (l : Launch) (hfl : l.stackTraces = false) {post : Int32 → GS → Prop} {a1 : Int32} {G : GS}  (hw : wpX9_asks post a1 G) : CT X l yX9_asks cX9_asks 2 (some FieldType.int) 1 0 0 [.ref (xa X 189), .int a1] G (Qi X post) := by
  refine mbegin (by decide) (Nat.le_of_ble_eq_true rfl) (fun p e s m below meth c hx hb hr hml hlk hown hE hz ls hl hP hD hS => ?_)
  have hl : lv_has ls 2 [(0, .ref (xa X 189)), (1, .int a1)] := hl
  have hown : s.vm.findClass "FlyTreasuryModel" = some m.cls := hown
  unfold wpX9_asks at hw
  refine lv_aload_n hx hb dX9_asks_0 rfl (lv_at hl 0 rfl) ?_
  refine lv_iconst (v := 0) hx hb dX9_asks_1 (by decide) ?_
  refine pf_X9_0 hx hb hE hP hD hS hown rfl (hE.w qw_1570 rfl _) dX9_asks_2 (fun G1 H locs eG1 hP hD hS => ?_)
  replace hw := hw G1 eG1
  refine lv_aload_n hx hb dX9_asks_5 rfl (lv_at hl 0 rfl) ?_
  refine gf_X9_1 hx hb hE hP hown rfl (hE.w qw_1571 rfl _) dX9_asks_6 ?_
  refine lv_iload_n hx hb dX9_asks_9 rfl (lv_at hl 1 rfl) ?_
  obtain ⟨y2, hw⟩ := hw
  refine ald_2 hx hb hE hP rfl y2 dX9_asks_10 ?_
  exact end_i hx hb hr hlk rfl hw hP hD hS dX9_asks_11
def wpX9_vaultCount (post : Int32 → GS → Prop) (G : GS) : Prop :=
  wpX9_asks (fun (r2 : Int32) (G1 : GS) =>
  post r2 G1) 0 G
set_option maxHeartbeats 4000000 in
set_option maxRecDepth 100000 in
theorem okX9_vaultCount (X : Cx) (l : Launch) (hfl : l.stackTraces = false) {post : Int32 → GS → Prop}  {G : GS}  (hw : wpX9_vaultCount post G) : CT X l yX9_vaultCount cX9_vaultCount 1 (some FieldType.int) 2 0 0 [.ref (xa X 189)] G (Qi X post) := by
  refine mbegin (by decide) (Nat.le_of_ble_eq_true rfl) (fun p e s m below meth c hx hb hr hml hlk hown hE hz ls hl hP hD hS => ?_)
  have hl : lv_has ls 1 [(0, .ref (xa X 189))] := hl
  have hown : s.vm.findClass "FlyTreasuryModel" = some m.cls := hown
  unfold wpX9_vaultCount at hw
  refine lv_aload_n hx hb dX9_vaultCount_0 rfl (lv_at hl 0 rfl) ?_
  refine lv_iconst (v := 0) hx hb dX9_vaultCount_1 (by decide) ?_
  refine call_i (run_V (cc := cX9_vaultCount) (As := [.int 0]) (rest := []) hx hb hml hown hE hz (okX9_asks X l hfl  hw) qw_1809 qw_1811 qw_51 qw_86 qw_1812 (myX9_asks) ⟨Nat.le_of_ble_eq_true rfl, Nat.le_of_ble_eq_true rfl⟩ (rv_X9 hE hP rfl) hP hD hS rfl hl.1 rfl (Nat.le_of_ble_eq_true rfl) dX9_vaultCount_2 ⟨Nat.le_of_ble_eq_true rfl, Nat.le_of_ble_eq_true rfl⟩) hS (fun r2 G1 H locs hw hP hD hS => ?_)
  exact end_i hx hb hr hlk rfl hw hP hD hS dX9_vaultCount_5
def wpX9_flies (post : Int32 → GS → Prop) (a1 : Int32) (a2 : Int32) (G : GS) : Prop :=
  ∀ G1 : GS, G1 = gI G 189 0 0 →
  wpX9_isVault (fun (r3 : Int32) (G2 : GS) =>
  if r3 = 0 then
    wpX9_fails (fun (r15 : Int32) (G14 : GS) =>
      post r15 G14) 1 G2
  else
    wpX9_kindOf (fun (r6 : Int32) (G5 : GS) =>
      if 0 ≤ r6 then
        wpX9_kindOf (fun (r9 : Int32) (G8 : GS) =>
          wpX9_of (fun (r11 : Int32) (G10 : GS) =>
            post r11 G10) a1 r9 G8) a2 G5
      else
        wpX9_fails (fun (r13 : Int32) (G12 : GS) =>
          post r13 G12) 2 G5) a2 G2) a1 G1
set_option maxHeartbeats 4000000 in
set_option maxRecDepth 100000 in
theorem okX9_flies (X : Cx) (l : Launch) (hfl : l.stackTraces = false) {post : Int32 → GS → Prop} {a1 : Int32} {a2 : Int32} {G : GS}  (hw : wpX9_flies post a1 a2 G) : CT X l yX9_flies cX9_flies 3 (some FieldType.int) 3 0 0 [.ref (xa X 189), .int a1, .int a2] G (Qi X post) := by
  refine mbegin (by decide) (Nat.le_of_ble_eq_true rfl) (fun p e s m below meth c hx hb hr hml hlk hown hE hz ls hl hP hD hS => ?_)
  have hl : lv_has ls 3 [(0, .ref (xa X 189)), (1, .int a1), (2, .int a2)] := hl
  have hown : s.vm.findClass "FlyTreasuryModel" = some m.cls := hown
  unfold wpX9_flies at hw
  refine lv_aload_n hx hb dX9_flies_0 rfl (lv_at hl 0 rfl) ?_
  refine lv_iconst (v := 0) hx hb dX9_flies_1 (by decide) ?_
  refine pf_X9_0 hx hb hE hP hD hS hown rfl (hE.w qw_1570 rfl _) dX9_flies_2 (fun G1 H locs eG1 hP hD hS => ?_)
  replace hw := hw G1 eG1
  refine lv_aload_n hx hb dX9_flies_5 rfl (lv_at hl 0 rfl) ?_
  refine lv_iload_n hx hb dX9_flies_6 rfl (lv_at hl 1 rfl) ?_
  refine call_i (run_V (cc := cX9_flies) (As := [.int a1]) (rest := []) hx hb hml hown hE hz (okX9_isVault X l hfl  hw) qw_1668 qw_1670 qw_27 qw_86 qw_1671 (myX9_isVault) ⟨Nat.le_of_ble_eq_true rfl, Nat.le_of_ble_eq_true rfl⟩ (rv_X9 hE hP rfl) hP hD hS rfl hl.1 rfl (Nat.le_of_ble_eq_true rfl) dX9_flies_7 ⟨Nat.le_of_ble_eq_true rfl, Nat.le_of_ble_eq_true rfl⟩) hS (fun r3 G2 H locs hw hP hD hS => ?_)
  refine lv_if_ne (tgt := 19) hx hb dX9_flies_10 (by decide) (fun c4 => ?_) (fun c4 => ?_)
  · replace hw := ite_f hw c4
    refine lv_iload_n hx hb dX9_flies_19 rfl (lv_at hl 2 rfl) ?_
    refine call_i (run_S (cc := cX9_flies) (As := [.int a2]) (rest := []) hx hb hml hown hE hz (okX9_kindOf X l hfl  hw) qw_1672 qw_1673 qw_86 qw_1674 (myX9_kindOf).2 ⟨Nat.le_of_ble_eq_true rfl, Nat.le_of_ble_eq_true rfl⟩ hP hD hS rfl hl.1 rfl (Nat.le_of_ble_eq_true rfl) dX9_flies_20 ⟨Nat.le_of_ble_eq_true rfl, Nat.le_of_ble_eq_true rfl⟩) hS (fun r6 G5 H locs hw hP hD hS => ?_)
    refine lv_if_ge (tgt := 34) hx hb dX9_flies_23 (by decide) (fun c7 => ?_) (fun c7 => ?_)
    · replace hw := ite_t hw c7
      refine lv_aload_n hx hb dX9_flies_34 rfl (lv_at hl 0 rfl) ?_
      refine lv_iload_n hx hb dX9_flies_35 rfl (lv_at hl 1 rfl) ?_
      refine lv_iload_n hx hb dX9_flies_36 rfl (lv_at hl 2 rfl) ?_
      refine call_i (run_S (cc := cX9_flies) (As := [.int a2]) (rest := [.int a1, .ref (xa X 189)]) hx hb hml hown hE hz (okX9_kindOf X l hfl  hw) qw_1672 qw_1673 qw_86 qw_1674 (myX9_kindOf).2 ⟨Nat.le_of_ble_eq_true rfl, Nat.le_of_ble_eq_true rfl⟩ hP hD hS rfl hl.1 rfl (Nat.le_of_ble_eq_true rfl) dX9_flies_37 ⟨Nat.le_of_ble_eq_true rfl, Nat.le_of_ble_eq_true rfl⟩) hS (fun r9 G8 H locs hw hP hD hS => ?_)
      refine call_i (run_V (cc := cX9_flies) (As := [.int a1, .int r9]) (rest := []) hx hb hml hown hE hz (okX9_of X l hfl  hw) qw_1675 qw_1677 qw_28 qw_86 qw_1678 (myX9_of) ⟨Nat.le_of_ble_eq_true rfl, Nat.le_of_ble_eq_true rfl⟩ (rv_X9 hE hP rfl) hP hD hS rfl hl.1 rfl (Nat.le_of_ble_eq_true rfl) dX9_flies_40 ⟨Nat.le_of_ble_eq_true rfl, Nat.le_of_ble_eq_true rfl⟩) hS (fun r11 G10 H locs hw hP hD hS => ?_)
      exact end_i hx hb hr hlk rfl hw hP hD hS dX9_flies_43
    · replace hw := ite_f hw c7
      refine lv_aload_n hx hb dX9_flies_26 rfl (lv_at hl 0 rfl) ?_
      refine lv_iconst (v := 2) hx hb dX9_flies_27 (by decide) ?_
      refine call_i (run_V (cc := cX9_flies) (As := [.int 2]) (rest := []) hx hb hml hown hE hz (okX9_fails X l hfl  hw) qw_1636 qw_1638 qw_20 qw_86 qw_1639 (myX9_fails) ⟨Nat.le_of_ble_eq_true rfl, Nat.le_of_ble_eq_true rfl⟩ (rv_X9 hE hP rfl) hP hD hS rfl hl.1 rfl (Nat.le_of_ble_eq_true rfl) dX9_flies_28 ⟨Nat.le_of_ble_eq_true rfl, Nat.le_of_ble_eq_true rfl⟩) hS (fun r13 G12 H locs hw hP hD hS => ?_)
      refine lv_goto (tgt := 43) hx hb dX9_flies_31 (by decide) ?_
      exact end_i hx hb hr hlk rfl hw hP hD hS dX9_flies_43
  · replace hw := ite_t hw c4
    refine lv_aload_n hx hb dX9_flies_13 rfl (lv_at hl 0 rfl) ?_
    refine lv_iconst (v := 1) hx hb dX9_flies_14 (by decide) ?_
    refine call_i (run_V (cc := cX9_flies) (As := [.int 1]) (rest := []) hx hb hml hown hE hz (okX9_fails X l hfl  hw) qw_1636 qw_1638 qw_20 qw_86 qw_1639 (myX9_fails) ⟨Nat.le_of_ble_eq_true rfl, Nat.le_of_ble_eq_true rfl⟩ (rv_X9 hE hP rfl) hP hD hS rfl hl.1 rfl (Nat.le_of_ble_eq_true rfl) dX9_flies_15 ⟨Nat.le_of_ble_eq_true rfl, Nat.le_of_ble_eq_true rfl⟩) hS (fun r15 G14 H locs hw hP hD hS => ?_)
    exact end_i hx hb hr hlk rfl hw hP hD hS dX9_flies_18
def wpX9_asksVault (post : Int32 → GS → Prop) (a1 : Int32) (a2 : Int32) (G : GS) : Prop :=
  ∀ G1 : GS, G1 = gI G 189 0 0 →
  wpX9_isVault (fun (r3 : Int32) (G2 : GS) =>
  if r3 = 0 then
    wpX9_fails (fun (r6 : Int32) (G5 : GS) =>
      post r6 G5) 1 G2
  else
    wpX9_of (fun (r8 : Int32) (G7 : GS) =>
      post r8 G7) a1 a2 G2) a1 G1
set_option maxHeartbeats 4000000 in
set_option maxRecDepth 100000 in
theorem okX9_asksVault (X : Cx) (l : Launch) (hfl : l.stackTraces = false) {post : Int32 → GS → Prop} {a1 : Int32} {a2 : Int32} {G : GS}  (hw : wpX9_asksVault post a1 a2 G) : CT X l yX9_asksVault cX9_asksVault 3 (some FieldType.int) 3 0 0 [.ref (xa X 189), .int a1, .int a2] G (Qi X post) := by
  refine mbegin (by decide) (Nat.le_of_ble_eq_true rfl) (fun p e s m below meth c hx hb hr hml hlk hown hE hz ls hl hP hD hS => ?_)
  have hl : lv_has ls 3 [(0, .ref (xa X 189)), (1, .int a1), (2, .int a2)] := hl
  have hown : s.vm.findClass "FlyTreasuryModel" = some m.cls := hown
  unfold wpX9_asksVault at hw
  refine lv_aload_n hx hb dX9_asksVault_0 rfl (lv_at hl 0 rfl) ?_
  refine lv_iconst (v := 0) hx hb dX9_asksVault_1 (by decide) ?_
  refine pf_X9_0 hx hb hE hP hD hS hown rfl (hE.w qw_1570 rfl _) dX9_asksVault_2 (fun G1 H locs eG1 hP hD hS => ?_)
  replace hw := hw G1 eG1
  refine lv_aload_n hx hb dX9_asksVault_5 rfl (lv_at hl 0 rfl) ?_
  refine lv_iload_n hx hb dX9_asksVault_6 rfl (lv_at hl 1 rfl) ?_
  refine call_i (run_V (cc := cX9_asksVault) (As := [.int a1]) (rest := []) hx hb hml hown hE hz (okX9_isVault X l hfl  hw) qw_1668 qw_1670 qw_27 qw_86 qw_1671 (myX9_isVault) ⟨Nat.le_of_ble_eq_true rfl, Nat.le_of_ble_eq_true rfl⟩ (rv_X9 hE hP rfl) hP hD hS rfl hl.1 rfl (Nat.le_of_ble_eq_true rfl) dX9_asksVault_7 ⟨Nat.le_of_ble_eq_true rfl, Nat.le_of_ble_eq_true rfl⟩) hS (fun r3 G2 H locs hw hP hD hS => ?_)
  refine lv_if_eq (tgt := 22) hx hb dX9_asksVault_10 (by decide) (fun c4 => ?_) (fun c4 => ?_)
  · replace hw := ite_t hw c4
    refine lv_aload_n hx hb dX9_asksVault_22 rfl (lv_at hl 0 rfl) ?_
    refine lv_iconst (v := 1) hx hb dX9_asksVault_23 (by decide) ?_
    refine call_i (run_V (cc := cX9_asksVault) (As := [.int 1]) (rest := []) hx hb hml hown hE hz (okX9_fails X l hfl  hw) qw_1636 qw_1638 qw_20 qw_86 qw_1639 (myX9_fails) ⟨Nat.le_of_ble_eq_true rfl, Nat.le_of_ble_eq_true rfl⟩ (rv_X9 hE hP rfl) hP hD hS rfl hl.1 rfl (Nat.le_of_ble_eq_true rfl) dX9_asksVault_24 ⟨Nat.le_of_ble_eq_true rfl, Nat.le_of_ble_eq_true rfl⟩) hS (fun r6 G5 H locs hw hP hD hS => ?_)
    exact end_i hx hb hr hlk rfl hw hP hD hS dX9_asksVault_27
  · replace hw := ite_f hw c4
    refine lv_aload_n hx hb dX9_asksVault_13 rfl (lv_at hl 0 rfl) ?_
    refine lv_iload_n hx hb dX9_asksVault_14 rfl (lv_at hl 1 rfl) ?_
    refine lv_iload_n hx hb dX9_asksVault_15 rfl (lv_at hl 2 rfl) ?_
    refine call_i (run_V (cc := cX9_asksVault) (As := [.int a1, .int a2]) (rest := []) hx hb hml hown hE hz (okX9_of X l hfl  hw) qw_1675 qw_1677 qw_28 qw_86 qw_1678 (myX9_of) ⟨Nat.le_of_ble_eq_true rfl, Nat.le_of_ble_eq_true rfl⟩ (rv_X9 hE hP rfl) hP hD hS rfl hl.1 rfl (Nat.le_of_ble_eq_true rfl) dX9_asksVault_16 ⟨Nat.le_of_ble_eq_true rfl, Nat.le_of_ble_eq_true rfl⟩) hS (fun r8 G7 H locs hw hP hD hS => ?_)
    refine lv_goto (tgt := 27) hx hb dX9_asksVault_19 (by decide) ?_
    exact end_i hx hb hr hlk rfl hw hP hD hS dX9_asksVault_27
def wpX9_crumbs (post : Int32 → GS → Prop) (a1 : Int32) (G : GS) : Prop :=
  wpX9_asksVault (fun (r2 : Int32) (G1 : GS) =>
  post r2 G1) a1 3 G
set_option maxHeartbeats 4000000 in
set_option maxRecDepth 100000 in
theorem okX9_crumbs (X : Cx) (l : Launch) (hfl : l.stackTraces = false) {post : Int32 → GS → Prop} {a1 : Int32} {G : GS}  (hw : wpX9_crumbs post a1 G) : CT X l yX9_crumbs cX9_crumbs 2 (some FieldType.int) 4 0 0 [.ref (xa X 189), .int a1] G (Qi X post) := by
  refine mbegin (by decide) (Nat.le_of_ble_eq_true rfl) (fun p e s m below meth c hx hb hr hml hlk hown hE hz ls hl hP hD hS => ?_)
  have hl : lv_has ls 2 [(0, .ref (xa X 189)), (1, .int a1)] := hl
  have hown : s.vm.findClass "FlyTreasuryModel" = some m.cls := hown
  unfold wpX9_crumbs at hw
  refine lv_aload_n hx hb dX9_crumbs_0 rfl (lv_at hl 0 rfl) ?_
  refine lv_iload_n hx hb dX9_crumbs_1 rfl (lv_at hl 1 rfl) ?_
  refine lv_iconst (v := 3) hx hb dX9_crumbs_2 (by decide) ?_
  refine call_i (run_V (cc := cX9_crumbs) (As := [.int a1, .int 3]) (rest := []) hx hb hml hown hE hz (okX9_asksVault X l hfl  hw) qw_1821 qw_1823 qw_52 qw_86 qw_1824 (myX9_asksVault) ⟨Nat.le_of_ble_eq_true rfl, Nat.le_of_ble_eq_true rfl⟩ (rv_X9 hE hP rfl) hP hD hS rfl hl.1 rfl (Nat.le_of_ble_eq_true rfl) dX9_crumbs_3 ⟨Nat.le_of_ble_eq_true rfl, Nat.le_of_ble_eq_true rfl⟩) hS (fun r2 G1 H locs hw hP hD hS => ?_)
  exact end_i hx hb hr hlk rfl hw hP hD hS dX9_crumbs_6
def wpX9_dew (post : Int32 → GS → Prop) (a1 : Int32) (G : GS) : Prop :=
  wpX9_asksVault (fun (r2 : Int32) (G1 : GS) =>
  post r2 G1) a1 4 G
set_option maxHeartbeats 4000000 in
set_option maxRecDepth 100000 in
theorem okX9_dew (X : Cx) (l : Launch) (hfl : l.stackTraces = false) {post : Int32 → GS → Prop} {a1 : Int32} {G : GS}  (hw : wpX9_dew post a1 G) : CT X l yX9_dew cX9_dew 2 (some FieldType.int) 4 0 0 [.ref (xa X 189), .int a1] G (Qi X post) := by
  refine mbegin (by decide) (Nat.le_of_ble_eq_true rfl) (fun p e s m below meth c hx hb hr hml hlk hown hE hz ls hl hP hD hS => ?_)
  have hl : lv_has ls 2 [(0, .ref (xa X 189)), (1, .int a1)] := hl
  have hown : s.vm.findClass "FlyTreasuryModel" = some m.cls := hown
  unfold wpX9_dew at hw
  refine lv_aload_n hx hb dX9_dew_0 rfl (lv_at hl 0 rfl) ?_
  refine lv_iload_n hx hb dX9_dew_1 rfl (lv_at hl 1 rfl) ?_
  refine lv_iconst (v := 4) hx hb dX9_dew_2 (by decide) ?_
  refine call_i (run_V (cc := cX9_dew) (As := [.int a1, .int 4]) (rest := []) hx hb hml hown hE hz (okX9_asksVault X l hfl  hw) qw_1821 qw_1823 qw_52 qw_86 qw_1824 (myX9_asksVault) ⟨Nat.le_of_ble_eq_true rfl, Nat.le_of_ble_eq_true rfl⟩ (rv_X9 hE hP rfl) hP hD hS rfl hl.1 rfl (Nat.le_of_ble_eq_true rfl) dX9_dew_3 ⟨Nat.le_of_ble_eq_true rfl, Nat.le_of_ble_eq_true rfl⟩) hS (fun r2 G1 H locs hw hP hD hS => ?_)
  exact end_i hx hb hr hlk rfl hw hP hD hS dX9_dew_6
def wpX9_wings (post : Int32 → GS → Prop) (a1 : Int32) (G : GS) : Prop :=
  wpX9_asksVault (fun (r2 : Int32) (G1 : GS) =>
  post r2 G1) a1 5 G
set_option maxHeartbeats 4000000 in
set_option maxRecDepth 100000 in
theorem okX9_wings (X : Cx) (l : Launch) (hfl : l.stackTraces = false) {post : Int32 → GS → Prop} {a1 : Int32} {G : GS}  (hw : wpX9_wings post a1 G) : CT X l yX9_wings cX9_wings 2 (some FieldType.int) 4 0 0 [.ref (xa X 189), .int a1] G (Qi X post) := by
  refine mbegin (by decide) (Nat.le_of_ble_eq_true rfl) (fun p e s m below meth c hx hb hr hml hlk hown hE hz ls hl hP hD hS => ?_)
  have hl : lv_has ls 2 [(0, .ref (xa X 189)), (1, .int a1)] := hl
  have hown : s.vm.findClass "FlyTreasuryModel" = some m.cls := hown
  unfold wpX9_wings at hw
  refine lv_aload_n hx hb dX9_wings_0 rfl (lv_at hl 0 rfl) ?_
  refine lv_iload_n hx hb dX9_wings_1 rfl (lv_at hl 1 rfl) ?_
  refine lv_iconst (v := 5) hx hb dX9_wings_2 (by decide) ?_
  refine call_i (run_V (cc := cX9_wings) (As := [.int a1, .int 5]) (rest := []) hx hb hml hown hE hz (okX9_asksVault X l hfl  hw) qw_1821 qw_1823 qw_52 qw_86 qw_1824 (myX9_asksVault) ⟨Nat.le_of_ble_eq_true rfl, Nat.le_of_ble_eq_true rfl⟩ (rv_X9 hE hP rfl) hP hD hS rfl hl.1 rfl (Nat.le_of_ble_eq_true rfl) dX9_wings_3 ⟨Nat.le_of_ble_eq_true rfl, Nat.le_of_ble_eq_true rfl⟩) hS (fun r2 G1 H locs hw hP hD hS => ?_)
  exact end_i hx hb hr hlk rfl hw hP hD hS dX9_wings_6
def wpX9_stickiness (post : Int32 → GS → Prop) (a1 : Int32) (G : GS) : Prop :=
  wpX9_asksVault (fun (r2 : Int32) (G1 : GS) =>
  post r2 G1) a1 6 G
set_option maxHeartbeats 4000000 in
set_option maxRecDepth 100000 in
theorem okX9_stickiness (X : Cx) (l : Launch) (hfl : l.stackTraces = false) {post : Int32 → GS → Prop} {a1 : Int32} {G : GS}  (hw : wpX9_stickiness post a1 G) : CT X l yX9_stickiness cX9_stickiness 2 (some FieldType.int) 4 0 0 [.ref (xa X 189), .int a1] G (Qi X post) := by
  refine mbegin (by decide) (Nat.le_of_ble_eq_true rfl) (fun p e s m below meth c hx hb hr hml hlk hown hE hz ls hl hP hD hS => ?_)
  have hl : lv_has ls 2 [(0, .ref (xa X 189)), (1, .int a1)] := hl
  have hown : s.vm.findClass "FlyTreasuryModel" = some m.cls := hown
  unfold wpX9_stickiness at hw
  refine lv_aload_n hx hb dX9_stickiness_0 rfl (lv_at hl 0 rfl) ?_
  refine lv_iload_n hx hb dX9_stickiness_1 rfl (lv_at hl 1 rfl) ?_
  refine lv_bipush (v := 6) hx hb dX9_stickiness_2 (by decide) ?_
  refine call_i (run_V (cc := cX9_stickiness) (As := [.int a1, .int 6]) (rest := []) hx hb hml hown hE hz (okX9_asksVault X l hfl  hw) qw_1821 qw_1823 qw_52 qw_86 qw_1824 (myX9_asksVault) ⟨Nat.le_of_ble_eq_true rfl, Nat.le_of_ble_eq_true rfl⟩ (rv_X9 hE hP rfl) hP hD hS rfl hl.1 rfl (Nat.le_of_ble_eq_true rfl) dX9_stickiness_4 ⟨Nat.le_of_ble_eq_true rfl, Nat.le_of_ble_eq_true rfl⟩) hS (fun r2 G1 H locs hw hP hD hS => ?_)
  exact end_i hx hb hr hlk rfl hw hP hD hS dX9_stickiness_7
def wpX9_isFrozen (post : Int32 → GS → Prop) (a1 : Int32) (G : GS) : Prop :=
  wpX9_asksVault (fun (r2 : Int32) (G1 : GS) =>
  if r2 ≤ 0 then
    post 0 G1
  else
    post 1 G1) a1 7 G
set_option maxHeartbeats 4000000 in
set_option maxRecDepth 100000 in
theorem okX9_isFrozen (X : Cx) (l : Launch) (hfl : l.stackTraces = false) {post : Int32 → GS → Prop} {a1 : Int32} {G : GS}  (hw : wpX9_isFrozen post a1 G) : CT X l yX9_isFrozen cX9_isFrozen 2 (some FieldType.boolean) 4 0 0 [.ref (xa X 189), .int a1] G (Qi X post) := by
  refine mbegin (by decide) (Nat.le_of_ble_eq_true rfl) (fun p e s m below meth c hx hb hr hml hlk hown hE hz ls hl hP hD hS => ?_)
  have hl : lv_has ls 2 [(0, .ref (xa X 189)), (1, .int a1)] := hl
  have hown : s.vm.findClass "FlyTreasuryModel" = some m.cls := hown
  unfold wpX9_isFrozen at hw
  refine lv_aload_n hx hb dX9_isFrozen_0 rfl (lv_at hl 0 rfl) ?_
  refine lv_iload_n hx hb dX9_isFrozen_1 rfl (lv_at hl 1 rfl) ?_
  refine lv_bipush (v := 7) hx hb dX9_isFrozen_2 (by decide) ?_
  refine call_i (run_V (cc := cX9_isFrozen) (As := [.int a1, .int 7]) (rest := []) hx hb hml hown hE hz (okX9_asksVault X l hfl  hw) qw_1821 qw_1823 qw_52 qw_86 qw_1824 (myX9_asksVault) ⟨Nat.le_of_ble_eq_true rfl, Nat.le_of_ble_eq_true rfl⟩ (rv_X9 hE hP rfl) hP hD hS rfl hl.1 rfl (Nat.le_of_ble_eq_true rfl) dX9_isFrozen_4 ⟨Nat.le_of_ble_eq_true rfl, Nat.le_of_ble_eq_true rfl⟩) hS (fun r2 G1 H locs hw hP hD hS => ?_)
  refine lv_if_le (tgt := 14) hx hb dX9_isFrozen_7 (by decide) (fun c3 => ?_) (fun c3 => ?_)
  · replace hw := ite_t hw c3
    refine lv_iconst (v := 0) hx hb dX9_isFrozen_14 (by decide) ?_
    exact end_i hx hb hr hlk (by decide) hw hP hD hS dX9_isFrozen_15
  · replace hw := ite_f hw c3
    refine lv_iconst (v := 1) hx hb dX9_isFrozen_10 (by decide) ?_
    refine lv_goto (tgt := 15) hx hb dX9_isFrozen_11 (by decide) ?_
    exact end_i hx hb hr hlk (by decide) hw hP hD hS dX9_isFrozen_15
def wpX9_daysUntilThaw (post : Int32 → GS → Prop) (a1 : Int32) (G : GS) : Prop :=
  ∀ G1 : GS, G1 = gI G 189 0 0 →
  wpX9_isVault (fun (r3 : Int32) (G2 : GS) =>
  if r3 = 0 then
    wpX9_fails (fun (r13 : Int32) (G12 : GS) =>
      post r13 G12) 1 G2
  else
    wpX9_of (fun (r6 : Int32) (G5 : GS) =>
      if r6 ≤ 0 then
        wpX9_fails (fun (r9 : Int32) (G8 : GS) =>
          post r9 G8) 2 G5
      else
        wpX9_of (fun (r11 : Int32) (G10 : GS) =>
          post r11 G10) a1 7 G5) a1 7 G2) a1 G1
set_option maxHeartbeats 4000000 in
set_option maxRecDepth 100000 in
theorem okX9_daysUntilThaw (X : Cx) (l : Launch) (hfl : l.stackTraces = false) {post : Int32 → GS → Prop} {a1 : Int32} {G : GS}  (hw : wpX9_daysUntilThaw post a1 G) : CT X l yX9_daysUntilThaw cX9_daysUntilThaw 2 (some FieldType.int) 3 0 0 [.ref (xa X 189), .int a1] G (Qi X post) := by
  refine mbegin (by decide) (Nat.le_of_ble_eq_true rfl) (fun p e s m below meth c hx hb hr hml hlk hown hE hz ls hl hP hD hS => ?_)
  have hl : lv_has ls 2 [(0, .ref (xa X 189)), (1, .int a1)] := hl
  have hown : s.vm.findClass "FlyTreasuryModel" = some m.cls := hown
  unfold wpX9_daysUntilThaw at hw
  refine lv_aload_n hx hb dX9_daysUntilThaw_0 rfl (lv_at hl 0 rfl) ?_
  refine lv_iconst (v := 0) hx hb dX9_daysUntilThaw_1 (by decide) ?_
  refine pf_X9_0 hx hb hE hP hD hS hown rfl (hE.w qw_1570 rfl _) dX9_daysUntilThaw_2 (fun G1 H locs eG1 hP hD hS => ?_)
  replace hw := hw G1 eG1
  refine lv_aload_n hx hb dX9_daysUntilThaw_5 rfl (lv_at hl 0 rfl) ?_
  refine lv_iload_n hx hb dX9_daysUntilThaw_6 rfl (lv_at hl 1 rfl) ?_
  refine call_i (run_V (cc := cX9_daysUntilThaw) (As := [.int a1]) (rest := []) hx hb hml hown hE hz (okX9_isVault X l hfl  hw) qw_1668 qw_1670 qw_27 qw_86 qw_1671 (myX9_isVault) ⟨Nat.le_of_ble_eq_true rfl, Nat.le_of_ble_eq_true rfl⟩ (rv_X9 hE hP rfl) hP hD hS rfl hl.1 rfl (Nat.le_of_ble_eq_true rfl) dX9_daysUntilThaw_7 ⟨Nat.le_of_ble_eq_true rfl, Nat.le_of_ble_eq_true rfl⟩) hS (fun r3 G2 H locs hw hP hD hS => ?_)
  refine lv_if_ne (tgt := 19) hx hb dX9_daysUntilThaw_10 (by decide) (fun c4 => ?_) (fun c4 => ?_)
  · replace hw := ite_f hw c4
    refine lv_aload_n hx hb dX9_daysUntilThaw_19 rfl (lv_at hl 0 rfl) ?_
    refine lv_iload_n hx hb dX9_daysUntilThaw_20 rfl (lv_at hl 1 rfl) ?_
    refine lv_bipush (v := 7) hx hb dX9_daysUntilThaw_21 (by decide) ?_
    refine call_i (run_V (cc := cX9_daysUntilThaw) (As := [.int a1, .int 7]) (rest := []) hx hb hml hown hE hz (okX9_of X l hfl  hw) qw_1675 qw_1677 qw_28 qw_86 qw_1678 (myX9_of) ⟨Nat.le_of_ble_eq_true rfl, Nat.le_of_ble_eq_true rfl⟩ (rv_X9 hE hP rfl) hP hD hS rfl hl.1 rfl (Nat.le_of_ble_eq_true rfl) dX9_daysUntilThaw_23 ⟨Nat.le_of_ble_eq_true rfl, Nat.le_of_ble_eq_true rfl⟩) hS (fun r6 G5 H locs hw hP hD hS => ?_)
    refine lv_if_le (tgt := 39) hx hb dX9_daysUntilThaw_26 (by decide) (fun c7 => ?_) (fun c7 => ?_)
    · replace hw := ite_t hw c7
      refine lv_aload_n hx hb dX9_daysUntilThaw_39 rfl (lv_at hl 0 rfl) ?_
      refine lv_iconst (v := 2) hx hb dX9_daysUntilThaw_40 (by decide) ?_
      refine call_i (run_V (cc := cX9_daysUntilThaw) (As := [.int 2]) (rest := []) hx hb hml hown hE hz (okX9_fails X l hfl  hw) qw_1636 qw_1638 qw_20 qw_86 qw_1639 (myX9_fails) ⟨Nat.le_of_ble_eq_true rfl, Nat.le_of_ble_eq_true rfl⟩ (rv_X9 hE hP rfl) hP hD hS rfl hl.1 rfl (Nat.le_of_ble_eq_true rfl) dX9_daysUntilThaw_41 ⟨Nat.le_of_ble_eq_true rfl, Nat.le_of_ble_eq_true rfl⟩) hS (fun r9 G8 H locs hw hP hD hS => ?_)
      exact end_i hx hb hr hlk rfl hw hP hD hS dX9_daysUntilThaw_44
    · replace hw := ite_f hw c7
      refine lv_aload_n hx hb dX9_daysUntilThaw_29 rfl (lv_at hl 0 rfl) ?_
      refine lv_iload_n hx hb dX9_daysUntilThaw_30 rfl (lv_at hl 1 rfl) ?_
      refine lv_bipush (v := 7) hx hb dX9_daysUntilThaw_31 (by decide) ?_
      refine call_i (run_V (cc := cX9_daysUntilThaw) (As := [.int a1, .int 7]) (rest := []) hx hb hml hown hE hz (okX9_of X l hfl  hw) qw_1675 qw_1677 qw_28 qw_86 qw_1678 (myX9_of) ⟨Nat.le_of_ble_eq_true rfl, Nat.le_of_ble_eq_true rfl⟩ (rv_X9 hE hP rfl) hP hD hS rfl hl.1 rfl (Nat.le_of_ble_eq_true rfl) dX9_daysUntilThaw_33 ⟨Nat.le_of_ble_eq_true rfl, Nat.le_of_ble_eq_true rfl⟩) hS (fun r11 G10 H locs hw hP hD hS => ?_)
      refine lv_goto (tgt := 44) hx hb dX9_daysUntilThaw_36 (by decide) ?_
      exact end_i hx hb hr hlk rfl hw hP hD hS dX9_daysUntilThaw_44
  · replace hw := ite_t hw c4
    refine lv_aload_n hx hb dX9_daysUntilThaw_13 rfl (lv_at hl 0 rfl) ?_
    refine lv_iconst (v := 1) hx hb dX9_daysUntilThaw_14 (by decide) ?_
    refine call_i (run_V (cc := cX9_daysUntilThaw) (As := [.int 1]) (rest := []) hx hb hml hown hE hz (okX9_fails X l hfl  hw) qw_1636 qw_1638 qw_20 qw_86 qw_1639 (myX9_fails) ⟨Nat.le_of_ble_eq_true rfl, Nat.le_of_ble_eq_true rfl⟩ (rv_X9 hE hP rfl) hP hD hS rfl hl.1 rfl (Nat.le_of_ble_eq_true rfl) dX9_daysUntilThaw_15 ⟨Nat.le_of_ble_eq_true rfl, Nat.le_of_ble_eq_true rfl⟩) hS (fun r13 G12 H locs hw hP hD hS => ?_)
    exact end_i hx hb hr hlk rfl hw hP hD hS dX9_daysUntilThaw_18
def wpX9_value (post : Int32 → GS → Prop) (a1 : Int32) (G : GS) : Prop :=
  ∀ G1 : GS, G1 = gI G 189 0 0 →
  wpX9_isVault (fun (r3 : Int32) (G2 : GS) =>
  if r3 = 0 then
    wpX9_fails (fun (r6 : Int32) (G5 : GS) =>
      post r6 G5) 1 G2
  else
    wpX9_valueOf (fun (r8 : Int32) (G7 : GS) =>
      post r8 G7) a1 G2) a1 G1
set_option maxHeartbeats 4000000 in
set_option maxRecDepth 100000 in
theorem okX9_value (X : Cx) (l : Launch) (hfl : l.stackTraces = false) {post : Int32 → GS → Prop} {a1 : Int32} {G : GS}  (hw : wpX9_value post a1 G) : CT X l yX9_value cX9_value 2 (some FieldType.int) 3 0 0 [.ref (xa X 189), .int a1] G (Qi X post) := by
  refine mbegin (by decide) (Nat.le_of_ble_eq_true rfl) (fun p e s m below meth c hx hb hr hml hlk hown hE hz ls hl hP hD hS => ?_)
  have hl : lv_has ls 2 [(0, .ref (xa X 189)), (1, .int a1)] := hl
  have hown : s.vm.findClass "FlyTreasuryModel" = some m.cls := hown
  unfold wpX9_value at hw
  refine lv_aload_n hx hb dX9_value_0 rfl (lv_at hl 0 rfl) ?_
  refine lv_iconst (v := 0) hx hb dX9_value_1 (by decide) ?_
  refine pf_X9_0 hx hb hE hP hD hS hown rfl (hE.w qw_1570 rfl _) dX9_value_2 (fun G1 H locs eG1 hP hD hS => ?_)
  replace hw := hw G1 eG1
  refine lv_aload_n hx hb dX9_value_5 rfl (lv_at hl 0 rfl) ?_
  refine lv_iload_n hx hb dX9_value_6 rfl (lv_at hl 1 rfl) ?_
  refine call_i (run_V (cc := cX9_value) (As := [.int a1]) (rest := []) hx hb hml hown hE hz (okX9_isVault X l hfl  hw) qw_1668 qw_1670 qw_27 qw_86 qw_1671 (myX9_isVault) ⟨Nat.le_of_ble_eq_true rfl, Nat.le_of_ble_eq_true rfl⟩ (rv_X9 hE hP rfl) hP hD hS rfl hl.1 rfl (Nat.le_of_ble_eq_true rfl) dX9_value_7 ⟨Nat.le_of_ble_eq_true rfl, Nat.le_of_ble_eq_true rfl⟩) hS (fun r3 G2 H locs hw hP hD hS => ?_)
  refine lv_if_eq (tgt := 21) hx hb dX9_value_10 (by decide) (fun c4 => ?_) (fun c4 => ?_)
  · replace hw := ite_t hw c4
    refine lv_aload_n hx hb dX9_value_21 rfl (lv_at hl 0 rfl) ?_
    refine lv_iconst (v := 1) hx hb dX9_value_22 (by decide) ?_
    refine call_i (run_V (cc := cX9_value) (As := [.int 1]) (rest := []) hx hb hml hown hE hz (okX9_fails X l hfl  hw) qw_1636 qw_1638 qw_20 qw_86 qw_1639 (myX9_fails) ⟨Nat.le_of_ble_eq_true rfl, Nat.le_of_ble_eq_true rfl⟩ (rv_X9 hE hP rfl) hP hD hS rfl hl.1 rfl (Nat.le_of_ble_eq_true rfl) dX9_value_23 ⟨Nat.le_of_ble_eq_true rfl, Nat.le_of_ble_eq_true rfl⟩) hS (fun r6 G5 H locs hw hP hD hS => ?_)
    exact end_i hx hb hr hlk rfl hw hP hD hS dX9_value_26
  · replace hw := ite_f hw c4
    refine lv_aload_n hx hb dX9_value_13 rfl (lv_at hl 0 rfl) ?_
    refine lv_iload_n hx hb dX9_value_14 rfl (lv_at hl 1 rfl) ?_
    refine call_i (run_V (cc := cX9_value) (As := [.int a1]) (rest := []) hx hb hml hown hE hz (okX9_valueOf X l hfl  hw) qw_1703 qw_1705 qw_34 qw_86 qw_1706 (myX9_valueOf) ⟨Nat.le_of_ble_eq_true rfl, Nat.le_of_ble_eq_true rfl⟩ (rv_X9 hE hP rfl) hP hD hS rfl hl.1 rfl (Nat.le_of_ble_eq_true rfl) dX9_value_15 ⟨Nat.le_of_ble_eq_true rfl, Nat.le_of_ble_eq_true rfl⟩) hS (fun r8 G7 H locs hw hP hD hS => ?_)
    refine lv_goto (tgt := 26) hx hb dX9_value_18 (by decide) ?_
    exact end_i hx hb hr hlk rfl hw hP hD hS dX9_value_26
def wpX9_reserve (post : Int32 → GS → Prop) (a1 : Int32) (G : GS) : Prop :=
  ∀ G1 : GS, G1 = gI G 189 0 0 →
  wpX9_isVault (fun (r3 : Int32) (G2 : GS) =>
  if r3 = 0 then
    wpX9_fails (fun (r6 : Int32) (G5 : GS) =>
      post r6 G5) 1 G2
  else
    wpX9_reserveOf (fun (r8 : Int32) (G7 : GS) =>
      post r8 G7) a1 G2) a1 G1
set_option maxHeartbeats 4000000 in
set_option maxRecDepth 100000 in
theorem okX9_reserve (X : Cx) (l : Launch) (hfl : l.stackTraces = false) {post : Int32 → GS → Prop} {a1 : Int32} {G : GS}  (hw : wpX9_reserve post a1 G) : CT X l yX9_reserve cX9_reserve 2 (some FieldType.int) 4 0 0 [.ref (xa X 189), .int a1] G (Qi X post) := by
  refine mbegin (by decide) (Nat.le_of_ble_eq_true rfl) (fun p e s m below meth c hx hb hr hml hlk hown hE hz ls hl hP hD hS => ?_)
  have hl : lv_has ls 2 [(0, .ref (xa X 189)), (1, .int a1)] := hl
  have hown : s.vm.findClass "FlyTreasuryModel" = some m.cls := hown
  unfold wpX9_reserve at hw
  refine lv_aload_n hx hb dX9_reserve_0 rfl (lv_at hl 0 rfl) ?_
  refine lv_iconst (v := 0) hx hb dX9_reserve_1 (by decide) ?_
  refine pf_X9_0 hx hb hE hP hD hS hown rfl (hE.w qw_1570 rfl _) dX9_reserve_2 (fun G1 H locs eG1 hP hD hS => ?_)
  replace hw := hw G1 eG1
  refine lv_aload_n hx hb dX9_reserve_5 rfl (lv_at hl 0 rfl) ?_
  refine lv_iload_n hx hb dX9_reserve_6 rfl (lv_at hl 1 rfl) ?_
  refine call_i (run_V (cc := cX9_reserve) (As := [.int a1]) (rest := []) hx hb hml hown hE hz (okX9_isVault X l hfl  hw) qw_1668 qw_1670 qw_27 qw_86 qw_1671 (myX9_isVault) ⟨Nat.le_of_ble_eq_true rfl, Nat.le_of_ble_eq_true rfl⟩ (rv_X9 hE hP rfl) hP hD hS rfl hl.1 rfl (Nat.le_of_ble_eq_true rfl) dX9_reserve_7 ⟨Nat.le_of_ble_eq_true rfl, Nat.le_of_ble_eq_true rfl⟩) hS (fun r3 G2 H locs hw hP hD hS => ?_)
  refine lv_if_eq (tgt := 21) hx hb dX9_reserve_10 (by decide) (fun c4 => ?_) (fun c4 => ?_)
  · replace hw := ite_t hw c4
    refine lv_aload_n hx hb dX9_reserve_21 rfl (lv_at hl 0 rfl) ?_
    refine lv_iconst (v := 1) hx hb dX9_reserve_22 (by decide) ?_
    refine call_i (run_V (cc := cX9_reserve) (As := [.int 1]) (rest := []) hx hb hml hown hE hz (okX9_fails X l hfl  hw) qw_1636 qw_1638 qw_20 qw_86 qw_1639 (myX9_fails) ⟨Nat.le_of_ble_eq_true rfl, Nat.le_of_ble_eq_true rfl⟩ (rv_X9 hE hP rfl) hP hD hS rfl hl.1 rfl (Nat.le_of_ble_eq_true rfl) dX9_reserve_23 ⟨Nat.le_of_ble_eq_true rfl, Nat.le_of_ble_eq_true rfl⟩) hS (fun r6 G5 H locs hw hP hD hS => ?_)
    exact end_i hx hb hr hlk rfl hw hP hD hS dX9_reserve_26
  · replace hw := ite_f hw c4
    refine lv_aload_n hx hb dX9_reserve_13 rfl (lv_at hl 0 rfl) ?_
    refine lv_iload_n hx hb dX9_reserve_14 rfl (lv_at hl 1 rfl) ?_
    refine call_i (run_V (cc := cX9_reserve) (As := [.int a1]) (rest := []) hx hb hml hown hE hz (okX9_reserveOf X l hfl  hw) qw_1707 qw_1709 qw_35 qw_86 qw_1710 (myX9_reserveOf) ⟨Nat.le_of_ble_eq_true rfl, Nat.le_of_ble_eq_true rfl⟩ (rv_X9 hE hP rfl) hP hD hS rfl hl.1 rfl (Nat.le_of_ble_eq_true rfl) dX9_reserve_15 ⟨Nat.le_of_ble_eq_true rfl, Nat.le_of_ble_eq_true rfl⟩) hS (fun r8 G7 H locs hw hP hD hS => ?_)
    refine lv_goto (tgt := 26) hx hb dX9_reserve_18 (by decide) ?_
    exact end_i hx hb hr hlk rfl hw hP hD hS dX9_reserve_26
def wpX9_isSound (post : Int32 → GS → Prop) (a1 : Int32) (G : GS) : Prop :=
  ∀ G1 : GS, G1 = gI G 189 0 0 →
  wpX9_isVault (fun (r3 : Int32) (G2 : GS) =>
  if r3 = 0 then
    wpX9_fails (fun (r9 : Int32) (G8 : GS) =>
      if r9 ≤ 0 then
        post 0 G8
      else
        post 1 G8) 1 G2
  else
    wpX9_spare (fun (r6 : Int32) (G5 : GS) =>
      if r6 < 0 then
        post 0 G5
      else
        post 1 G5) a1 G2) a1 G1
set_option maxHeartbeats 4000000 in
set_option maxRecDepth 100000 in
theorem okX9_isSound (X : Cx) (l : Launch) (hfl : l.stackTraces = false) {post : Int32 → GS → Prop} {a1 : Int32} {G : GS}  (hw : wpX9_isSound post a1 G) : CT X l yX9_isSound cX9_isSound 2 (some FieldType.boolean) 5 0 0 [.ref (xa X 189), .int a1] G (Qi X post) := by
  refine mbegin (by decide) (Nat.le_of_ble_eq_true rfl) (fun p e s m below meth c hx hb hr hml hlk hown hE hz ls hl hP hD hS => ?_)
  have hl : lv_has ls 2 [(0, .ref (xa X 189)), (1, .int a1)] := hl
  have hown : s.vm.findClass "FlyTreasuryModel" = some m.cls := hown
  unfold wpX9_isSound at hw
  refine lv_aload_n hx hb dX9_isSound_0 rfl (lv_at hl 0 rfl) ?_
  refine lv_iconst (v := 0) hx hb dX9_isSound_1 (by decide) ?_
  refine pf_X9_0 hx hb hE hP hD hS hown rfl (hE.w qw_1570 rfl _) dX9_isSound_2 (fun G1 H locs eG1 hP hD hS => ?_)
  replace hw := hw G1 eG1
  refine lv_aload_n hx hb dX9_isSound_5 rfl (lv_at hl 0 rfl) ?_
  refine lv_iload_n hx hb dX9_isSound_6 rfl (lv_at hl 1 rfl) ?_
  refine call_i (run_V (cc := cX9_isSound) (As := [.int a1]) (rest := []) hx hb hml hown hE hz (okX9_isVault X l hfl  hw) qw_1668 qw_1670 qw_27 qw_86 qw_1671 (myX9_isVault) ⟨Nat.le_of_ble_eq_true rfl, Nat.le_of_ble_eq_true rfl⟩ (rv_X9 hE hP rfl) hP hD hS rfl hl.1 rfl (Nat.le_of_ble_eq_true rfl) dX9_isSound_7 ⟨Nat.le_of_ble_eq_true rfl, Nat.le_of_ble_eq_true rfl⟩) hS (fun r3 G2 H locs hw hP hD hS => ?_)
  refine lv_if_ne (tgt := 27) hx hb dX9_isSound_10 (by decide) (fun c4 => ?_) (fun c4 => ?_)
  · replace hw := ite_f hw c4
    refine lv_aload_n hx hb dX9_isSound_27 rfl (lv_at hl 0 rfl) ?_
    refine lv_iload_n hx hb dX9_isSound_28 rfl (lv_at hl 1 rfl) ?_
    refine call_i (run_V (cc := cX9_isSound) (As := [.int a1]) (rest := []) hx hb hml hown hE hz (okX9_spare X l hfl  hw) qw_1699 qw_1701 qw_33 qw_86 qw_1702 (myX9_spare) ⟨Nat.le_of_ble_eq_true rfl, Nat.le_of_ble_eq_true rfl⟩ (rv_X9 hE hP rfl) hP hD hS rfl hl.1 rfl (Nat.le_of_ble_eq_true rfl) dX9_isSound_29 ⟨Nat.le_of_ble_eq_true rfl, Nat.le_of_ble_eq_true rfl⟩) hS (fun r6 G5 H locs hw hP hD hS => ?_)
    refine lv_if_lt (tgt := 39) hx hb dX9_isSound_32 (by decide) (fun c7 => ?_) (fun c7 => ?_)
    · replace hw := ite_t hw c7
      refine lv_iconst (v := 0) hx hb dX9_isSound_39 (by decide) ?_
      exact end_i hx hb hr hlk (by decide) hw hP hD hS dX9_isSound_40
    · replace hw := ite_f hw c7
      refine lv_iconst (v := 1) hx hb dX9_isSound_35 (by decide) ?_
      refine lv_goto (tgt := 40) hx hb dX9_isSound_36 (by decide) ?_
      exact end_i hx hb hr hlk (by decide) hw hP hD hS dX9_isSound_40
  · replace hw := ite_t hw c4
    refine lv_aload_n hx hb dX9_isSound_13 rfl (lv_at hl 0 rfl) ?_
    refine lv_iconst (v := 1) hx hb dX9_isSound_14 (by decide) ?_
    refine call_i (run_V (cc := cX9_isSound) (As := [.int 1]) (rest := []) hx hb hml hown hE hz (okX9_fails X l hfl  hw) qw_1636 qw_1638 qw_20 qw_86 qw_1639 (myX9_fails) ⟨Nat.le_of_ble_eq_true rfl, Nat.le_of_ble_eq_true rfl⟩ (rv_X9 hE hP rfl) hP hD hS rfl hl.1 rfl (Nat.le_of_ble_eq_true rfl) dX9_isSound_15 ⟨Nat.le_of_ble_eq_true rfl, Nat.le_of_ble_eq_true rfl⟩) hS (fun r9 G8 H locs hw hP hD hS => ?_)
    refine lv_if_le (tgt := 25) hx hb dX9_isSound_18 (by decide) (fun c10 => ?_) (fun c10 => ?_)
    · replace hw := ite_t hw c10
      refine lv_iconst (v := 0) hx hb dX9_isSound_25 (by decide) ?_
      exact end_i hx hb hr hlk (by decide) hw hP hD hS dX9_isSound_26
    · replace hw := ite_f hw c10
      refine lv_iconst (v := 1) hx hb dX9_isSound_21 (by decide) ?_
      refine lv_goto (tgt := 26) hx hb dX9_isSound_22 (by decide) ?_
      exact end_i hx hb hr hlk (by decide) hw hP hD hS dX9_isSound_26
def wpX9_mintable (post : Int32 → GS → Prop) (a1 : Int32) (G : GS) : Prop :=
  ∀ G1 : GS, G1 = gI G 189 0 0 →
  wpX9_isVault (fun (r3 : Int32) (G2 : GS) =>
  if r3 = 0 then
    wpX9_fails (fun (r11 : Int32) (G10 : GS) =>
      post r11 G10) 1 G2
  else
    wpX9_spare (fun (r6 : Int32) (G5 : GS) =>
      if r6 ≤ 0 then
        post 0 G5
      else
        wpX9_spare (fun (r9 : Int32) (G8 : GS) =>
          post r9 G8) a1 G5) a1 G2) a1 G1
set_option maxHeartbeats 4000000 in
set_option maxRecDepth 100000 in
theorem okX9_mintable (X : Cx) (l : Launch) (hfl : l.stackTraces = false) {post : Int32 → GS → Prop} {a1 : Int32} {G : GS}  (hw : wpX9_mintable post a1 G) : CT X l yX9_mintable cX9_mintable 2 (some FieldType.int) 5 0 0 [.ref (xa X 189), .int a1] G (Qi X post) := by
  refine mbegin (by decide) (Nat.le_of_ble_eq_true rfl) (fun p e s m below meth c hx hb hr hml hlk hown hE hz ls hl hP hD hS => ?_)
  have hl : lv_has ls 2 [(0, .ref (xa X 189)), (1, .int a1)] := hl
  have hown : s.vm.findClass "FlyTreasuryModel" = some m.cls := hown
  unfold wpX9_mintable at hw
  refine lv_aload_n hx hb dX9_mintable_0 rfl (lv_at hl 0 rfl) ?_
  refine lv_iconst (v := 0) hx hb dX9_mintable_1 (by decide) ?_
  refine pf_X9_0 hx hb hE hP hD hS hown rfl (hE.w qw_1570 rfl _) dX9_mintable_2 (fun G1 H locs eG1 hP hD hS => ?_)
  replace hw := hw G1 eG1
  refine lv_aload_n hx hb dX9_mintable_5 rfl (lv_at hl 0 rfl) ?_
  refine lv_iload_n hx hb dX9_mintable_6 rfl (lv_at hl 1 rfl) ?_
  refine call_i (run_V (cc := cX9_mintable) (As := [.int a1]) (rest := []) hx hb hml hown hE hz (okX9_isVault X l hfl  hw) qw_1668 qw_1670 qw_27 qw_86 qw_1671 (myX9_isVault) ⟨Nat.le_of_ble_eq_true rfl, Nat.le_of_ble_eq_true rfl⟩ (rv_X9 hE hP rfl) hP hD hS rfl hl.1 rfl (Nat.le_of_ble_eq_true rfl) dX9_mintable_7 ⟨Nat.le_of_ble_eq_true rfl, Nat.le_of_ble_eq_true rfl⟩) hS (fun r3 G2 H locs hw hP hD hS => ?_)
  refine lv_if_ne (tgt := 19) hx hb dX9_mintable_10 (by decide) (fun c4 => ?_) (fun c4 => ?_)
  · replace hw := ite_f hw c4
    refine lv_aload_n hx hb dX9_mintable_19 rfl (lv_at hl 0 rfl) ?_
    refine lv_iload_n hx hb dX9_mintable_20 rfl (lv_at hl 1 rfl) ?_
    refine call_i (run_V (cc := cX9_mintable) (As := [.int a1]) (rest := []) hx hb hml hown hE hz (okX9_spare X l hfl  hw) qw_1699 qw_1701 qw_33 qw_86 qw_1702 (myX9_spare) ⟨Nat.le_of_ble_eq_true rfl, Nat.le_of_ble_eq_true rfl⟩ (rv_X9 hE hP rfl) hP hD hS rfl hl.1 rfl (Nat.le_of_ble_eq_true rfl) dX9_mintable_21 ⟨Nat.le_of_ble_eq_true rfl, Nat.le_of_ble_eq_true rfl⟩) hS (fun r6 G5 H locs hw hP hD hS => ?_)
    refine lv_if_le (tgt := 35) hx hb dX9_mintable_24 (by decide) (fun c7 => ?_) (fun c7 => ?_)
    · replace hw := ite_t hw c7
      refine lv_iconst (v := 0) hx hb dX9_mintable_35 (by decide) ?_
      exact end_i hx hb hr hlk rfl hw hP hD hS dX9_mintable_36
    · replace hw := ite_f hw c7
      refine lv_aload_n hx hb dX9_mintable_27 rfl (lv_at hl 0 rfl) ?_
      refine lv_iload_n hx hb dX9_mintable_28 rfl (lv_at hl 1 rfl) ?_
      refine call_i (run_V (cc := cX9_mintable) (As := [.int a1]) (rest := []) hx hb hml hown hE hz (okX9_spare X l hfl  hw) qw_1699 qw_1701 qw_33 qw_86 qw_1702 (myX9_spare) ⟨Nat.le_of_ble_eq_true rfl, Nat.le_of_ble_eq_true rfl⟩ (rv_X9 hE hP rfl) hP hD hS rfl hl.1 rfl (Nat.le_of_ble_eq_true rfl) dX9_mintable_29 ⟨Nat.le_of_ble_eq_true rfl, Nat.le_of_ble_eq_true rfl⟩) hS (fun r9 G8 H locs hw hP hD hS => ?_)
      refine lv_goto (tgt := 36) hx hb dX9_mintable_32 (by decide) ?_
      exact end_i hx hb hr hlk rfl hw hP hD hS dX9_mintable_36
  · replace hw := ite_t hw c4
    refine lv_aload_n hx hb dX9_mintable_13 rfl (lv_at hl 0 rfl) ?_
    refine lv_iconst (v := 1) hx hb dX9_mintable_14 (by decide) ?_
    refine call_i (run_V (cc := cX9_mintable) (As := [.int 1]) (rest := []) hx hb hml hown hE hz (okX9_fails X l hfl  hw) qw_1636 qw_1638 qw_20 qw_86 qw_1639 (myX9_fails) ⟨Nat.le_of_ble_eq_true rfl, Nat.le_of_ble_eq_true rfl⟩ (rv_X9 hE hP rfl) hP hD hS rfl hl.1 rfl (Nat.le_of_ble_eq_true rfl) dX9_mintable_15 ⟨Nat.le_of_ble_eq_true rfl, Nat.le_of_ble_eq_true rfl⟩) hS (fun r11 G10 H locs hw hP hD hS => ?_)
    exact end_i hx hb hr hlk rfl hw hP hD hS dX9_mintable_18
