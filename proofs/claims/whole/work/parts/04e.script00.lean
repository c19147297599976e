def wpX6_append (post : GS → Prop) (a1 : Int32) (G : GS) : Prop :=
  if 60 ≤ (G.1 168 2) then
  post G
else
  vp_in (G.1 168 2) 60 ∧ ∀ G3 : GS, G3 = gI G 169 ((G.1 168 2).toNatClampNeg) (vp_nar .char a1) →
    ∀ G4 : GS, G4 = gI G3 168 2 ((G3.1 168 2) + 1) →
    post G4
set_option maxHeartbeats 4000000 in
set_option maxRecDepth 100000 in
theorem okX6_append (X : Cx) (l : Launch) (hfl : l.stackTraces = false) {post : GS → Prop} {a1 : Int32} {G : GS}  (hw : wpX6_append post a1 G) : CT X l yX6_append cX6_append 2 none 1 0 0 [.ref (xa X 168), .int a1] G (Qv X post) := by
  refine mbegin (by decide) (Nat.le_of_ble_eq_true rfl) (fun p e s m below meth c hx hb hr hml hlk hown hE hz ls hl hP hD hS => ?_)
  have hl : lv_has ls 2 [(0, .ref (xa X 168)), (1, .int a1)] := hl
  have hown : s.vm.findClass "FlyTreasury$Script" = some m.cls := hown
  unfold wpX6_append at hw
  refine lv_aload_n hx hb dX6_append_0 rfl (lv_at hl 0 rfl) ?_
  refine gf_X6_2 hx hb hE hP hown rfl (hE.w qw_268 rfl _) dX6_append_1 ?_
  refine lv_bipush (v := 60) hx hb dX6_append_4 (by decide) ?_
  refine lv_icmp_ge (tgt := 29) hx hb dX6_append_6 (by decide) (fun c1 => ?_) (fun c1 => ?_)
  · replace hw := ite_t hw c1
    exact end_v hx hb hr hlk hw hP hD hS dX6_append_29
  · replace hw := ite_f hw c1
    refine lv_aload_n hx hb dX6_append_9 rfl (lv_at hl 0 rfl) ?_
    refine gf_X6_0 hx hb hE hP hown rfl (hE.w qw_265 rfl _) dX6_append_10 ?_
    refine lv_aload_n hx hb dX6_append_13 rfl (lv_at hl 0 rfl) ?_
    refine gf_X6_2 hx hb hE hP hown rfl (hE.w qw_268 rfl _) dX6_append_14 ?_
    refine lv_iload_n hx hb dX6_append_17 rfl (lv_at hl 1 rfl) ?_
    obtain ⟨y2, hw⟩ := hw
    refine ast_8 hx hb hE hP hD hS rfl y2 dX6_append_18 (fun G3 H locs eG3 hP hD hS => ?_)
    replace hw := hw G3 eG3
    refine lv_aload_n hx hb dX6_append_19 rfl (lv_at hl 0 rfl) ?_
    refine lv_dup hx hb dX6_append_20 rfl ?_
    refine gf_X6_2 hx hb hE hP hown rfl (hE.w qw_268 rfl _) dX6_append_21 ?_
    refine lv_iconst (v := 1) hx hb dX6_append_24 (by decide) ?_
    refine lv_iadd hx hb dX6_append_25 ?_
    refine pf_X6_2 hx hb hE hP hD hS hown rfl (hE.w qw_268 rfl _) dX6_append_26 (fun G4 H locs eG4 hP hD hS => ?_)
    replace hw := hw G4 eG4
    exact end_v hx hb hr hlk hw hP hD hS dX6_append_29
def wpX6_signAt (post : Int32 → GS → Prop) (a1 : Int32) (G : GS) : Prop :=
  if a1 < 0 then
  post 0 G
else
  if (G.1 168 2) ≤ a1 then
    post 0 G
  else
    if a1 < 60 then
      vp_in a1 60 ∧
        narrow .char (.int (G.1 169 a1.toNatClampNeg)) = .int (G.1 169 a1.toNatClampNeg) ∧ post (G.1 169 a1.toNatClampNeg) G
    else
      post 0 G
set_option maxHeartbeats 4000000 in
set_option maxRecDepth 100000 in
theorem okX6_signAt (X : Cx) (l : Launch) (hfl : l.stackTraces = false) {post : Int32 → GS → Prop} {a1 : Int32} {G : GS}  (hw : wpX6_signAt post a1 G) : CT X l yX6_signAt cX6_signAt 2 (some FieldType.char) 1 0 0 [.ref (xa X 168), .int a1] G (Qi X post) := by
  refine mbegin (by decide) (Nat.le_of_ble_eq_true rfl) (fun p e s m below meth c hx hb hr hml hlk hown hE hz ls hl hP hD hS => ?_)
  have hl : lv_has ls 2 [(0, .ref (xa X 168)), (1, .int a1)] := hl
  have hown : s.vm.findClass "FlyTreasury$Script" = some m.cls := hown
  unfold wpX6_signAt at hw
  refine lv_iload_n hx hb dX6_signAt_0 rfl (lv_at hl 1 rfl) ?_
  refine lv_if_lt (tgt := 18) hx hb dX6_signAt_1 (by decide) (fun c1 => ?_) (fun c1 => ?_)
  · replace hw := ite_t hw c1
    refine lv_iconst (v := 0) hx hb dX6_signAt_18 (by decide) ?_
    refine lv_goto (tgt := 28) hx hb dX6_signAt_19 (by decide) ?_
    exact end_i hx hb hr hlk (by decide) hw hP hD hS dX6_signAt_28
  · replace hw := ite_f hw c1
    refine lv_iload_n hx hb dX6_signAt_4 rfl (lv_at hl 1 rfl) ?_
    refine lv_aload_n hx hb dX6_signAt_5 rfl (lv_at hl 0 rfl) ?_
    refine gf_X6_2 hx hb hE hP hown rfl (hE.w qw_268 rfl _) dX6_signAt_6 ?_
    refine lv_icmp_ge (tgt := 18) hx hb dX6_signAt_9 (by decide) (fun c2 => ?_) (fun c2 => ?_)
    · replace hw := ite_t hw c2
      refine lv_iconst (v := 0) hx hb dX6_signAt_18 (by decide) ?_
      refine lv_goto (tgt := 28) hx hb dX6_signAt_19 (by decide) ?_
      exact end_i hx hb hr hlk (by decide) hw hP hD hS dX6_signAt_28
    · replace hw := ite_f hw c2
      refine lv_iload_n hx hb dX6_signAt_12 rfl (lv_at hl 1 rfl) ?_
      refine lv_bipush (v := 60) hx hb dX6_signAt_13 (by decide) ?_
      refine lv_icmp_lt (tgt := 22) hx hb dX6_signAt_15 (by decide) (fun c3 => ?_) (fun c3 => ?_)
      · replace hw := ite_t hw c3
        refine lv_aload_n hx hb dX6_signAt_22 rfl (lv_at hl 0 rfl) ?_
        refine gf_X6_0 hx hb hE hP hown rfl (hE.w qw_265 rfl _) dX6_signAt_23 ?_
        refine lv_iload_n hx hb dX6_signAt_26 rfl (lv_at hl 1 rfl) ?_
        obtain ⟨y4, hw⟩ := hw
        refine ald_8 hx hb hE hP rfl y4 dX6_signAt_27 ?_
        obtain ⟨y5, hw⟩ := hw
        exact end_i hx hb hr hlk y5 hw hP hD hS dX6_signAt_28
      · replace hw := ite_f hw c3
        refine lv_iconst (v := 0) hx hb dX6_signAt_18 (by decide) ?_
        refine lv_goto (tgt := 28) hx hb dX6_signAt_19 (by decide) ?_
        exact end_i hx hb hr hlk (by decide) hw hP hD hS dX6_signAt_28
def wlX6_fitOf_2 (post : Int32 → GS → Prop) (k1 : Nat) : Nat → GS → Int32 → Prop
  | 0, _, _ => False
  | n + 1, G, v2 =>
    wpJ0_length_8abf5 (fun (r2 : Int32) (G1 : GS) =>
  if r2 ≤ v2 then
    post v2 G1
  else
    wpX6_signAt (fun (r5 : Int32) (G4 : GS) =>
      wpJ0_charAt_5068e (fun (r7 : Int32) (G6 : GS) =>
        if r5 = r7 then
          ∀ z9 : Int32, z9 = v2 + 1 →
            wlX6_fitOf_2 post k1 n G6 z9
        else
          post v2 G6) k1 v2 G4) ((G1.1 168 3) + v2) G1) k1 G
def wpX6_fitOf (post : Int32 → GS → Prop) (k1 : Nat) (G : GS) : Prop :=
  ∃ nn, wlX6_fitOf_2 post k1 nn G 0
set_option maxHeartbeats 4000000 in
set_option maxRecDepth 100000 in
theorem okX6_fitOf (X : Cx) (l : Launch) (hfl : l.stackTraces = false) {post : Int32 → GS → Prop} {k1 : Nat} {G : GS} (h1 : k1 < 37) (hw : wpX6_fitOf post k1 G) : CT X l yX6_fitOf cX6_fitOf 3 (some FieldType.int) 5 0 0 [.ref (xa X 168), .ref (xk X 2 k1)] G (Qi X post) := by
  refine mbegin (by decide) (Nat.le_of_ble_eq_true rfl) (fun p e s m below meth c hx hb hr hml hlk hown hE hz ls hl hP hD hS => ?_)
  have hl : lv_has ls 3 [(0, .ref (xa X 168)), (1, .ref (xk X 2 k1))] := hl
  have hown : s.vm.findClass "FlyTreasury$Script" = some m.cls := hown
  have L2 : ∀ (n2 : Nat) (G : GS) (v2 : Int32) (H : Heap) (locs : List Loc) (ls : Array Slot), wlX6_fitOf_2 post k1 n2 G v2 → va_P (xD X) vwCl (pool X G) H → va_D (xA X) (pool X G) → va_S (xA X) s.heap H locs → lv_has ls 3 [(0, .ref (xa X 168)), (1, .ref (xk X 2 k1)), (2, .int v2)] → W p l e (rmL 5 0 0) s m [.ref (xa X 168), .ref (xk X 2 k1)].toArray below meth c H locs 0 0 (MQ below (Qi X post) [.ref (xa X 168), .ref (xk X 2 k1)].toArray s 0 0 (xA X)) (F0 m 2 ls []) := by
    intro n2
    induction n2 with
    | zero => intro G v2  H locs ls hw; exact hw.elim
    | succ n2 ih2 =>
      intro G v2  H locs ls hw hP hD hS hl
      rw [wlX6_fitOf_2] at hw
      refine lv_iload_n hx hb dX6_fitOf_2 rfl (lv_at hl 2 rfl) ?_
      refine lv_aload_n hx hb dX6_fitOf_3 rfl (lv_at hl 1 rfl) ?_
      refine call_i (run_V (cc := cX6_fitOf) (As := []) (rest := [.int v2]) hx hb hml hown hE hz (okJ0_length_8abf5 X l hfl h1 hw) qw_1470 qw_543 qw_544 qw_84 qw_545 (myJ0_length_8abf5) ⟨Nat.le_of_ble_eq_true rfl, Nat.le_of_ble_eq_true rfl⟩ (vk_recv hE.S h1 hS) hP hD hS rfl hl.1 rfl (Nat.le_of_ble_eq_true rfl) dX6_fitOf_4 ⟨Nat.le_of_ble_eq_true rfl, Nat.le_of_ble_eq_true rfl⟩) hS (fun r11 G10 H locs hw hP hD hS => ?_)
      refine lv_icmp_ge (tgt := 34) hx hb dX6_fitOf_7 (by decide) (fun c12 => ?_) (fun c12 => ?_)
      · replace hw := ite_t hw c12
        refine lv_iload_n hx hb dX6_fitOf_34 rfl (lv_at hl 2 rfl) ?_
        exact end_i hx hb hr hlk rfl hw hP hD hS dX6_fitOf_35
      · replace hw := ite_f hw c12
        refine lv_aload_n hx hb dX6_fitOf_10 rfl (lv_at hl 0 rfl) ?_
        refine lv_aload_n hx hb dX6_fitOf_11 rfl (lv_at hl 0 rfl) ?_
        refine gf_X6_3 hx hb hE hP hown rfl (hE.w qw_270 rfl _) dX6_fitOf_12 ?_
        refine lv_iload_n hx hb dX6_fitOf_15 rfl (lv_at hl 2 rfl) ?_
        refine lv_iadd hx hb dX6_fitOf_16 ?_
        refine call_i (run_V (cc := cX6_fitOf) (As := [.int ((G10.1 168 3) + v2)]) (rest := []) hx hb hml hown hE hz (okX6_signAt X l hfl  hw) qw_1471 qw_1473 qw_9 qw_78 qw_1474 (myX6_signAt) ⟨Nat.le_of_ble_eq_true rfl, Nat.le_of_ble_eq_true rfl⟩ (rv_X6 hE hP rfl) hP hD hS rfl hl.1 rfl (Nat.le_of_ble_eq_true rfl) dX6_fitOf_17 ⟨Nat.le_of_ble_eq_true rfl, Nat.le_of_ble_eq_true rfl⟩) hS (fun r14 G13 H locs hw hP hD hS => ?_)
        refine lv_aload_n hx hb dX6_fitOf_20 rfl (lv_at hl 1 rfl) ?_
        refine lv_iload_n hx hb dX6_fitOf_21 rfl (lv_at hl 2 rfl) ?_
        refine call_i (run_V (cc := cX6_fitOf) (As := [.int v2]) (rest := [.int r14]) hx hb hml hown hE hz (okJ0_charAt_5068e X l hfl h1 hw) qw_1475 qw_821 qw_822 qw_84 qw_823 (myJ0_charAt_5068e) ⟨Nat.le_of_ble_eq_true rfl, Nat.le_of_ble_eq_true rfl⟩ (vk_recv hE.S h1 hS) hP hD hS rfl hl.1 rfl (Nat.le_of_ble_eq_true rfl) dX6_fitOf_22 ⟨Nat.le_of_ble_eq_true rfl, Nat.le_of_ble_eq_true rfl⟩) hS (fun r16 G15 H locs hw hP hD hS => ?_)
        refine lv_icmp_ne (tgt := 34) hx hb dX6_fitOf_25 (by decide) (fun c17 => ?_) (fun c17 => ?_)
        · replace hw := ite_f hw c17
          refine lv_iload_n hx hb dX6_fitOf_34 rfl (lv_at hl 2 rfl) ?_
          exact end_i hx hb hr hlk rfl hw hP hD hS dX6_fitOf_35
        · replace hw := ite_t hw c17
          obtain ⟨z18, ez18⟩ : ∃ y : Int32, y = v2 + 1 := ⟨_, rfl⟩
          replace hw := hw z18 ez18
          refine lv_iinc (v := z18) (lv' := [(2, .int z18), (0, .ref (xa X 168)), (1, .ref (xk X 2 k1))]) hx hb dX6_fitOf_28 hl (k := 2) rfl (by rw [ez18]; rfl) (by decide) rfl (fun ls hl => ?_)
          refine lv_goto (tgt := 2) hx hb dX6_fitOf_31 (by decide) ?_
          exact ih2 G15 z18  _ _ _ hw hP hD hS (lv_sub hl [1, 2, 0] rfl)
  unfold wpX6_fitOf at hw
  refine lv_iconst (v := 0) hx hb dX6_fitOf_0 (by decide) ?_
  refine lv_istore_n (lv' := [(2, .int 0), (0, .ref (xa X 168)), (1, .ref (xk X 2 k1))]) hx hb dX6_fitOf_1 rfl hl (by decide) rfl (fun ls hl => ?_)
  obtain ⟨nn, hw⟩ := hw
  exact L2 nn G 0  _ _ _ hw hP hD hS (lv_sub hl [1, 2, 0] rfl)
def wlX6_readWord_13 (post : Int32 → GS → Prop) (q1 : Nat) : Nat → GS → Int32 → Int32 → Int32 → Prop
  | 0, _, _, _, _ => False
  | n + 1, G, v2, v4, v5 =>
    if v4 ≤ v5 then
  ∀ G2 : GS, G2 = gI G 168 3 ((G.1 168 3) + v2) →
    post 0 G2
else
  vp_in v5 10 ∧
    wpX6_fitOf (fun (r5 : Int32) (G4 : GS) =>
    wpJ0_length_8abf5 (fun (r7 : Int32) (G6 : GS) =>
      if r5 = r7 then
        ∀ G11 : GS, G11 = gI G6 q1 0 (nI v5.toNatClampNeg) →
          ∀ G12 : GS, G12 = gI G11 168 3 ((G11.1 168 3) + r5) →
          post 1 G12
      else
        ∀ z9 : Int32, z9 = (if v2 < r5 then r5 else v2) →
          ∀ z10 : Int32, z10 = v5 + 1 →
          wlX6_readWord_13 post q1 n G6 z9 v4 z10) (CWl.getD v5.toNatClampNeg 0) G4) (CWl.getD v5.toNatClampNeg 0) G
def wpX6_readWord (post : Int32 → GS → Prop) (q1 : Nat) (G : GS) : Prop :=
  ∃ nn, wlX6_readWord_13 post q1 nn G 0 10 0
set_option maxHeartbeats 4000000 in
set_option maxRecDepth 100000 in
theorem okX6_readWord (X : Cx) (l : Launch) (hfl : l.stackTraces = false) {post : Int32 → GS → Prop} {q1 : Nat} {G : GS} (h1 : kd q1 = 10) (hw : wpX6_readWord post q1 G) : CT X l yX6_readWord cX6_readWord 8 (some FieldType.boolean) 6 0 0 [.ref (xa X 168), .ref (xa X q1)] G (Qi X post) := by
  refine mbegin (by decide) (Nat.le_of_ble_eq_true rfl) (fun p e s m below meth c hx hb hr hml hlk hown hE hz ls hl hP hD hS => ?_)
  have hl : lv_has ls 8 [(0, .ref (xa X 168)), (1, .ref (xa X q1))] := hl
  have hown : s.vm.findClass "FlyTreasury$Script" = some m.cls := hown
  have L13 : ∀ (n13 : Nat) (G : GS) (v2 : Int32) (v4 : Int32) (v5 : Int32) (H : Heap) (locs : List Loc) (ls : Array Slot), wlX6_readWord_13 post q1 n13 G v2 v4 v5 → va_P (xD X) vwCl (pool X G) H → va_D (xA X) (pool X G) → va_S (xA X) s.heap H locs → lv_has ls 8 [(0, .ref (xa X 168)), (1, .ref (xa X q1)), (2, .int v2), (3, .ref (xk X 4 2)), (4, .int v4), (5, .int v5)] → W p l e (rmL 6 0 0) s m [.ref (xa X 168), .ref (xa X q1)].toArray below meth c H locs 0 0 (MQ below (Qi X post) [.ref (xa X 168), .ref (xa X q1)].toArray s 0 0 (xA X)) (F0 m 13 ls []) := by
    intro n13
    induction n13 with
    | zero => intro G v2 v4 v5  H locs ls hw; exact hw.elim
    | succ n13 ih13 =>
      intro G v2 v4 v5  H locs ls hw hP hD hS hl
      rw [wlX6_readWord_13] at hw
      refine lv_iload hx hb dX6_readWord_13 (lv_at hl 5 rfl) ?_
      refine lv_iload hx hb dX6_readWord_15 (lv_at hl 4 rfl) ?_
      refine lv_icmp_ge (tgt := 82) hx hb dX6_readWord_17 (by decide) (fun c13 => ?_) (fun c13 => ?_)
      · replace hw := ite_t hw c13
        refine lv_aload_n hx hb dX6_readWord_82 rfl (lv_at hl 0 rfl) ?_
        refine lv_dup hx hb dX6_readWord_83 rfl ?_
        refine gf_X6_3 hx hb hE hP hown rfl (hE.w qw_270 rfl _) dX6_readWord_84 ?_
        refine lv_iload_n hx hb dX6_readWord_87 rfl (lv_at hl 2 rfl) ?_
        refine lv_iadd hx hb dX6_readWord_88 ?_
        refine pf_X6_3 hx hb hE hP hD hS hown rfl (hE.w qw_270 rfl _) dX6_readWord_89 (fun G14 H locs eG14 hP hD hS => ?_)
        replace hw := hw G14 eG14
        refine lv_iconst (v := 0) hx hb dX6_readWord_92 (by decide) ?_
        exact end_i hx hb hr hlk (by decide) hw hP hD hS dX6_readWord_93
      · replace hw := ite_f hw c13
        refine lv_aload_n hx hb dX6_readWord_20 rfl (lv_at hl 3 rfl) ?_
        refine lv_iload hx hb dX6_readWord_21 (lv_at hl 5 rfl) ?_
        obtain ⟨y15, hw⟩ := hw
        refine va_tr hx hb hE.tM hS y15 rfl dX6_readWord_23 ?_
        refine lv_astore (lv' := [(6, .ref (xk X 1 v5.toNatClampNeg)), (0, .ref (xa X 168)), (1, .ref (xa X q1)), (2, .int v2), (3, .ref (xk X 4 2)), (4, .int v4), (5, .int v5)]) hx hb dX6_readWord_24 hl (by decide) rfl (fun ls hl => ?_)
        refine lv_aload_n hx hb dX6_readWord_26 rfl (lv_at hl 1 rfl) ?_
        refine lv_aload hx hb dX6_readWord_27 (lv_at hl 0 rfl) ?_
        refine vk_getfN hx hb (en_word hE (vin_lt y15)) hS hown (hE.w qw_2105 rfl _) (fun _ h9 => h9) dX6_readWord_29 ?_
        refine call_i (run_V (cc := cX6_readWord) (As := [.ref (xk X 2 (CWl.getD v5.toNatClampNeg 0))]) (rest := []) hx hb hml hown hE hz (okX6_fitOf X l hfl (lit_word (vin_lt y15)) hw) qw_1466 qw_1468 qw_8 qw_78 qw_1469 (myX6_fitOf) ⟨Nat.le_of_ble_eq_true rfl, Nat.le_of_ble_eq_true rfl⟩ (rv_X6 hE hP rfl) hP hD hS rfl hl.1 rfl (Nat.le_of_ble_eq_true rfl) dX6_readWord_32 ⟨Nat.le_of_ble_eq_true rfl, Nat.le_of_ble_eq_true rfl⟩) hS (fun r17 G16 H locs hw hP hD hS => ?_)
        refine lv_istore (lv' := [(7, .int r17), (6, .ref (xk X 1 v5.toNatClampNeg)), (0, .ref (xa X 168)), (1, .ref (xa X q1)), (2, .int v2), (3, .ref (xk X 4 2)), (4, .int v4), (5, .int v5)]) hx hb dX6_readWord_35 hl (by decide) rfl (fun ls hl => ?_)
        refine lv_iload hx hb dX6_readWord_37 (lv_at hl 0 rfl) ?_
        refine lv_aload hx hb dX6_readWord_39 (lv_at hl 1 rfl) ?_
        refine vk_getfN hx hb (en_word hE (vin_lt y15)) hS hown (hE.w qw_2105 rfl _) (fun _ h9 => h9) dX6_readWord_41 ?_
        refine call_i (run_V (cc := cX6_readWord) (As := []) (rest := [.int r17]) hx hb hml hown hE hz (okJ0_length_8abf5 X l hfl (lit_word (vin_lt y15)) hw) qw_1470 qw_543 qw_544 qw_84 qw_545 (myJ0_length_8abf5) ⟨Nat.le_of_ble_eq_true rfl, Nat.le_of_ble_eq_true rfl⟩ (vk_recv hE.S (lit_word (vin_lt y15)) hS) hP hD hS rfl hl.1 rfl (Nat.le_of_ble_eq_true rfl) dX6_readWord_44 ⟨Nat.le_of_ble_eq_true rfl, Nat.le_of_ble_eq_true rfl⟩) hS (fun r19 G18 H locs hw hP hD hS => ?_)
        refine lv_icmp_ne (tgt := 69) hx hb dX6_readWord_47 (by decide) (fun c20 => ?_) (fun c20 => ?_)
        · replace hw := ite_f hw c20
          refine lv_iload_n hx hb dX6_readWord_69 rfl (lv_at hl 4 rfl) ?_
          refine lv_iload hx hb dX6_readWord_70 (lv_at hl 0 rfl) ?_
          refine va_mmax hx hb (hml.trans hl.1.symm) hown (hE.w qw_1476 rfl _) (hE.w qw_438 rfl _) (hE.w qw_97 rfl _) (hE.w qw_439 rfl _) (Nat.le_of_ble_eq_true rfl) (Nat.le_of_ble_eq_true rfl) (Nat.le_of_ble_eq_true rfl) (Nat.le_of_ble_eq_true rfl) dX6_readWord_72 ?_
          refine lv_topi (fun z21 ez21 => ?_)
          replace hw := hw z21 ez21
          refine lv_istore_n (lv' := [(2, .int z21), (7, .int r17), (6, .ref (xk X 1 v5.toNatClampNeg)), (0, .ref (xa X 168)), (1, .ref (xa X q1)), (3, .ref (xk X 4 2)), (4, .int v4), (5, .int v5)]) hx hb dX6_readWord_75 rfl hl (by decide) rfl (fun ls hl => ?_)
          obtain ⟨z22, ez22⟩ : ∃ y : Int32, y = v5 + 1 := ⟨_, rfl⟩
          replace hw := hw z22 ez22
          refine lv_iinc (v := z22) (lv' := [(5, .int z22), (2, .int z21), (7, .int r17), (6, .ref (xk X 1 v5.toNatClampNeg)), (0, .ref (xa X 168)), (1, .ref (xa X q1)), (3, .ref (xk X 4 2)), (4, .int v4)]) hx hb dX6_readWord_76 hl (k := 7) rfl (by rw [ez22]; rfl) (by decide) rfl (fun ls hl => ?_)
          refine lv_goto (tgt := 13) hx hb dX6_readWord_79 (by decide) ?_
          exact ih13 G18 z21 v4 z22  _ _ _ hw hP hD hS (lv_sub hl [4, 5, 1, 6, 7, 0] rfl)
        · replace hw := ite_t hw c20
          refine lv_aload_n hx hb dX6_readWord_50 rfl (lv_at hl 3 rfl) ?_
          refine lv_aload hx hb dX6_readWord_51 (lv_at hl 1 rfl) ?_
          refine pn_X4_0 hx hb hE hP hD hS hown h1 (hE.w qw_239 rfl _) (i := v5.toNatClampNeg) (vin_lt y15) dX6_readWord_53 (fun G23 H locs eG23 hP hD hS => ?_)
          replace hw := hw G23 eG23
          refine lv_aload_n hx hb dX6_readWord_56 rfl (lv_at hl 2 rfl) ?_
          refine lv_dup hx hb dX6_readWord_57 rfl ?_
          refine gf_X6_3 hx hb hE hP hown rfl (hE.w qw_270 rfl _) dX6_readWord_58 ?_
          refine lv_iload hx hb dX6_readWord_61 (lv_at hl 0 rfl) ?_
          refine lv_iadd hx hb dX6_readWord_63 ?_
          refine pf_X6_3 hx hb hE hP hD hS hown rfl (hE.w qw_270 rfl _) dX6_readWord_64 (fun G24 H locs eG24 hP hD hS => ?_)
          replace hw := hw G24 eG24
          refine lv_iconst (v := 1) hx hb dX6_readWord_67 (by decide) ?_
          exact end_i hx hb hr hlk (by decide) hw hP hD hS dX6_readWord_68
  unfold wpX6_readWord at hw
  refine lv_iconst (v := 0) hx hb dX6_readWord_0 (by decide) ?_
  refine lv_istore_n (lv' := [(2, .int 0), (0, .ref (xa X 168)), (1, .ref (xa X q1))]) hx hb dX6_readWord_1 rfl hl (by decide) rfl (fun ls hl => ?_)
  refine va_getsN hx hb hE.zM hS hown (hE.w qw_1464 rfl _) (fun _ h9 => h9) dX6_readWord_2 ?_
  refine lv_astore_n (lv' := [(3, .ref (xk X 4 2)), (2, .int 0), (0, .ref (xa X 168)), (1, .ref (xa X q1))]) hx hb dX6_readWord_5 rfl hl (by decide) rfl (fun ls hl => ?_)
  refine lv_aload_n hx hb dX6_readWord_6 rfl (lv_at hl 0 rfl) ?_
  refine va_tlen hx hb hE.tM hS rfl dX6_readWord_7 ?_
  refine lv_istore (lv' := [(4, .int 10), (3, .ref (xk X 4 2)), (2, .int 0), (0, .ref (xa X 168)), (1, .ref (xa X q1))]) hx hb dX6_readWord_8 hl (by decide) rfl (fun ls hl => ?_)
  refine lv_iconst (v := 0) hx hb dX6_readWord_10 (by decide) ?_
  refine lv_istore (lv' := [(5, .int 0), (4, .int 10), (3, .ref (xk X 4 2)), (2, .int 0), (0, .ref (xa X 168)), (1, .ref (xa X q1))]) hx hb dX6_readWord_11 hl (by decide) rfl (fun ls hl => ?_)
  obtain ⟨nn, hw⟩ := hw
  exact L13 nn G 0 10 0  _ _ _ hw hP hD hS (lv_sub hl [4, 5, 3, 2, 1, 0] rfl)
def wpX6_readSign (post : Int32 → GS → Prop) (a1 : Int32) (G : GS) : Prop :=
  wpX6_signAt (fun (r2 : Int32) (G1 : GS) =>
  if r2 = a1 then
    ∀ G4 : GS, G4 = gI G1 168 3 ((G1.1 168 3) + 1) →
      post 1 G4
  else
    post 0 G1) (G.1 168 3) G
set_option maxHeartbeats 4000000 in
set_option maxRecDepth 100000 in
theorem okX6_readSign (X : Cx) (l : Launch) (hfl : l.stackTraces = false) {post : Int32 → GS → Prop} {a1 : Int32} {G : GS}  (hw : wpX6_readSign post a1 G) : CT X l yX6_readSign cX6_readSign 2 (some FieldType.boolean) 2 0 0 [.ref (xa X 168), .int a1] G (Qi X post) := by
  refine mbegin (by decide) (Nat.le_of_ble_eq_true rfl) (fun p e s m below meth c hx hb hr hml hlk hown hE hz ls hl hP hD hS => ?_)
  have hl : lv_has ls 2 [(0, .ref (xa X 168)), (1, .int a1)] := hl
  have hown : s.vm.findClass "FlyTreasury$Script" = some m.cls := hown
  unfold wpX6_readSign at hw
  refine lv_aload_n hx hb dX6_readSign_0 rfl (lv_at hl 0 rfl) ?_
  refine lv_aload_n hx hb dX6_readSign_1 rfl (lv_at hl 0 rfl) ?_
  refine gf_X6_3 hx hb hE hP hown rfl (hE.w qw_270 rfl _) dX6_readSign_2 ?_
  refine call_i (run_V (cc := cX6_readSign) (As := [.int (G.1 168 3)]) (rest := []) hx hb hml hown hE hz (okX6_signAt X l hfl  hw) qw_1471 qw_1473 qw_9 qw_78 qw_1474 (myX6_signAt) ⟨Nat.le_of_ble_eq_true rfl, Nat.le_of_ble_eq_true rfl⟩ (rv_X6 hE hP rfl) hP hD hS rfl hl.1 rfl (Nat.le_of_ble_eq_true rfl) dX6_readSign_5 ⟨Nat.le_of_ble_eq_true rfl, Nat.le_of_ble_eq_true rfl⟩) hS (fun r2 G1 H locs hw hP hD hS => ?_)
  refine lv_iload_n hx hb dX6_readSign_8 rfl (lv_at hl 1 rfl) ?_
  refine lv_icmp_eq (tgt := 14) hx hb dX6_readSign_9 (by decide) (fun c3 => ?_) (fun c3 => ?_)
  · replace hw := ite_t hw c3
    refine lv_aload_n hx hb dX6_readSign_14 rfl (lv_at hl 0 rfl) ?_
    refine lv_dup hx hb dX6_readSign_15 rfl ?_
    refine gf_X6_3 hx hb hE hP hown rfl (hE.w qw_270 rfl _) dX6_readSign_16 ?_
    refine lv_iconst (v := 1) hx hb dX6_readSign_19 (by decide) ?_
    refine lv_iadd hx hb dX6_readSign_20 ?_
    refine pf_X6_3 hx hb hE hP hD hS hown rfl (hE.w qw_270 rfl _) dX6_readSign_21 (fun G4 H locs eG4 hP hD hS => ?_)
    replace hw := hw G4 eG4
    refine lv_iconst (v := 1) hx hb dX6_readSign_24 (by decide) ?_
    exact end_i hx hb hr hlk (by decide) hw hP hD hS dX6_readSign_25
  · replace hw := ite_f hw c3
    refine lv_iconst (v := 0) hx hb dX6_readSign_12 (by decide) ?_
    exact end_i hx hb hr hlk (by decide) hw hP hD hS dX6_readSign_13
def wpX6_readDigit (post : Int32 → GS → Prop) (G : GS) : Prop :=
  wpX6_signAt (fun (r2 : Int32) (G1 : GS) =>
  if r2 < 48 then
    post (-1) G1
  else
    if r2 ≤ 57 then
      ∀ G5 : GS, G5 = gI G1 168 3 ((G1.1 168 3) + 1) →
        post (r2 - 48) G5
    else
      post (-1) G1) (G.1 168 3) G
set_option maxHeartbeats 4000000 in
set_option maxRecDepth 100000 in
theorem okX6_readDigit (X : Cx) (l : Launch) (hfl : l.stackTraces = false) {post : Int32 → GS → Prop}  {G : GS}  (hw : wpX6_readDigit post G) : CT X l yX6_readDigit cX6_readDigit 2 (some FieldType.int) 2 0 0 [.ref (xa X 168)] G (Qi X post) := by
  refine mbegin (by decide) (Nat.le_of_ble_eq_true rfl) (fun p e s m below meth c hx hb hr hml hlk hown hE hz ls hl hP hD hS => ?_)
  have hl : lv_has ls 2 [(0, .ref (xa X 168))] := hl
  have hown : s.vm.findClass "FlyTreasury$Script" = some m.cls := hown
  unfold wpX6_readDigit at hw
  refine lv_aload_n hx hb dX6_readDigit_0 rfl (lv_at hl 0 rfl) ?_
  refine lv_aload_n hx hb dX6_readDigit_1 rfl (lv_at hl 0 rfl) ?_
  refine gf_X6_3 hx hb hE hP hown rfl (hE.w qw_270 rfl _) dX6_readDigit_2 ?_
  refine call_i (run_V (cc := cX6_readDigit) (As := [.int (G.1 168 3)]) (rest := []) hx hb hml hown hE hz (okX6_signAt X l hfl  hw) qw_1471 qw_1473 qw_9 qw_78 qw_1474 (myX6_signAt) ⟨Nat.le_of_ble_eq_true rfl, Nat.le_of_ble_eq_true rfl⟩ (rv_X6 hE hP rfl) hP hD hS rfl hl.1 rfl (Nat.le_of_ble_eq_true rfl) dX6_readDigit_5 ⟨Nat.le_of_ble_eq_true rfl, Nat.le_of_ble_eq_true rfl⟩) hS (fun r2 G1 H locs hw hP hD hS => ?_)
  refine lv_istore_n (lv' := [(1, .int r2), (0, .ref (xa X 168))]) hx hb dX6_readDigit_8 rfl hl (by decide) rfl (fun ls hl => ?_)
  refine lv_iload_n hx hb dX6_readDigit_9 rfl (lv_at hl 0 rfl) ?_
  refine lv_bipush (v := 48) hx hb dX6_readDigit_10 (by decide) ?_
  refine lv_icmp_lt (tgt := 21) hx hb dX6_readDigit_12 (by decide) (fun c3 => ?_) (fun c3 => ?_)
  · replace hw := ite_t hw c3
    refine lv_iconst (v := -1) hx hb dX6_readDigit_21 (by decide) ?_
    exact end_i hx hb hr hlk rfl hw hP hD hS dX6_readDigit_22
  · replace hw := ite_f hw c3
    refine lv_iload_n hx hb dX6_readDigit_15 rfl (lv_at hl 0 rfl) ?_
    refine lv_bipush (v := 57) hx hb dX6_readDigit_16 (by decide) ?_
    refine lv_icmp_le (tgt := 23) hx hb dX6_readDigit_18 (by decide) (fun c4 => ?_) (fun c4 => ?_)
    · replace hw := ite_t hw c4
      refine lv_aload_n hx hb dX6_readDigit_23 rfl (lv_at hl 1 rfl) ?_
      refine lv_dup hx hb dX6_readDigit_24 rfl ?_
      refine gf_X6_3 hx hb hE hP hown rfl (hE.w qw_270 rfl _) dX6_readDigit_25 ?_
      refine lv_iconst (v := 1) hx hb dX6_readDigit_28 (by decide) ?_
      refine lv_iadd hx hb dX6_readDigit_29 ?_
      refine pf_X6_3 hx hb hE hP hD hS hown rfl (hE.w qw_270 rfl _) dX6_readDigit_30 (fun G5 H locs eG5 hP hD hS => ?_)
      replace hw := hw G5 eG5
      refine lv_iload_n hx hb dX6_readDigit_33 rfl (lv_at hl 0 rfl) ?_
      refine lv_bipush (v := 48) hx hb dX6_readDigit_34 (by decide) ?_
      refine lv_isub hx hb dX6_readDigit_36 ?_
      exact end_i hx hb hr hlk rfl hw hP hD hS dX6_readDigit_37
    · replace hw := ite_f hw c4
      refine lv_iconst (v := -1) hx hb dX6_readDigit_21 (by decide) ?_
      exact end_i hx hb hr hlk rfl hw hP hD hS dX6_readDigit_22
def wpX6_readNumber (post : Int32 → GS → Prop) (G : GS) : Prop :=
  wpX6_readDigit (fun (r2 : Int32) (G1 : GS) =>
  if 0 ≤ r2 then
    wpX6_readDigit (fun (r5 : Int32) (G4 : GS) =>
      if 0 ≤ r5 then
        post ((10 * r2) + r5) G4
      else
        post r2 G4)  G1
  else
    post (-1) G1)  G
set_option maxHeartbeats 4000000 in
set_option maxRecDepth 100000 in
theorem okX6_readNumber (X : Cx) (l : Launch) (hfl : l.stackTraces = false) {post : Int32 → GS → Prop}  {G : GS}  (hw : wpX6_readNumber post G) : CT X l yX6_readNumber cX6_readNumber 3 (some FieldType.int) 3 0 0 [.ref (xa X 168)] G (Qi X post) := by
  refine mbegin (by decide) (Nat.le_of_ble_eq_true rfl) (fun p e s m below meth c hx hb hr hml hlk hown hE hz ls hl hP hD hS => ?_)
  have hl : lv_has ls 3 [(0, .ref (xa X 168))] := hl
  have hown : s.vm.findClass "FlyTreasury$Script" = some m.cls := hown
  unfold wpX6_readNumber at hw
  refine lv_aload_n hx hb dX6_readNumber_0 rfl (lv_at hl 0 rfl) ?_
  refine call_i (run_V (cc := cX6_readNumber) (As := []) (rest := []) hx hb hml hown hE hz (okX6_readDigit X l hfl  hw) qw_1490 qw_1492 qw_13 qw_78 qw_1493 (myX6_readDigit) ⟨Nat.le_of_ble_eq_true rfl, Nat.le_of_ble_eq_true rfl⟩ (rv_X6 hE hP rfl) hP hD hS rfl hl.1 rfl (Nat.le_of_ble_eq_true rfl) dX6_readNumber_1 ⟨Nat.le_of_ble_eq_true rfl, Nat.le_of_ble_eq_true rfl⟩) hS (fun r2 G1 H locs hw hP hD hS => ?_)
  refine lv_istore_n (lv' := [(1, .int r2), (0, .ref (xa X 168))]) hx hb dX6_readNumber_4 rfl hl (by decide) rfl (fun ls hl => ?_)
  refine lv_iload_n hx hb dX6_readNumber_5 rfl (lv_at hl 0 rfl) ?_
  refine lv_if_ge (tgt := 11) hx hb dX6_readNumber_6 (by decide) (fun c3 => ?_) (fun c3 => ?_)
  · replace hw := ite_t hw c3
    refine lv_aload_n hx hb dX6_readNumber_11 rfl (lv_at hl 1 rfl) ?_
    refine call_i (run_V (cc := cX6_readNumber) (As := []) (rest := []) hx hb hml hown hE hz (okX6_readDigit X l hfl  hw) qw_1490 qw_1492 qw_13 qw_78 qw_1493 (myX6_readDigit) ⟨Nat.le_of_ble_eq_true rfl, Nat.le_of_ble_eq_true rfl⟩ (rv_X6 hE hP rfl) hP hD hS rfl hl.1 rfl (Nat.le_of_ble_eq_true rfl) dX6_readNumber_12 ⟨Nat.le_of_ble_eq_true rfl, Nat.le_of_ble_eq_true rfl⟩) hS (fun r5 G4 H locs hw hP hD hS => ?_)
    refine lv_istore_n (lv' := [(2, .int r5), (1, .int r2), (0, .ref (xa X 168))]) hx hb dX6_readNumber_15 rfl hl (by decide) rfl (fun ls hl => ?_)
    refine lv_iload_n hx hb dX6_readNumber_16 rfl (lv_at hl 0 rfl) ?_
    refine lv_if_ge (tgt := 24) hx hb dX6_readNumber_17 (by decide) (fun c6 => ?_) (fun c6 => ?_)
    · replace hw := ite_t hw c6
      refine lv_bipush (v := 10) hx hb dX6_readNumber_24 (by decide) ?_
      refine lv_iload_n hx hb dX6_readNumber_26 rfl (lv_at hl 1 rfl) ?_
      refine lv_imul hx hb dX6_readNumber_27 ?_
      refine lv_iload_n hx hb dX6_readNumber_28 rfl (lv_at hl 0 rfl) ?_
      refine lv_iadd hx hb dX6_readNumber_29 ?_
      exact end_i hx hb hr hlk rfl hw hP hD hS dX6_readNumber_30
    · replace hw := ite_f hw c6
      refine lv_iload_n hx hb dX6_readNumber_20 rfl (lv_at hl 1 rfl) ?_
      refine lv_goto (tgt := 30) hx hb dX6_readNumber_21 (by decide) ?_
      exact end_i hx hb hr hlk rfl hw hP hD hS dX6_readNumber_30
  · replace hw := ite_f hw c3
    refine lv_iconst (v := -1) hx hb dX6_readNumber_9 (by decide) ?_
    exact end_i hx hb hr hlk rfl hw hP hD hS dX6_readNumber_10
def wpX6_readKind (post : Int32 → GS → Prop) (G : GS) : Prop :=
  wpX6_signAt (fun (r2 : Int32) (G1 : GS) =>
  wpJ0_indexOf_0f7a4 (fun (r4 : Int32) (G3 : GS) =>
    if 0 ≤ r4 then
      ∀ G6 : GS, G6 = gI G3 168 3 ((G3.1 168 3) + 1) →
        narrow .char (.int r2) = .int r2 ∧ post r2 G6
    else
      post 0 G3) 0 r2 G1) (G.1 168 3) G
set_option maxHeartbeats 4000000 in
set_option maxRecDepth 100000 in
theorem okX6_readKind (X : Cx) (l : Launch) (hfl : l.stackTraces = false) {post : Int32 → GS → Prop}  {G : GS}  (hw : wpX6_readKind post G) : CT X l yX6_readKind cX6_readKind 2 (some FieldType.char) 5 0 0 [.ref (xa X 168)] G (Qi X post) := by
  refine mbegin (by decide) (Nat.le_of_ble_eq_true rfl) (fun p e s m below meth c hx hb hr hml hlk hown hE hz ls hl hP hD hS => ?_)
  have hl : lv_has ls 2 [(0, .ref (xa X 168))] := hl
  have hown : s.vm.findClass "FlyTreasury$Script" = some m.cls := hown
  unfold wpX6_readKind at hw
  refine lv_aload_n hx hb dX6_readKind_0 rfl (lv_at hl 0 rfl) ?_
  refine lv_aload_n hx hb dX6_readKind_1 rfl (lv_at hl 0 rfl) ?_
  refine gf_X6_3 hx hb hE hP hown rfl (hE.w qw_270 rfl _) dX6_readKind_2 ?_
  refine call_i (run_V (cc := cX6_readKind) (As := [.int (G.1 168 3)]) (rest := []) hx hb hml hown hE hz (okX6_signAt X l hfl  hw) qw_1471 qw_1473 qw_9 qw_78 qw_1474 (myX6_signAt) ⟨Nat.le_of_ble_eq_true rfl, Nat.le_of_ble_eq_true rfl⟩ (rv_X6 hE hP rfl) hP hD hS rfl hl.1 rfl (Nat.le_of_ble_eq_true rfl) dX6_readKind_5 ⟨Nat.le_of_ble_eq_true rfl, Nat.le_of_ble_eq_true rfl⟩) hS (fun r2 G1 H locs hw hP hD hS => ?_)
  refine lv_istore_n (lv' := [(1, .int r2), (0, .ref (xa X 168))]) hx hb dX6_readKind_8 rfl hl (by decide) rfl (fun ls hl => ?_)
  refine va_ldcS hx hb hown (sr_14 hE) dX6_readKind_9 ?_
  refine lv_iload_n hx hb dX6_readKind_11 rfl (lv_at hl 0 rfl) ?_
  refine call_i (run_V (cc := cX6_readKind) (As := [.int r2]) (rest := []) hx hb hml hown hE hz (okJ0_indexOf_0f7a4 X l hfl (by decide) hw) qw_1503 qw_964 qw_965 qw_84 qw_966 (myJ0_indexOf_0f7a4) ⟨Nat.le_of_ble_eq_true rfl, Nat.le_of_ble_eq_true rfl⟩ (vk_recv hE.S (by decide) hS) hP hD hS rfl hl.1 rfl (Nat.le_of_ble_eq_true rfl) dX6_readKind_12 ⟨Nat.le_of_ble_eq_true rfl, Nat.le_of_ble_eq_true rfl⟩) hS (fun r4 G3 H locs hw hP hD hS => ?_)
  refine lv_if_ge (tgt := 20) hx hb dX6_readKind_15 (by decide) (fun c5 => ?_) (fun c5 => ?_)
  · replace hw := ite_t hw c5
    refine lv_aload_n hx hb dX6_readKind_20 rfl (lv_at hl 1 rfl) ?_
    refine lv_dup hx hb dX6_readKind_21 rfl ?_
    refine gf_X6_3 hx hb hE hP hown rfl (hE.w qw_270 rfl _) dX6_readKind_22 ?_
    refine lv_iconst (v := 1) hx hb dX6_readKind_25 (by decide) ?_
    refine lv_iadd hx hb dX6_readKind_26 ?_
    refine pf_X6_3 hx hb hE hP hD hS hown rfl (hE.w qw_270 rfl _) dX6_readKind_27 (fun G6 H locs eG6 hP hD hS => ?_)
    replace hw := hw G6 eG6
    refine lv_iload_n hx hb dX6_readKind_30 rfl (lv_at hl 0 rfl) ?_
    obtain ⟨y7, hw⟩ := hw
    exact end_i hx hb hr hlk y7 hw hP hD hS dX6_readKind_31
  · replace hw := ite_f hw c5
    refine lv_iconst (v := 0) hx hb dX6_readKind_18 (by decide) ?_
    exact end_i hx hb hr hlk (by decide) hw hP hD hS dX6_readKind_19
def wpX6_readPart (post : Int32 → GS → Prop) (a1 : Int32) (q2 : Nat) (G : GS) : Prop :=
  ∀ z1 : Int32, z1 = a1 →
  if z1 = 100 then
  wpX6_readDigit (fun (r4 : Int32) (G3 : GS) =>
    ∀ G5 : GS, G5 = gI G3 q2 4 r4 →
      if (G5.1 q2 4) < 0 then
      post 0 G5
    else
      post 1 G5)  G
else if z1 = 107 then
  wpX6_readKind (fun (r9 : Int32) (G8 : GS) =>
    (narrow .char (.int r9) = .int r9 ∧ fits .char (.int r9) = true) ∧
      ∀ G10 : GS, G10 = gI G8 q2 2 r9 →
      if (G10.1 q2 2) = 0 then
      post 0 G10
    else
      post 1 G10)  G
else if z1 = 110 then
  wpX6_readNumber (fun (r15 : Int32) (G14 : GS) =>
    ∀ G16 : GS, G16 = gI G14 q2 4 r15 →
      if (G16.1 q2 4) < 0 then
      post 0 G16
    else
      post 1 G16)  G
else if z1 = 111 then
  wpX6_readKind (fun (r20 : Int32) (G19 : GS) =>
    (narrow .char (.int r20) = .int r20 ∧ fits .char (.int r20) = true) ∧
      ∀ G21 : GS, G21 = gI G19 q2 3 r20 →
      if (G21.1 q2 3) = 0 then
      post 0 G21
    else
      post 1 G21)  G
else if z1 = 118 then
  wpX6_readDigit (fun (r26 : Int32) (G25 : GS) =>
    ∀ G27 : GS, G27 = gI G25 q2 1 r26 →
      if (G27.1 q2 1) < 0 then
      post 0 G27
    else
      post 1 G27)  G
else wpX6_readSign (fun (r30 : Int32) (G29 : GS) =>
  narrow .boolean (.int r30) = .int r30 ∧ post r30 G29) a1 G
set_option maxHeartbeats 4000000 in
set_option maxRecDepth 100000 in
theorem okX6_readPart (X : Cx) (l : Launch) (hfl : l.stackTraces = false) {post : Int32 → GS → Prop} {a1 : Int32} {q2 : Nat} {G : GS} (h2 : kd q2 = 10) (hw : wpX6_readPart post a1 q2 G) : CT X l yX6_readPart cX6_readPart 3 (some FieldType.boolean) 6 0 0 [.ref (xa X 168), .int a1, .ref (xa X q2)] G (Qi X post) := by
  refine mbegin (by decide) (Nat.le_of_ble_eq_true rfl) (fun p e s m below meth c hx hb hr hml hlk hown hE hz ls hl hP hD hS => ?_)
  have hl : lv_has ls 3 [(0, .ref (xa X 168)), (1, .int a1), (2, .ref (xa X q2))] := hl
  have hown : s.vm.findClass "FlyTreasury$Script" = some m.cls := hown
  unfold wpX6_readPart at hw
  refine lv_iload_n hx hb dX6_readPart_0 rfl (lv_at hl 1 rfl) ?_
  refine lv_topi (fun z1 ez1 => ?_)
  replace hw := hw z1 ez1
  by_cases c2 : z1 = 100
  · replace hw := ite_t hw c2
    subst c2
    refine lv_lookup (off := 72) (tgt := 73) hx hb dX6_readPart_1 (by decide) (by decide) (by decide) ?_
    refine lv_aload_n hx hb dX6_readPart_73 rfl (lv_at hl 2 rfl) ?_
    refine lv_aload_n hx hb dX6_readPart_74 rfl (lv_at hl 0 rfl) ?_
    refine call_i (run_V (cc := cX6_readPart) (As := []) (rest := [.ref (xa X q2)]) hx hb hml hown hE hz (okX6_readDigit X l hfl  hw) qw_1490 qw_1492 qw_13 qw_78 qw_1493 (myX6_readDigit) ⟨Nat.le_of_ble_eq_true rfl, Nat.le_of_ble_eq_true rfl⟩ (rv_X6 hE hP rfl) hP hD hS rfl hl.1 rfl (Nat.le_of_ble_eq_true rfl) dX6_readPart_75 ⟨Nat.le_of_ble_eq_true rfl, Nat.le_of_ble_eq_true rfl⟩) hS (fun r4 G3 H locs hw hP hD hS => ?_)
    refine pn_X4_4 hx hb hE hP hD hS hown h2 (hE.w qw_251 rfl _) dX6_readPart_78 (fun G5 H locs eG5 hP hD hS => ?_)
    replace hw := hw G5 eG5
    refine lv_aload_n hx hb dX6_readPart_81 rfl (lv_at hl 2 rfl) ?_
    refine gn_X4_4 hx hb hE hP hown h2 (hE.w qw_251 rfl _) dX6_readPart_82 ?_
    refine lv_if_lt (tgt := 92) hx hb dX6_readPart_85 (by decide) (fun c6 => ?_) (fun c6 => ?_)
    · replace hw := ite_t hw c6
      refine lv_iconst (v := 0) hx hb dX6_readPart_92 (by decide) ?_
      exact end_i hx hb hr hlk (by decide) hw hP hD hS dX6_readPart_93
    · replace hw := ite_f hw c6
      refine lv_iconst (v := 1) hx hb dX6_readPart_88 (by decide) ?_
      refine lv_goto (tgt := 93) hx hb dX6_readPart_89 (by decide) ?_
      exact end_i hx hb hr hlk (by decide) hw hP hD hS dX6_readPart_93
  · replace hw := ite_f hw c2
    by_cases c7 : z1 = 107
    · replace hw := ite_t hw c7
      subst c7
      refine lv_lookup (off := 114) (tgt := 115) hx hb dX6_readPart_1 (by decide) (by decide) (by decide) ?_
      refine lv_aload_n hx hb dX6_readPart_115 rfl (lv_at hl 2 rfl) ?_
      refine lv_aload_n hx hb dX6_readPart_116 rfl (lv_at hl 0 rfl) ?_
      refine call_i (run_V (cc := cX6_readPart) (As := []) (rest := [.ref (xa X q2)]) hx hb hml hown hE hz (okX6_readKind X l hfl  hw) qw_1498 qw_1500 qw_15 qw_78 qw_1501 (myX6_readKind) ⟨Nat.le_of_ble_eq_true rfl, Nat.le_of_ble_eq_true rfl⟩ (rv_X6 hE hP rfl) hP hD hS rfl hl.1 rfl (Nat.le_of_ble_eq_true rfl) dX6_readPart_117 ⟨Nat.le_of_ble_eq_true rfl, Nat.le_of_ble_eq_true rfl⟩) hS (fun r9 G8 H locs hw hP hD hS => ?_)
      obtain ⟨y11, hw⟩ := hw
      refine pn_X4_2 hx hb hE hP hD hS hown h2 (hE.w qw_245 rfl _) y11.1 y11.2 dX6_readPart_120 (fun G10 H locs eG10 hP hD hS => ?_)
      replace hw := hw G10 eG10
      refine lv_aload_n hx hb dX6_readPart_123 rfl (lv_at hl 2 rfl) ?_
      refine gn_X4_2 hx hb hE hP hown h2 (hE.w qw_245 rfl _) dX6_readPart_124 ?_
      refine lv_if_eq (tgt := 134) hx hb dX6_readPart_127 (by decide) (fun c12 => ?_) (fun c12 => ?_)
      · replace hw := ite_t hw c12
        refine lv_iconst (v := 0) hx hb dX6_readPart_134 (by decide) ?_
        exact end_i hx hb hr hlk (by decide) hw hP hD hS dX6_readPart_135
      · replace hw := ite_f hw c12
        refine lv_iconst (v := 1) hx hb dX6_readPart_130 (by decide) ?_
        refine lv_goto (tgt := 135) hx hb dX6_readPart_131 (by decide) ?_
        exact end_i hx hb hr hlk (by decide) hw hP hD hS dX6_readPart_135
    · replace hw := ite_f hw c7
      by_cases c13 : z1 = 110
      · replace hw := ite_t hw c13
        subst c13
        refine lv_lookup (off := 93) (tgt := 94) hx hb dX6_readPart_1 (by decide) (by decide) (by decide) ?_
        refine lv_aload_n hx hb dX6_readPart_94 rfl (lv_at hl 2 rfl) ?_
        refine lv_aload_n hx hb dX6_readPart_95 rfl (lv_at hl 0 rfl) ?_
        refine call_i (run_V (cc := cX6_readPart) (As := []) (rest := [.ref (xa X q2)]) hx hb hml hown hE hz (okX6_readNumber X l hfl  hw) qw_1494 qw_1496 qw_14 qw_78 qw_1497 (myX6_readNumber) ⟨Nat.le_of_ble_eq_true rfl, Nat.le_of_ble_eq_true rfl⟩ (rv_X6 hE hP rfl) hP hD hS rfl hl.1 rfl (Nat.le_of_ble_eq_true rfl) dX6_readPart_96 ⟨Nat.le_of_ble_eq_true rfl, Nat.le_of_ble_eq_true rfl⟩) hS (fun r15 G14 H locs hw hP hD hS => ?_)
        refine pn_X4_4 hx hb hE hP hD hS hown h2 (hE.w qw_251 rfl _) dX6_readPart_99 (fun G16 H locs eG16 hP hD hS => ?_)
        replace hw := hw G16 eG16
        refine lv_aload_n hx hb dX6_readPart_102 rfl (lv_at hl 2 rfl) ?_
        refine gn_X4_4 hx hb hE hP hown h2 (hE.w qw_251 rfl _) dX6_readPart_103 ?_
        refine lv_if_lt (tgt := 113) hx hb dX6_readPart_106 (by decide) (fun c17 => ?_) (fun c17 => ?_)
        · replace hw := ite_t hw c17
          refine lv_iconst (v := 0) hx hb dX6_readPart_113 (by decide) ?_
          exact end_i hx hb hr hlk (by decide) hw hP hD hS dX6_readPart_114
        · replace hw := ite_f hw c17
          refine lv_iconst (v := 1) hx hb dX6_readPart_109 (by decide) ?_
          refine lv_goto (tgt := 114) hx hb dX6_readPart_110 (by decide) ?_
          exact end_i hx hb hr hlk (by decide) hw hP hD hS dX6_readPart_114
      · replace hw := ite_f hw c13
        by_cases c18 : z1 = 111
        · replace hw := ite_t hw c18
          subst c18
          refine lv_lookup (off := 135) (tgt := 136) hx hb dX6_readPart_1 (by decide) (by decide) (by decide) ?_
          refine lv_aload_n hx hb dX6_readPart_136 rfl (lv_at hl 2 rfl) ?_
          refine lv_aload_n hx hb dX6_readPart_137 rfl (lv_at hl 0 rfl) ?_
          refine call_i (run_V (cc := cX6_readPart) (As := []) (rest := [.ref (xa X q2)]) hx hb hml hown hE hz (okX6_readKind X l hfl  hw) qw_1498 qw_1500 qw_15 qw_78 qw_1501 (myX6_readKind) ⟨Nat.le_of_ble_eq_true rfl, Nat.le_of_ble_eq_true rfl⟩ (rv_X6 hE hP rfl) hP hD hS rfl hl.1 rfl (Nat.le_of_ble_eq_true rfl) dX6_readPart_138 ⟨Nat.le_of_ble_eq_true rfl, Nat.le_of_ble_eq_true rfl⟩) hS (fun r20 G19 H locs hw hP hD hS => ?_)
          obtain ⟨y22, hw⟩ := hw
          refine pn_X4_3 hx hb hE hP hD hS hown h2 (hE.w qw_248 rfl _) y22.1 y22.2 dX6_readPart_141 (fun G21 H locs eG21 hP hD hS => ?_)
          replace hw := hw G21 eG21
          refine lv_aload_n hx hb dX6_readPart_144 rfl (lv_at hl 2 rfl) ?_
          refine gn_X4_3 hx hb hE hP hown h2 (hE.w qw_248 rfl _) dX6_readPart_145 ?_
          refine lv_if_eq (tgt := 155) hx hb dX6_readPart_148 (by decide) (fun c23 => ?_) (fun c23 => ?_)
          · replace hw := ite_t hw c23
            refine lv_iconst (v := 0) hx hb dX6_readPart_155 (by decide) ?_
            exact end_i hx hb hr hlk (by decide) hw hP hD hS dX6_readPart_156
          · replace hw := ite_f hw c23
            refine lv_iconst (v := 1) hx hb dX6_readPart_151 (by decide) ?_
            refine lv_goto (tgt := 156) hx hb dX6_readPart_152 (by decide) ?_
            exact end_i hx hb hr hlk (by decide) hw hP hD hS dX6_readPart_156
        · replace hw := ite_f hw c18
          by_cases c24 : z1 = 118
          · replace hw := ite_t hw c24
            subst c24
            refine lv_lookup (off := 51) (tgt := 52) hx hb dX6_readPart_1 (by decide) (by decide) (by decide) ?_
            refine lv_aload_n hx hb dX6_readPart_52 rfl (lv_at hl 2 rfl) ?_
            refine lv_aload_n hx hb dX6_readPart_53 rfl (lv_at hl 0 rfl) ?_
            refine call_i (run_V (cc := cX6_readPart) (As := []) (rest := [.ref (xa X q2)]) hx hb hml hown hE hz (okX6_readDigit X l hfl  hw) qw_1490 qw_1492 qw_13 qw_78 qw_1493 (myX6_readDigit) ⟨Nat.le_of_ble_eq_true rfl, Nat.le_of_ble_eq_true rfl⟩ (rv_X6 hE hP rfl) hP hD hS rfl hl.1 rfl (Nat.le_of_ble_eq_true rfl) dX6_readPart_54 ⟨Nat.le_of_ble_eq_true rfl, Nat.le_of_ble_eq_true rfl⟩) hS (fun r26 G25 H locs hw hP hD hS => ?_)
            refine pn_X4_1 hx hb hE hP hD hS hown h2 (hE.w qw_242 rfl _) dX6_readPart_57 (fun G27 H locs eG27 hP hD hS => ?_)
            replace hw := hw G27 eG27
            refine lv_aload_n hx hb dX6_readPart_60 rfl (lv_at hl 2 rfl) ?_
            refine gn_X4_1 hx hb hE hP hown h2 (hE.w qw_242 rfl _) dX6_readPart_61 ?_
            refine lv_if_lt (tgt := 71) hx hb dX6_readPart_64 (by decide) (fun c28 => ?_) (fun c28 => ?_)
            · replace hw := ite_t hw c28
              refine lv_iconst (v := 0) hx hb dX6_readPart_71 (by decide) ?_
              exact end_i hx hb hr hlk (by decide) hw hP hD hS dX6_readPart_72
            · replace hw := ite_f hw c28
              refine lv_iconst (v := 1) hx hb dX6_readPart_67 (by decide) ?_
              refine lv_goto (tgt := 72) hx hb dX6_readPart_68 (by decide) ?_
              exact end_i hx hb hr hlk (by decide) hw hP hD hS dX6_readPart_72
          · replace hw := ite_f hw c24
            refine lv_lookup (off := 156) (tgt := 157) hx hb dX6_readPart_1 (by decide) (by show Op.lookupswitch.offset [(100, 72), (107, 114), (110, 93), (111, 135), (118, 51)] _ _ = _; rw [lv_osw (a := 100) c2 (by decide), lv_osw (a := 107) c7 (by decide), lv_osw (a := 110) c13 (by decide), lv_osw (a := 111) c18 (by decide), lv_osw (a := 118) c24 (by decide)]; rfl) (by decide) ?_
            refine lv_aload_n hx hb dX6_readPart_157 rfl (lv_at hl 0 rfl) ?_
            refine lv_iload_n hx hb dX6_readPart_158 rfl (lv_at hl 1 rfl) ?_
            refine call_i (run_V (cc := cX6_readPart) (As := [.int a1]) (rest := []) hx hb hml hown hE hz (okX6_readSign X l hfl  hw) qw_1482 qw_1484 qw_11 qw_78 qw_1485 (myX6_readSign) ⟨Nat.le_of_ble_eq_true rfl, Nat.le_of_ble_eq_true rfl⟩ (rv_X6 hE hP rfl) hP hD hS rfl hl.1 rfl (Nat.le_of_ble_eq_true rfl) dX6_readPart_159 ⟨Nat.le_of_ble_eq_true rfl, Nat.le_of_ble_eq_true rfl⟩) hS (fun r30 G29 H locs hw hP hD hS => ?_)
            obtain ⟨y31, hw⟩ := hw
            exact end_i hx hb hr hlk y31 hw hP hD hS dX6_readPart_162
def wpX6_readDays (post : Int32 → GS → Prop) (q1 : Nat) (G : GS) : Prop :=
  ∀ G1 : GS, G1 = gI G q1 4 1 →
  wpX6_readSign (fun (r3 : Int32) (G2 : GS) =>
  if r3 = 0 then
    post 1 G2
  else
    wpX6_readPart (fun (r6 : Int32) (G5 : GS) =>
      narrow .boolean (.int r6) = .int r6 ∧ post r6 G5) 110 q1 G2) 32 G1
set_option maxHeartbeats 4000000 in
set_option maxRecDepth 100000 in
theorem okX6_readDays (X : Cx) (l : Launch) (hfl : l.stackTraces = false) {post : Int32 → GS → Prop} {q1 : Nat} {G : GS} (h1 : kd q1 = 10) (hw : wpX6_readDays post q1 G) : CT X l yX6_readDays cX6_readDays 2 (some FieldType.boolean) 7 0 0 [.ref (xa X 168), .ref (xa X q1)] G (Qi X post) := by
  refine mbegin (by decide) (Nat.le_of_ble_eq_true rfl) (fun p e s m below meth c hx hb hr hml hlk hown hE hz ls hl hP hD hS => ?_)
  have hl : lv_has ls 2 [(0, .ref (xa X 168)), (1, .ref (xa X q1))] := hl
  have hown : s.vm.findClass "FlyTreasury$Script" = some m.cls := hown
  unfold wpX6_readDays at hw
  refine lv_aload_n hx hb dX6_readDays_0 rfl (lv_at hl 1 rfl) ?_
  refine lv_iconst (v := 1) hx hb dX6_readDays_1 (by decide) ?_
  refine pn_X4_4 hx hb hE hP hD hS hown h1 (hE.w qw_251 rfl _) dX6_readDays_2 (fun G1 H locs eG1 hP hD hS => ?_)
  replace hw := hw G1 eG1
  refine lv_aload_n hx hb dX6_readDays_5 rfl (lv_at hl 0 rfl) ?_
  refine lv_bipush (v := 32) hx hb dX6_readDays_6 (by decide) ?_
  refine call_i (run_V (cc := cX6_readDays) (As := [.int 32]) (rest := []) hx hb hml hown hE hz (okX6_readSign X l hfl  hw) qw_1482 qw_1484 qw_11 qw_78 qw_1485 (myX6_readSign) ⟨Nat.le_of_ble_eq_true rfl, Nat.le_of_ble_eq_true rfl⟩ (rv_X6 hE hP rfl) hP hD hS rfl hl.1 rfl (Nat.le_of_ble_eq_true rfl) dX6_readDays_8 ⟨Nat.le_of_ble_eq_true rfl, Nat.le_of_ble_eq_true rfl⟩) hS (fun r3 G2 H locs hw hP hD hS => ?_)
  refine lv_if_ne (tgt := 16) hx hb dX6_readDays_11 (by decide) (fun c4 => ?_) (fun c4 => ?_)
  · replace hw := ite_f hw c4
    refine lv_aload_n hx hb dX6_readDays_16 rfl (lv_at hl 0 rfl) ?_
    refine lv_bipush (v := 110) hx hb dX6_readDays_17 (by decide) ?_
    refine lv_aload_n hx hb dX6_readDays_19 rfl (lv_at hl 1 rfl) ?_
    refine call_i (run_V (cc := cX6_readDays) (As := [.int 110, .ref (xa X q1)]) (rest := []) hx hb hml hown hE hz (okX6_readPart X l hfl h1 hw) qw_1486 qw_1488 qw_12 qw_78 qw_1489 (myX6_readPart) ⟨Nat.le_of_ble_eq_true rfl, Nat.le_of_ble_eq_true rfl⟩ (rv_X6 hE hP rfl) hP hD hS rfl hl.1 rfl (Nat.le_of_ble_eq_true rfl) dX6_readDays_20 ⟨Nat.le_of_ble_eq_true rfl, Nat.le_of_ble_eq_true rfl⟩) hS (fun r6 G5 H locs hw hP hD hS => ?_)
    obtain ⟨y7, hw⟩ := hw
    exact end_i hx hb hr hlk y7 hw hP hD hS dX6_readDays_23
  · replace hw := ite_t hw c4
    refine lv_iconst (v := 1) hx hb dX6_readDays_14 (by decide) ?_
    exact end_i hx hb hr hlk (by decide) hw hP hD hS dX6_readDays_15
def wlX6_readOrder_36 (post : Int32 → GS → Prop) (q1 : Nat) : Nat → GS → Nat → Int32 → Prop
  | 0, _, _, _ => False
  | n + 1, G, v2, v3 =>
    wpJ0_length_8abf5 (fun (r8 : Int32) (G7 : GS) =>
  if r8 ≤ v3 then
    post 1 G7
  else
    wpJ0_charAt_5068e (fun (r11 : Int32) (G10 : GS) =>
      wpX6_readPart (fun (r13 : Int32) (G12 : GS) =>
        if r13 = 0 then
          post 0 G12
        else
          ∀ z15 : Int32, z15 = v3 + 1 →
            wlX6_readOrder_36 post q1 n G12 v2 z15) r11 q1 G10) v2 v3 G7) v2 G
def wpX6_readOrder (post : Int32 → GS → Prop) (q1 : Nat) (G : GS) : Prop :=
  wpX6_readWord (fun (r2 : Int32) (G1 : GS) =>
  if r2 = 0 then
    post 0 G1
  else
    (G1.1 q1 0).toNatClampNeg < 10 ∧
      if ((G1.1 q1 0).toNatClampNeg) = 9 then
      wpX6_readDays (fun (r26 : Int32) (G25 : GS) =>
        narrow .boolean (.int r26) = .int r26 ∧ post r26 G25) q1 G1
    else
      (G1.1 q1 0).toNatClampNeg < 10 ∧
        ∃ nn, wlX6_readOrder_36 post q1 nn G1 (CFl.getD ((G1.1 q1 0).toNatClampNeg) 0) 0) q1 G
set_option maxHeartbeats 4000000 in
set_option maxRecDepth 100000 in
theorem okX6_readOrder (X : Cx) (l : Launch) (hfl : l.stackTraces = false) {post : Int32 → GS → Prop} {q1 : Nat} {G : GS} (h1 : kd q1 = 10) (hw : wpX6_readOrder post q1 G) : CT X l yX6_readOrder cX6_readOrder 4 (some FieldType.boolean) 8 0 0 [.ref (xa X 168), .ref (xa X q1)] G (Qi X post) := by
  refine mbegin (by decide) (Nat.le_of_ble_eq_true rfl) (fun p e s m below meth c hx hb hr hml hlk hown hE hz ls hl hP hD hS => ?_)
  have hl : lv_has ls 4 [(0, .ref (xa X 168)), (1, .ref (xa X q1))] := hl
  have hown : s.vm.findClass "FlyTreasury$Script" = some m.cls := hown
  have L36 : ∀ (n36 : Nat) (G : GS) (v2 : Nat) (v3 : Int32) (hv2 : v2 < 37) (H : Heap) (locs : List Loc) (ls : Array Slot), wlX6_readOrder_36 post q1 n36 G v2 v3 → va_P (xD X) vwCl (pool X G) H → va_D (xA X) (pool X G) → va_S (xA X) s.heap H locs → lv_has ls 4 [(0, .ref (xa X 168)), (1, .ref (xa X q1)), (2, .ref (xk X 2 v2)), (3, .int v3)] → W p l e (rmL 8 0 0) s m [.ref (xa X 168), .ref (xa X q1)].toArray below meth c H locs 0 0 (MQ below (Qi X post) [.ref (xa X 168), .ref (xa X q1)].toArray s 0 0 (xA X)) (F0 m 36 ls []) := by
    intro n36
    induction n36 with
    | zero => intro G v2 v3 hv2 H locs ls hw; exact hw.elim
    | succ n36 ih36 =>
      intro G v2 v3 hv2 H locs ls hw hP hD hS hl
      rw [wlX6_readOrder_36] at hw
      refine lv_iload_n hx hb dX6_readOrder_36 rfl (lv_at hl 3 rfl) ?_
      refine lv_aload_n hx hb dX6_readOrder_37 rfl (lv_at hl 2 rfl) ?_
      refine call_i (run_V (cc := cX6_readOrder) (As := []) (rest := [.int v3]) hx hb hml hown hE hz (okJ0_length_8abf5 X l hfl hv2 hw) qw_1470 qw_543 qw_544 qw_84 qw_545 (myJ0_length_8abf5) ⟨Nat.le_of_ble_eq_true rfl, Nat.le_of_ble_eq_true rfl⟩ (vk_recv hE.S hv2 hS) hP hD hS rfl hl.1 rfl (Nat.le_of_ble_eq_true rfl) dX6_readOrder_38 ⟨Nat.le_of_ble_eq_true rfl, Nat.le_of_ble_eq_true rfl⟩) hS (fun r17 G16 H locs hw hP hD hS => ?_)
      refine lv_icmp_ge (tgt := 65) hx hb dX6_readOrder_41 (by decide) (fun c18 => ?_) (fun c18 => ?_)
      · replace hw := ite_t hw c18
        refine lv_iconst (v := 1) hx hb dX6_readOrder_65 (by decide) ?_
        exact end_i hx hb hr hlk (by decide) hw hP hD hS dX6_readOrder_66
      · replace hw := ite_f hw c18
        refine lv_aload_n hx hb dX6_readOrder_44 rfl (lv_at hl 0 rfl) ?_
        refine lv_aload_n hx hb dX6_readOrder_45 rfl (lv_at hl 2 rfl) ?_
        refine lv_iload_n hx hb dX6_readOrder_46 rfl (lv_at hl 3 rfl) ?_
        refine call_i (run_V (cc := cX6_readOrder) (As := [.int v3]) (rest := [.ref (xa X 168)]) hx hb hml hown hE hz (okJ0_charAt_5068e X l hfl hv2 hw) qw_1475 qw_821 qw_822 qw_84 qw_823 (myJ0_charAt_5068e) ⟨Nat.le_of_ble_eq_true rfl, Nat.le_of_ble_eq_true rfl⟩ (vk_recv hE.S hv2 hS) hP hD hS rfl hl.1 rfl (Nat.le_of_ble_eq_true rfl) dX6_readOrder_47 ⟨Nat.le_of_ble_eq_true rfl, Nat.le_of_ble_eq_true rfl⟩) hS (fun r20 G19 H locs hw hP hD hS => ?_)
        refine lv_aload_n hx hb dX6_readOrder_50 rfl (lv_at hl 1 rfl) ?_
        refine call_i (run_V (cc := cX6_readOrder) (As := [.int r20, .ref (xa X q1)]) (rest := []) hx hb hml hown hE hz (okX6_readPart X l hfl h1 hw) qw_1486 qw_1488 qw_12 qw_78 qw_1489 (myX6_readPart) ⟨Nat.le_of_ble_eq_true rfl, Nat.le_of_ble_eq_true rfl⟩ (rv_X6 hE hP rfl) hP hD hS rfl hl.1 rfl (Nat.le_of_ble_eq_true rfl) dX6_readOrder_51 ⟨Nat.le_of_ble_eq_true rfl, Nat.le_of_ble_eq_true rfl⟩) hS (fun r22 G21 H locs hw hP hD hS => ?_)
        refine lv_if_ne (tgt := 59) hx hb dX6_readOrder_54 (by decide) (fun c23 => ?_) (fun c23 => ?_)
        · replace hw := ite_f hw c23
          obtain ⟨z24, ez24⟩ : ∃ y : Int32, y = v3 + 1 := ⟨_, rfl⟩
          replace hw := hw z24 ez24
          refine lv_iinc (v := z24) (lv' := [(3, .int z24), (0, .ref (xa X 168)), (1, .ref (xa X q1)), (2, .ref (xk X 2 v2))]) hx hb dX6_readOrder_59 hl (k := 3) rfl (by rw [ez24]; rfl) (by decide) rfl (fun ls hl => ?_)
          refine lv_goto (tgt := 36) hx hb dX6_readOrder_62 (by decide) ?_
          exact ih36 G21 v2 z24 hv2 _ _ _ hw hP hD hS (lv_sub hl [1, 2, 3, 0] rfl)
        · replace hw := ite_t hw c23
          refine lv_iconst (v := 0) hx hb dX6_readOrder_57 (by decide) ?_
          exact end_i hx hb hr hlk (by decide) hw hP hD hS dX6_readOrder_58
  unfold wpX6_readOrder at hw
  refine lv_aload_n hx hb dX6_readOrder_0 rfl (lv_at hl 0 rfl) ?_
  refine lv_aload_n hx hb dX6_readOrder_1 rfl (lv_at hl 1 rfl) ?_
  refine call_i (run_V (cc := cX6_readOrder) (As := [.ref (xa X q1)]) (rest := []) hx hb hml hown hE hz (okX6_readWord X l hfl h1 hw) qw_1460 qw_1462 qw_7 qw_78 qw_1463 (myX6_readWord) ⟨Nat.le_of_ble_eq_true rfl, Nat.le_of_ble_eq_true rfl⟩ (rv_X6 hE hP rfl) hP hD hS rfl hl.1 rfl (Nat.le_of_ble_eq_true rfl) dX6_readOrder_2 ⟨Nat.le_of_ble_eq_true rfl, Nat.le_of_ble_eq_true rfl⟩) hS (fun r2 G1 H locs hw hP hD hS => ?_)
  refine lv_if_ne (tgt := 10) hx hb dX6_readOrder_5 (by decide) (fun c3 => ?_) (fun c3 => ?_)
  · replace hw := ite_f hw c3
    refine lv_aload_n hx hb dX6_readOrder_10 rfl (lv_at hl 1 rfl) ?_
    obtain ⟨y4, hw⟩ := hw
    refine gn_X4_0 hx hb hE hP hown h1 (hE.w qw_239 rfl _) dX6_readOrder_11 ?_
    refine va_gets hx hb (en_Z1 hE (i := 9) (by decide)) hS hown (hE.w qw_1477 rfl _) (fun _ h9 => h9) dX6_readOrder_14 ?_
    refine lv_acmp_ne (rx := some (xk X 1 ((G1.1 q1 0).toNatClampNeg))) (ry := some (xk X 1 9)) (tgt := 26) hx hb dX6_readOrder_17 (by decide) (fun c5 => ?_) (fun c5 => ?_)
    · replace hw := ite_f hw (fun e => c5 (by rw [e]))
      refine lv_aload_n hx hb dX6_readOrder_26 rfl (lv_at hl 1 rfl) ?_
      obtain ⟨y6, hw⟩ := hw
      refine gn_X4_0 hx hb hE hP hown h1 (hE.w qw_239 rfl _) dX6_readOrder_27 ?_
      refine vk_getfN hx hb (en_form hE y6) hS hown (hE.w qw_2106 rfl _) (fun _ h9 => h9) dX6_readOrder_30 ?_
      refine lv_astore_n (lv' := [(2, .ref (xk X 2 (CFl.getD ((G1.1 q1 0).toNatClampNeg) 0))), (0, .ref (xa X 168)), (1, .ref (xa X q1))]) hx hb dX6_readOrder_33 rfl hl (by decide) rfl (fun ls hl => ?_)
      refine lv_iconst (v := 0) hx hb dX6_readOrder_34 (by decide) ?_
      refine lv_istore_n (lv' := [(3, .int 0), (2, .ref (xk X 2 (CFl.getD ((G1.1 q1 0).toNatClampNeg) 0))), (0, .ref (xa X 168)), (1, .ref (xa X q1))]) hx hb dX6_readOrder_35 rfl hl (by decide) rfl (fun ls hl => ?_)
      obtain ⟨nn, hw⟩ := hw
      exact L36 nn G1 (CFl.getD ((G1.1 q1 0).toNatClampNeg) 0) 0 (lit_form y6) _ _ _ hw hP hD hS (lv_sub hl [2, 3, 1, 0] rfl)
    · replace hw := ite_t hw (enI1 hE y4 (by decide) (Option.some.inj c5))
      refine lv_aload_n hx hb dX6_readOrder_20 rfl (lv_at hl 0 rfl) ?_
      refine lv_aload_n hx hb dX6_readOrder_21 rfl (lv_at hl 1 rfl) ?_
      refine call_i (run_V (cc := cX6_readOrder) (As := [.ref (xa X q1)]) (rest := []) hx hb hml hown hE hz (okX6_readDays X l hfl h1 hw) qw_1478 qw_1480 qw_10 qw_78 qw_1481 (myX6_readDays) ⟨Nat.le_of_ble_eq_true rfl, Nat.le_of_ble_eq_true rfl⟩ (rv_X6 hE hP rfl) hP hD hS rfl hl.1 rfl (Nat.le_of_ble_eq_true rfl) dX6_readOrder_22 ⟨Nat.le_of_ble_eq_true rfl, Nat.le_of_ble_eq_true rfl⟩) hS (fun r26 G25 H locs hw hP hD hS => ?_)
      obtain ⟨y27, hw⟩ := hw
      exact end_i hx hb hr hlk y27 hw hP hD hS dX6_readOrder_25
  · replace hw := ite_t hw c3
    refine lv_iconst (v := 0) hx hb dX6_readOrder_8 (by decide) ?_
    exact end_i hx hb hr hlk (by decide) hw hP hD hS dX6_readOrder_9
