def wpX8_quotient (post : Int32 → GS → Prop) (a1 : Int32) (a2 : Int32) (G : GS) : Prop :=
  if 1 ≤ a2 then
  ¬ a2 = 0 ∧
    post (a1 / a2) G
else
  post 0 G
set_option maxHeartbeats 4000000 in
set_option maxRecDepth 100000 in
theorem okX8_quotient (X : Cx) (l : Launch) (hfl : l.stackTraces = false) {post : Int32 → GS → Prop} {a1 : Int32} {a2 : Int32} {G : GS}  (hw : wpX8_quotient post a1 a2 G) : CT X l yX8_quotient cX8_quotient 2 (some FieldType.int) 1 0 0 [.int a1, .int a2] G (Qi X post) := by
  refine mbegin (by decide) (Nat.le_of_ble_eq_true rfl) (fun p e s m below meth c hx hb hr hml hlk hown hE hz ls hl hP hD hS => ?_)
  have hl : lv_has ls 2 [(0, .int a1), (1, .int a2)] := hl
  have hown : s.vm.findClass "FlyTreasury" = some m.cls := hown
  unfold wpX8_quotient at hw
  refine lv_iload_n hx hb dX8_quotient_0 rfl (lv_at hl 1 rfl) ?_
  refine lv_iconst (v := 1) hx hb dX8_quotient_1 (by decide) ?_
  refine lv_icmp_ge (tgt := 9) hx hb dX8_quotient_2 (by decide) (fun c1 => ?_) (fun c1 => ?_)
  · replace hw := ite_t hw c1
    refine lv_iload_n hx hb dX8_quotient_9 rfl (lv_at hl 0 rfl) ?_
    refine lv_iload_n hx hb dX8_quotient_10 rfl (lv_at hl 1 rfl) ?_
    obtain ⟨y2, hw⟩ := hw
    refine lv_idiv hx hb dX8_quotient_11 y2 ?_
    exact end_i hx hb hr hlk rfl hw hP hD hS dX8_quotient_12
  · replace hw := ite_f hw c1
    refine lv_iconst (v := 0) hx hb dX8_quotient_5 (by decide) ?_
    refine lv_goto (tgt := 12) hx hb dX8_quotient_6 (by decide) ?_
    exact end_i hx hb hr hlk rfl hw hP hD hS dX8_quotient_12
def wpX7_copyFrom (post : GS → Prop) (q0 : Nat) (q1 : Nat) (G : GS) : Prop :=
  ((0 : Int32).toNatClampNeg + (3 : Int32).toNatClampNeg ≤ ln (q1 + 5) ∧ (0 : Int32).toNatClampNeg + (3 : Int32).toNatClampNeg ≤ ln (q0 + 5)) ∧ ∀ G1 : GS, G1 = gA G (q0 + 5) (va_cpy (G.1 (q1 + 5)) (G.1 (q0 + 5)) (0 : Int32).toNatClampNeg (0 : Int32).toNatClampNeg (3 : Int32).toNatClampNeg) →
  ∀ G3 : GS, G3 = gI G1 q0 1 (G1.1 q1 1) →
  ∀ G4 : GS, G4 = gI G3 q0 2 (G3.1 q1 2) →
  ∀ G5 : GS, G5 = gI G4 q0 3 (G4.1 q1 3) →
  ∀ G6 : GS, G6 = gI G5 q0 4 (G5.1 q1 4) →
  ∀ G7 : GS, G7 = gI G6 q0 5 (G6.1 q1 5) →
  post G7
set_option maxHeartbeats 4000000 in
set_option maxRecDepth 100000 in
theorem okX7_copyFrom (X : Cx) (l : Launch) (hfl : l.stackTraces = false) {post : GS → Prop} {q0 : Nat} {q1 : Nat} {G : GS} (h0 : kd q0 = 3) (h1 : kd q1 = 3) (hw : wpX7_copyFrom post q0 q1 G) : CT X l yX7_copyFrom cX7_copyFrom 2 none 2 0 0 [.ref (xa X q0), .ref (xa X q1)] G (Qv X post) := by
  refine mbegin (by decide) (Nat.le_of_ble_eq_true rfl) (fun p e s m below meth c hx hb hr hml hlk hown hE hz ls hl hP hD hS => ?_)
  have hl : lv_has ls 2 [(0, .ref (xa X q0)), (1, .ref (xa X q1))] := hl
  have hown : s.vm.findClass "FlyTreasury$Vault" = some m.cls := hown
  unfold wpX7_copyFrom at hw
  refine lv_aload_n hx hb dX7_copyFrom_0 rfl (lv_at hl 1 rfl) ?_
  refine gf_X7_0 hx hb hE hP hown h1 (hE.w qw_130 rfl _) dX7_copyFrom_1 ?_
  refine lv_iconst (v := 0) hx hb dX7_copyFrom_4 (by decide) ?_
  refine lv_aload_n hx hb dX7_copyFrom_5 rfl (lv_at hl 0 rfl) ?_
  refine gf_X7_0 hx hb hE hP hown h0 (hE.w qw_130 rfl _) dX7_copyFrom_6 ?_
  refine lv_iconst (v := 0) hx hb dX7_copyFrom_9 (by decide) ?_
  refine lv_iconst (v := 3) hx hb dX7_copyFrom_10 (by decide) ?_
  obtain ⟨y2, hw⟩ := hw
  refine cpy_2 hx hb (hml.trans hl.1.symm) hown hE qw_849 qw_510 qw_509 qw_96 hP hD hS (k3_5 h1) (k3_5 h0) (by decide) (by decide) (by decide) y2.1 y2.2 (Nat.le_of_ble_eq_true rfl) (Nat.le_of_ble_eq_true rfl) dX7_copyFrom_11 (fun G1 H locs eG1 hP hD hS => ?_)
  replace hw := hw G1 eG1
  refine lv_aload_n hx hb dX7_copyFrom_14 rfl (lv_at hl 0 rfl) ?_
  refine lv_aload_n hx hb dX7_copyFrom_15 rfl (lv_at hl 1 rfl) ?_
  refine gf_X7_1 hx hb hE hP hown h1 (hE.w qw_133 rfl _) dX7_copyFrom_16 ?_
  refine pf_X7_1 hx hb hE hP hD hS hown h0 (hE.w qw_133 rfl _) dX7_copyFrom_19 (fun G3 H locs eG3 hP hD hS => ?_)
  replace hw := hw G3 eG3
  refine lv_aload_n hx hb dX7_copyFrom_22 rfl (lv_at hl 0 rfl) ?_
  refine lv_aload_n hx hb dX7_copyFrom_23 rfl (lv_at hl 1 rfl) ?_
  refine gf_X7_2 hx hb hE hP hown h1 (hE.w qw_136 rfl _) dX7_copyFrom_24 ?_
  refine pf_X7_2 hx hb hE hP hD hS hown h0 (hE.w qw_136 rfl _) dX7_copyFrom_27 (fun G4 H locs eG4 hP hD hS => ?_)
  replace hw := hw G4 eG4
  refine lv_aload_n hx hb dX7_copyFrom_30 rfl (lv_at hl 0 rfl) ?_
  refine lv_aload_n hx hb dX7_copyFrom_31 rfl (lv_at hl 1 rfl) ?_
  refine gf_X7_3 hx hb hE hP hown h1 (hE.w qw_139 rfl _) dX7_copyFrom_32 ?_
  refine pf_X7_3 hx hb hE hP hD hS hown h0 (hE.w qw_139 rfl _) dX7_copyFrom_35 (fun G5 H locs eG5 hP hD hS => ?_)
  replace hw := hw G5 eG5
  refine lv_aload_n hx hb dX7_copyFrom_38 rfl (lv_at hl 0 rfl) ?_
  refine lv_aload_n hx hb dX7_copyFrom_39 rfl (lv_at hl 1 rfl) ?_
  refine gf_X7_4 hx hb hE hP hown h1 (hE.w qw_141 rfl _) dX7_copyFrom_40 ?_
  refine pf_X7_4 hx hb hE hP hD hS hown h0 (hE.w qw_141 rfl _) dX7_copyFrom_43 (fun G6 H locs eG6 hP hD hS => ?_)
  replace hw := hw G6 eG6
  refine lv_aload_n hx hb dX7_copyFrom_46 rfl (lv_at hl 0 rfl) ?_
  refine lv_aload_n hx hb dX7_copyFrom_47 rfl (lv_at hl 1 rfl) ?_
  refine gf_X7_5 hx hb hE hP hown h1 (hE.w qw_144 rfl _) dX7_copyFrom_48 ?_
  refine pf_X7_5 hx hb hE hP hD hS hown h0 (hE.w qw_144 rfl _) dX7_copyFrom_51 (fun G7 H locs eG7 hP hD hS => ?_)
  replace hw := hw G7 eG7
  exact end_v hx hb hr hlk hw hP hD hS dX7_copyFrom_54
def wlX7_legsAt_7 (post : Int32 → GS → Prop) (q0 : Nat) (q1 : Nat) : Nat → GS → Int32 → Int32 → Prop
  | 0, _, _, _ => False
  | n + 1, G, v2, v3 =>
    if 3 ≤ v3 then
  post v2 G
else
  vp_in v3 (ln (q0 + 5)) ∧
    vp_in v3 (ln q1) ∧
    ∀ z5 : Int32, z5 = (v2 + ((G.1 (q0 + 5) v3.toNatClampNeg) * (G.1 q1 v3.toNatClampNeg))) →
    ∀ z6 : Int32, z6 = v3 + 1 →
    wlX7_legsAt_7 post q0 q1 n G z5 z6
def wpX7_legsAt (post : Int32 → GS → Prop) (q0 : Nat) (q1 : Nat) (G : GS) : Prop :=
  ∀ z1 : Int32, z1 = (G.1 q0 1) →
  ∃ nn, wlX7_legsAt_7 post q0 q1 nn G z1 0
set_option maxHeartbeats 4000000 in
set_option maxRecDepth 100000 in
theorem okX7_legsAt (X : Cx) (l : Launch) (hfl : l.stackTraces = false) {post : Int32 → GS → Prop} {q0 : Nat} {q1 : Nat} {G : GS} (h0 : kd q0 = 3) (h1 : kd q1 = 2) (hw : wpX7_legsAt post q0 q1 G) : CT X l yX7_legsAt cX7_legsAt 4 (some FieldType.int) 1 0 0 [.ref (xa X q0), .ref (xa X q1)] G (Qi X post) := by
  refine mbegin (by decide) (Nat.le_of_ble_eq_true rfl) (fun p e s m below meth c hx hb hr hml hlk hown hE hz ls hl hP hD hS => ?_)
  have hl : lv_has ls 4 [(0, .ref (xa X q0)), (1, .ref (xa X q1))] := hl
  have hown : s.vm.findClass "FlyTreasury$Vault" = some m.cls := hown
  have L7 : ∀ (n7 : Nat) (G : GS) (v2 : Int32) (v3 : Int32) (H : Heap) (locs : List Loc) (ls : Array Slot), wlX7_legsAt_7 post q0 q1 n7 G v2 v3 → va_P (xD X) vwCl (pool X G) H → va_D (xA X) (pool X G) → va_S (xA X) s.heap H locs → lv_has ls 4 [(0, .ref (xa X q0)), (1, .ref (xa X q1)), (2, .int v2), (3, .int v3)] → W p l e (rmL 1 0 0) s m [.ref (xa X q0), .ref (xa X q1)].toArray below meth c H locs 0 0 (MQ below (Qi X post) [.ref (xa X q0), .ref (xa X q1)].toArray s 0 0 (xA X)) (F0 m 7 ls []) := by
    intro n7
    induction n7 with
    | zero => intro G v2 v3  H locs ls hw; exact hw.elim
    | succ n7 ih7 =>
      intro G v2 v3  H locs ls hw hP hD hS hl
      rw [wlX7_legsAt_7] at hw
      refine lv_iload_n hx hb dX7_legsAt_7 rfl (lv_at hl 3 rfl) ?_
      refine lv_iconst (v := 3) hx hb dX7_legsAt_8 (by decide) ?_
      refine lv_icmp_ge (tgt := 31) hx hb dX7_legsAt_9 (by decide) (fun c7 => ?_) (fun c7 => ?_)
      · replace hw := ite_t hw c7
        refine lv_iload_n hx hb dX7_legsAt_31 rfl (lv_at hl 2 rfl) ?_
        exact end_i hx hb hr hlk rfl hw hP hD hS dX7_legsAt_32
      · replace hw := ite_f hw c7
        refine lv_iload_n hx hb dX7_legsAt_12 rfl (lv_at hl 2 rfl) ?_
        refine lv_aload_n hx hb dX7_legsAt_13 rfl (lv_at hl 0 rfl) ?_
        refine gf_X7_0 hx hb hE hP hown h0 (hE.w qw_130 rfl _) dX7_legsAt_14 ?_
        refine lv_iload_n hx hb dX7_legsAt_17 rfl (lv_at hl 3 rfl) ?_
        obtain ⟨y8, hw⟩ := hw
        refine ald_2 hx hb hE hP (k3_5 h0) y8 dX7_legsAt_18 ?_
        refine lv_aload_n hx hb dX7_legsAt_19 rfl (lv_at hl 1 rfl) ?_
        refine lv_iload_n hx hb dX7_legsAt_20 rfl (lv_at hl 3 rfl) ?_
        obtain ⟨y9, hw⟩ := hw
        refine ald_2 hx hb hE hP h1 y9 dX7_legsAt_21 ?_
        refine lv_imul hx hb dX7_legsAt_22 ?_
        refine lv_iadd hx hb dX7_legsAt_23 ?_
        refine lv_topi (fun z10 ez10 => ?_)
        replace hw := hw z10 ez10
        refine lv_istore_n (lv' := [(2, .int z10), (0, .ref (xa X q0)), (1, .ref (xa X q1)), (3, .int v3)]) hx hb dX7_legsAt_24 rfl hl (by decide) rfl (fun ls hl => ?_)
        obtain ⟨z11, ez11⟩ : ∃ y : Int32, y = v3 + 1 := ⟨_, rfl⟩
        replace hw := hw z11 ez11
        refine lv_iinc (v := z11) (lv' := [(3, .int z11), (2, .int z10), (0, .ref (xa X q0)), (1, .ref (xa X q1))]) hx hb dX7_legsAt_25 hl (k := 3) rfl (by rw [ez11]; rfl) (by decide) rfl (fun ls hl => ?_)
        refine lv_goto (tgt := 7) hx hb dX7_legsAt_28 (by decide) ?_
        exact ih7 G z10 z11  _ _ _ hw hP hD hS (lv_sub hl [2, 3, 1, 0] rfl)
  unfold wpX7_legsAt at hw
  refine lv_aload_n hx hb dX7_legsAt_0 rfl (lv_at hl 0 rfl) ?_
  refine gf_X7_1 hx hb hE hP hown h0 (hE.w qw_133 rfl _) dX7_legsAt_1 ?_
  refine lv_topi (fun z1 ez1 => ?_)
  replace hw := hw z1 ez1
  refine lv_istore_n (lv' := [(2, .int z1), (0, .ref (xa X q0)), (1, .ref (xa X q1))]) hx hb dX7_legsAt_4 rfl hl (by decide) rfl (fun ls hl => ?_)
  refine lv_iconst (v := 0) hx hb dX7_legsAt_5 (by decide) ?_
  refine lv_istore_n (lv' := [(3, .int 0), (2, .int z1), (0, .ref (xa X q0)), (1, .ref (xa X q1))]) hx hb dX7_legsAt_6 rfl hl (by decide) rfl (fun ls hl => ?_)
  obtain ⟨nn, hw⟩ := hw
  exact L7 nn G z1 0  _ _ _ hw hP hD hS (lv_sub hl [2, 3, 1, 0] rfl)
def wpX7_reserveOf (post : Int32 → GS → Prop) (q0 : Nat) (a1 : Int32) (G : GS) : Prop :=
  post ((a1 * (G.1 q0 4)) / 10) G
set_option maxHeartbeats 4000000 in
set_option maxRecDepth 100000 in
theorem okX7_reserveOf (X : Cx) (l : Launch) (hfl : l.stackTraces = false) {post : Int32 → GS → Prop} {q0 : Nat} {a1 : Int32} {G : GS} (h0 : kd q0 = 3) (hw : wpX7_reserveOf post q0 a1 G) : CT X l yX7_reserveOf cX7_reserveOf 2 (some FieldType.int) 1 0 0 [.ref (xa X q0), .int a1] G (Qi X post) := by
  refine mbegin (by decide) (Nat.le_of_ble_eq_true rfl) (fun p e s m below meth c hx hb hr hml hlk hown hE hz ls hl hP hD hS => ?_)
  have hl : lv_has ls 2 [(0, .ref (xa X q0)), (1, .int a1)] := hl
  have hown : s.vm.findClass "FlyTreasury$Vault" = some m.cls := hown
  unfold wpX7_reserveOf at hw
  refine lv_iload_n hx hb dX7_reserveOf_0 rfl (lv_at hl 1 rfl) ?_
  refine lv_aload_n hx hb dX7_reserveOf_1 rfl (lv_at hl 0 rfl) ?_
  refine gf_X7_4 hx hb hE hP hown h0 (hE.w qw_141 rfl _) dX7_reserveOf_2 ?_
  refine lv_imul hx hb dX7_reserveOf_5 ?_
  refine lv_bipush (v := 10) hx hb dX7_reserveOf_6 (by decide) ?_
  refine lv_idiv hx hb dX7_reserveOf_8 (by decide) ?_
  exact end_i hx hb hr hlk rfl hw hP hD hS dX7_reserveOf_9
def wpX7_backingOf (post : Int32 → GS → Prop) (q0 : Nat) (a1 : Int32) (G : GS) : Prop :=
  wpX7_reserveOf (fun (r2 : Int32) (G1 : GS) =>
  post (a1 - r2) G1) q0 a1 G
set_option maxHeartbeats 4000000 in
set_option maxRecDepth 100000 in
theorem okX7_backingOf (X : Cx) (l : Launch) (hfl : l.stackTraces = false) {post : Int32 → GS → Prop} {q0 : Nat} {a1 : Int32} {G : GS} (h0 : kd q0 = 3) (hw : wpX7_backingOf post q0 a1 G) : CT X l yX7_backingOf cX7_backingOf 2 (some FieldType.int) 2 0 0 [.ref (xa X q0), .int a1] G (Qi X post) := by
  refine mbegin (by decide) (Nat.le_of_ble_eq_true rfl) (fun p e s m below meth c hx hb hr hml hlk hown hE hz ls hl hP hD hS => ?_)
  have hl : lv_has ls 2 [(0, .ref (xa X q0)), (1, .int a1)] := hl
  have hown : s.vm.findClass "FlyTreasury$Vault" = some m.cls := hown
  unfold wpX7_backingOf at hw
  refine lv_iload_n hx hb dX7_backingOf_0 rfl (lv_at hl 1 rfl) ?_
  refine lv_aload_n hx hb dX7_backingOf_1 rfl (lv_at hl 0 rfl) ?_
  refine lv_iload_n hx hb dX7_backingOf_2 rfl (lv_at hl 1 rfl) ?_
  refine call_i (run_V (cc := cX7_backingOf) (As := [.int a1]) (rest := [.int a1]) hx hb hml hown hE hz (okX7_reserveOf X l hfl h0 hw) qw_433 qw_434 qw_435 qw_76 qw_436 (myX7_reserveOf) ⟨Nat.le_of_ble_eq_true rfl, Nat.le_of_ble_eq_true rfl⟩ (rv_X7 hE hP h0) hP hD hS rfl hl.1 rfl (Nat.le_of_ble_eq_true rfl) dX7_backingOf_3 ⟨Nat.le_of_ble_eq_true rfl, Nat.le_of_ble_eq_true rfl⟩) hS (fun r2 G1 H locs hw hP hD hS => ?_)
  refine lv_isub hx hb dX7_backingOf_6 ?_
  exact end_i hx hb hr hlk rfl hw hP hD hS dX7_backingOf_7
def wpX7_soundAt (post : Int32 → GS → Prop) (q0 : Nat) (q1 : Nat) (G : GS) : Prop :=
  wpX7_legsAt (fun (r2 : Int32) (G1 : GS) =>
  wpX7_backingOf (fun (r4 : Int32) (G3 : GS) =>
    if r4 < (G.1 q0 2) then
      post 0 G3
    else
      post 1 G3) q0 r2 G1) q0 q1 G
set_option maxHeartbeats 4000000 in
set_option maxRecDepth 100000 in
theorem okX7_soundAt (X : Cx) (l : Launch) (hfl : l.stackTraces = false) {post : Int32 → GS → Prop} {q0 : Nat} {q1 : Nat} {G : GS} (h0 : kd q0 = 3) (h1 : kd q1 = 2) (hw : wpX7_soundAt post q0 q1 G) : CT X l yX7_soundAt cX7_soundAt 2 (some FieldType.boolean) 3 0 0 [.ref (xa X q0), .ref (xa X q1)] G (Qi X post) := by
  refine mbegin (by decide) (Nat.le_of_ble_eq_true rfl) (fun p e s m below meth c hx hb hr hml hlk hown hE hz ls hl hP hD hS => ?_)
  have hl : lv_has ls 2 [(0, .ref (xa X q0)), (1, .ref (xa X q1))] := hl
  have hown : s.vm.findClass "FlyTreasury$Vault" = some m.cls := hown
  unfold wpX7_soundAt at hw
  refine lv_aload_n hx hb dX7_soundAt_0 rfl (lv_at hl 0 rfl) ?_
  refine gf_X7_2 hx hb hE hP hown h0 (hE.w qw_136 rfl _) dX7_soundAt_1 ?_
  refine lv_aload_n hx hb dX7_soundAt_4 rfl (lv_at hl 0 rfl) ?_
  refine lv_aload_n hx hb dX7_soundAt_5 rfl (lv_at hl 0 rfl) ?_
  refine lv_aload_n hx hb dX7_soundAt_6 rfl (lv_at hl 1 rfl) ?_
  refine call_i (run_V (cc := cX7_soundAt) (As := [.ref (xa X q1)]) (rest := [.ref (xa X q0), .int (G.1 q0 2)]) hx hb hml hown hE hz (okX7_legsAt X l hfl h0 h1 hw) qw_428 qw_359 qw_360 qw_76 qw_361 (myX7_legsAt) ⟨Nat.le_of_ble_eq_true rfl, Nat.le_of_ble_eq_true rfl⟩ (rv_X7 hE hP h0) hP hD hS rfl hl.1 rfl (Nat.le_of_ble_eq_true rfl) dX7_soundAt_7 ⟨Nat.le_of_ble_eq_true rfl, Nat.le_of_ble_eq_true rfl⟩) hS (fun r2 G1 H locs hw hP hD hS => ?_)
  refine call_i (run_V (cc := cX7_soundAt) (As := [.int r2]) (rest := [.int (G.1 q0 2)]) hx hb hml hown hE hz (okX7_backingOf X l hfl h0 hw) qw_429 qw_430 qw_431 qw_76 qw_432 (myX7_backingOf) ⟨Nat.le_of_ble_eq_true rfl, Nat.le_of_ble_eq_true rfl⟩ (rv_X7 hE hP h0) hP hD hS rfl hl.1 rfl (Nat.le_of_ble_eq_true rfl) dX7_soundAt_10 ⟨Nat.le_of_ble_eq_true rfl, Nat.le_of_ble_eq_true rfl⟩) hS (fun r4 G3 H locs hw hP hD hS => ?_)
  refine lv_icmp_gt (tgt := 20) hx hb dX7_soundAt_13 (by decide) (fun c5 => ?_) (fun c5 => ?_)
  · replace hw := ite_t hw c5
    refine lv_iconst (v := 0) hx hb dX7_soundAt_20 (by decide) ?_
    exact end_i hx hb hr hlk (by decide) hw hP hD hS dX7_soundAt_21
  · replace hw := ite_f hw c5
    refine lv_iconst (v := 1) hx hb dX7_soundAt_16 (by decide) ?_
    refine lv_goto (tgt := 21) hx hb dX7_soundAt_17 (by decide) ?_
    exact end_i hx hb hr hlk (by decide) hw hP hD hS dX7_soundAt_21
def wpX7_dropsFreeAt (post : Int32 → GS → Prop) (q0 : Nat) (q1 : Nat) (G : GS) : Prop :=
  wpX7_legsAt (fun (r2 : Int32) (G1 : GS) =>
  wpX7_backingOf (fun (r4 : Int32) (G3 : GS) =>
    post (if 0 < (r4 - (G3.1 q0 2)) then (r4 - (G3.1 q0 2)) else 0) G3) q0 r2 G1) q0 q1 G
set_option maxHeartbeats 4000000 in
set_option maxRecDepth 100000 in
theorem okX7_dropsFreeAt (X : Cx) (l : Launch) (hfl : l.stackTraces = false) {post : Int32 → GS → Prop} {q0 : Nat} {q1 : Nat} {G : GS} (h0 : kd q0 = 3) (h1 : kd q1 = 2) (hw : wpX7_dropsFreeAt post q0 q1 G) : CT X l yX7_dropsFreeAt cX7_dropsFreeAt 2 (some FieldType.int) 3 0 0 [.ref (xa X q0), .ref (xa X q1)] G (Qi X post) := by
  refine mbegin (by decide) (Nat.le_of_ble_eq_true rfl) (fun p e s m below meth c hx hb hr hml hlk hown hE hz ls hl hP hD hS => ?_)
  have hl : lv_has ls 2 [(0, .ref (xa X q0)), (1, .ref (xa X q1))] := hl
  have hown : s.vm.findClass "FlyTreasury$Vault" = some m.cls := hown
  unfold wpX7_dropsFreeAt at hw
  refine lv_iconst (v := 0) hx hb dX7_dropsFreeAt_0 (by decide) ?_
  refine lv_aload_n hx hb dX7_dropsFreeAt_1 rfl (lv_at hl 0 rfl) ?_
  refine lv_aload_n hx hb dX7_dropsFreeAt_2 rfl (lv_at hl 0 rfl) ?_
  refine lv_aload_n hx hb dX7_dropsFreeAt_3 rfl (lv_at hl 1 rfl) ?_
  refine call_i (run_V (cc := cX7_dropsFreeAt) (As := [.ref (xa X q1)]) (rest := [.ref (xa X q0), .int 0]) hx hb hml hown hE hz (okX7_legsAt X l hfl h0 h1 hw) qw_428 qw_359 qw_360 qw_76 qw_361 (myX7_legsAt) ⟨Nat.le_of_ble_eq_true rfl, Nat.le_of_ble_eq_true rfl⟩ (rv_X7 hE hP h0) hP hD hS rfl hl.1 rfl (Nat.le_of_ble_eq_true rfl) dX7_dropsFreeAt_4 ⟨Nat.le_of_ble_eq_true rfl, Nat.le_of_ble_eq_true rfl⟩) hS (fun r2 G1 H locs hw hP hD hS => ?_)
  refine call_i (run_V (cc := cX7_dropsFreeAt) (As := [.int r2]) (rest := [.int 0]) hx hb hml hown hE hz (okX7_backingOf X l hfl h0 hw) qw_429 qw_430 qw_431 qw_76 qw_432 (myX7_backingOf) ⟨Nat.le_of_ble_eq_true rfl, Nat.le_of_ble_eq_true rfl⟩ (rv_X7 hE hP h0) hP hD hS rfl hl.1 rfl (Nat.le_of_ble_eq_true rfl) dX7_dropsFreeAt_7 ⟨Nat.le_of_ble_eq_true rfl, Nat.le_of_ble_eq_true rfl⟩) hS (fun r4 G3 H locs hw hP hD hS => ?_)
  refine lv_aload_n hx hb dX7_dropsFreeAt_10 rfl (lv_at hl 0 rfl) ?_
  refine gf_X7_2 hx hb hE hP hown h0 (hE.w qw_136 rfl _) dX7_dropsFreeAt_11 ?_
  refine lv_isub hx hb dX7_dropsFreeAt_14 ?_
  refine va_mmax hx hb (hml.trans hl.1.symm) hown (hE.w qw_437 rfl _) (hE.w qw_438 rfl _) (hE.w qw_97 rfl _) (hE.w qw_439 rfl _) (Nat.le_of_ble_eq_true rfl) (Nat.le_of_ble_eq_true rfl) (Nat.le_of_ble_eq_true rfl) (Nat.le_of_ble_eq_true rfl) dX7_dropsFreeAt_15 ?_
  exact end_i hx hb hr hlk rfl hw hP hD hS dX7_dropsFreeAt_18
def wpX7_daysBySubtraction (post : Int32 → GS → Prop) (q0 : Nat) (q1 : Nat) (G : GS) : Prop :=
  wpX7_legsAt (fun (r2 : Int32) (G1 : GS) =>
  wpX7_backingOf (fun (r4 : Int32) (G3 : GS) =>
    post (if 0 < ((G.1 q0 2) - r4) then ((G.1 q0 2) - r4) else 0) G3) q0 r2 G1) q0 q1 G
set_option maxHeartbeats 4000000 in
set_option maxRecDepth 100000 in
theorem okX7_daysBySubtraction (X : Cx) (l : Launch) (hfl : l.stackTraces = false) {post : Int32 → GS → Prop} {q0 : Nat} {q1 : Nat} {G : GS} (h0 : kd q0 = 3) (h1 : kd q1 = 2) (hw : wpX7_daysBySubtraction post q0 q1 G) : CT X l yX7_daysBySubtraction cX7_daysBySubtraction 2 (some FieldType.int) 3 0 0 [.ref (xa X q0), .ref (xa X q1)] G (Qi X post) := by
  refine mbegin (by decide) (Nat.le_of_ble_eq_true rfl) (fun p e s m below meth c hx hb hr hml hlk hown hE hz ls hl hP hD hS => ?_)
  have hl : lv_has ls 2 [(0, .ref (xa X q0)), (1, .ref (xa X q1))] := hl
  have hown : s.vm.findClass "FlyTreasury$Vault" = some m.cls := hown
  unfold wpX7_daysBySubtraction at hw
  refine lv_iconst (v := 0) hx hb dX7_daysBySubtraction_0 (by decide) ?_
  refine lv_aload_n hx hb dX7_daysBySubtraction_1 rfl (lv_at hl 0 rfl) ?_
  refine gf_X7_2 hx hb hE hP hown h0 (hE.w qw_136 rfl _) dX7_daysBySubtraction_2 ?_
  refine lv_aload_n hx hb dX7_daysBySubtraction_5 rfl (lv_at hl 0 rfl) ?_
  refine lv_aload_n hx hb dX7_daysBySubtraction_6 rfl (lv_at hl 0 rfl) ?_
  refine lv_aload_n hx hb dX7_daysBySubtraction_7 rfl (lv_at hl 1 rfl) ?_
  refine call_i (run_V (cc := cX7_daysBySubtraction) (As := [.ref (xa X q1)]) (rest := [.ref (xa X q0), .int (G.1 q0 2), .int 0]) hx hb hml hown hE hz (okX7_legsAt X l hfl h0 h1 hw) qw_428 qw_359 qw_360 qw_76 qw_361 (myX7_legsAt) ⟨Nat.le_of_ble_eq_true rfl, Nat.le_of_ble_eq_true rfl⟩ (rv_X7 hE hP h0) hP hD hS rfl hl.1 rfl (Nat.le_of_ble_eq_true rfl) dX7_daysBySubtraction_8 ⟨Nat.le_of_ble_eq_true rfl, Nat.le_of_ble_eq_true rfl⟩) hS (fun r2 G1 H locs hw hP hD hS => ?_)
  refine call_i (run_V (cc := cX7_daysBySubtraction) (As := [.int r2]) (rest := [.int (G.1 q0 2), .int 0]) hx hb hml hown hE hz (okX7_backingOf X l hfl h0 hw) qw_429 qw_430 qw_431 qw_76 qw_432 (myX7_backingOf) ⟨Nat.le_of_ble_eq_true rfl, Nat.le_of_ble_eq_true rfl⟩ (rv_X7 hE hP h0) hP hD hS rfl hl.1 rfl (Nat.le_of_ble_eq_true rfl) dX7_daysBySubtraction_11 ⟨Nat.le_of_ble_eq_true rfl, Nat.le_of_ble_eq_true rfl⟩) hS (fun r4 G3 H locs hw hP hD hS => ?_)
  refine lv_isub hx hb dX7_daysBySubtraction_14 ?_
  refine va_mmax hx hb (hml.trans hl.1.symm) hown (hE.w qw_437 rfl _) (hE.w qw_438 rfl _) (hE.w qw_97 rfl _) (hE.w qw_439 rfl _) (Nat.le_of_ble_eq_true rfl) (Nat.le_of_ble_eq_true rfl) (Nat.le_of_ble_eq_true rfl) (Nat.le_of_ble_eq_true rfl) dX7_daysBySubtraction_15 ?_
  exact end_i hx hb hr hlk rfl hw hP hD hS dX7_daysBySubtraction_18
def wlX7_daysByCounting_18 (post : Int32 → GS → Prop) (q0 : Nat) (q1 : Nat) : Nat → GS → Int32 → Int32 → Int32 → Prop
  | 0, _, _, _, _ => False
  | n + 1, G, v2, v3, v4 =>
    if v4 ≤ v2 then
  post v3 G
else
  if v4 ≤ 0 then
    post v3 G
  else
    ∀ z8 : Int32, z8 = v3 + 1 →
      ∀ z9 : Int32, z9 = v4 + (-1) →
      wlX7_daysByCounting_18 post q0 q1 n G v2 z8 z9
def wpX7_daysByCounting (post : Int32 → GS → Prop) (q0 : Nat) (q1 : Nat) (G : GS) : Prop :=
  wpX7_legsAt (fun (r2 : Int32) (G1 : GS) =>
  wpX7_backingOf (fun (r4 : Int32) (G3 : GS) =>
    ∀ z5 : Int32, z5 = (G3.1 q0 2) →
      ∃ nn, wlX7_daysByCounting_18 post q0 q1 nn G3 r4 0 z5) q0 r2 G1) q0 q1 G
set_option maxHeartbeats 4000000 in
set_option maxRecDepth 100000 in
theorem okX7_daysByCounting (X : Cx) (l : Launch) (hfl : l.stackTraces = false) {post : Int32 → GS → Prop} {q0 : Nat} {q1 : Nat} {G : GS} (h0 : kd q0 = 3) (h1 : kd q1 = 2) (hw : wpX7_daysByCounting post q0 q1 G) : CT X l yX7_daysByCounting cX7_daysByCounting 5 (some FieldType.int) 3 0 0 [.ref (xa X q0), .ref (xa X q1)] G (Qi X post) := by
  refine mbegin (by decide) (Nat.le_of_ble_eq_true rfl) (fun p e s m below meth c hx hb hr hml hlk hown hE hz ls hl hP hD hS => ?_)
  have hl : lv_has ls 5 [(0, .ref (xa X q0)), (1, .ref (xa X q1))] := hl
  have hown : s.vm.findClass "FlyTreasury$Vault" = some m.cls := hown
  have L18 : ∀ (n18 : Nat) (G : GS) (v2 : Int32) (v3 : Int32) (v4 : Int32) (H : Heap) (locs : List Loc) (ls : Array Slot), wlX7_daysByCounting_18 post q0 q1 n18 G v2 v3 v4 → va_P (xD X) vwCl (pool X G) H → va_D (xA X) (pool X G) → va_S (xA X) s.heap H locs → lv_has ls 5 [(2, .int v2), (3, .int v3), (4, .int v4)] → W p l e (rmL 3 0 0) s m [.ref (xa X q0), .ref (xa X q1)].toArray below meth c H locs 0 0 (MQ below (Qi X post) [.ref (xa X q0), .ref (xa X q1)].toArray s 0 0 (xA X)) (F0 m 18 ls []) := by
    intro n18
    induction n18 with
    | zero => intro G v2 v3 v4  H locs ls hw; exact hw.elim
    | succ n18 ih18 =>
      intro G v2 v3 v4  H locs ls hw hP hD hS hl
      rw [wlX7_daysByCounting_18] at hw
      refine lv_iload hx hb dX7_daysByCounting_18 (lv_at hl 2 rfl) ?_
      refine lv_iload_n hx hb dX7_daysByCounting_20 rfl (lv_at hl 0 rfl) ?_
      refine lv_icmp_le (tgt := 38) hx hb dX7_daysByCounting_21 (by decide) (fun c10 => ?_) (fun c10 => ?_)
      · replace hw := ite_t hw c10
        refine lv_iload_n hx hb dX7_daysByCounting_38 rfl (lv_at hl 1 rfl) ?_
        exact end_i hx hb hr hlk rfl hw hP hD hS dX7_daysByCounting_39
      · replace hw := ite_f hw c10
        refine lv_iload hx hb dX7_daysByCounting_24 (lv_at hl 2 rfl) ?_
        refine lv_if_le (tgt := 38) hx hb dX7_daysByCounting_26 (by decide) (fun c11 => ?_) (fun c11 => ?_)
        · replace hw := ite_t hw c11
          refine lv_iload_n hx hb dX7_daysByCounting_38 rfl (lv_at hl 1 rfl) ?_
          exact end_i hx hb hr hlk rfl hw hP hD hS dX7_daysByCounting_39
        · replace hw := ite_f hw c11
          obtain ⟨z12, ez12⟩ : ∃ y : Int32, y = v3 + 1 := ⟨_, rfl⟩
          replace hw := hw z12 ez12
          refine lv_iinc (v := z12) (lv' := [(3, .int z12), (2, .int v2), (4, .int v4)]) hx hb dX7_daysByCounting_29 hl (k := 1) rfl (by rw [ez12]; rfl) (by decide) rfl (fun ls hl => ?_)
          obtain ⟨z13, ez13⟩ : ∃ y : Int32, y = v4 + (-1) := ⟨_, rfl⟩
          replace hw := hw z13 ez13
          refine lv_iinc (v := z13) (lv' := [(4, .int z13), (3, .int z12), (2, .int v2)]) hx hb dX7_daysByCounting_32 hl (k := 2) rfl (by rw [ez13]; rfl) (by decide) rfl (fun ls hl => ?_)
          refine lv_goto (tgt := 18) hx hb dX7_daysByCounting_35 (by decide) ?_
          exact ih18 G v2 z12 z13  _ _ _ hw hP hD hS (lv_sub hl [2, 1, 0] rfl)
  unfold wpX7_daysByCounting at hw
  refine lv_aload_n hx hb dX7_daysByCounting_0 rfl (lv_at hl 0 rfl) ?_
  refine lv_aload_n hx hb dX7_daysByCounting_1 rfl (lv_at hl 0 rfl) ?_
  refine lv_aload_n hx hb dX7_daysByCounting_2 rfl (lv_at hl 1 rfl) ?_
  refine call_i (run_V (cc := cX7_daysByCounting) (As := [.ref (xa X q1)]) (rest := [.ref (xa X q0)]) hx hb hml hown hE hz (okX7_legsAt X l hfl h0 h1 hw) qw_428 qw_359 qw_360 qw_76 qw_361 (myX7_legsAt) ⟨Nat.le_of_ble_eq_true rfl, Nat.le_of_ble_eq_true rfl⟩ (rv_X7 hE hP h0) hP hD hS rfl hl.1 rfl (Nat.le_of_ble_eq_true rfl) dX7_daysByCounting_3 ⟨Nat.le_of_ble_eq_true rfl, Nat.le_of_ble_eq_true rfl⟩) hS (fun r2 G1 H locs hw hP hD hS => ?_)
  refine call_i (run_V (cc := cX7_daysByCounting) (As := [.int r2]) (rest := []) hx hb hml hown hE hz (okX7_backingOf X l hfl h0 hw) qw_429 qw_430 qw_431 qw_76 qw_432 (myX7_backingOf) ⟨Nat.le_of_ble_eq_true rfl, Nat.le_of_ble_eq_true rfl⟩ (rv_X7 hE hP h0) hP hD hS rfl hl.1 rfl (Nat.le_of_ble_eq_true rfl) dX7_daysByCounting_6 ⟨Nat.le_of_ble_eq_true rfl, Nat.le_of_ble_eq_true rfl⟩) hS (fun r4 G3 H locs hw hP hD hS => ?_)
  refine lv_istore_n (lv' := [(2, .int r4), (0, .ref (xa X q0)), (1, .ref (xa X q1))]) hx hb dX7_daysByCounting_9 rfl hl (by decide) rfl (fun ls hl => ?_)
  refine lv_iconst (v := 0) hx hb dX7_daysByCounting_10 (by decide) ?_
  refine lv_istore_n (lv' := [(3, .int 0), (2, .int r4), (0, .ref (xa X q0)), (1, .ref (xa X q1))]) hx hb dX7_daysByCounting_11 rfl hl (by decide) rfl (fun ls hl => ?_)
  refine lv_aload_n hx hb dX7_daysByCounting_12 rfl (lv_at hl 2 rfl) ?_
  refine gf_X7_2 hx hb hE hP hown h0 (hE.w qw_136 rfl _) dX7_daysByCounting_13 ?_
  refine lv_topi (fun z5 ez5 => ?_)
  replace hw := hw z5 ez5
  refine lv_istore (lv' := [(4, .int z5), (3, .int 0), (2, .int r4), (0, .ref (xa X q0)), (1, .ref (xa X q1))]) hx hb dX7_daysByCounting_16 hl (by decide) rfl (fun ls hl => ?_)
  obtain ⟨nn, hw⟩ := hw
  exact L18 nn G3 r4 0 z5  _ _ _ hw hP hD hS (lv_sub hl [2, 1, 0] rfl)
def wpX7_mostByValue (post : Int32 → GS → Prop) (q0 : Nat) (a1 : Int32) (q2 : Nat) (G : GS) : Prop :=
  wpX7_legsAt (fun (r2 : Int32) (G1 : GS) =>
  vp_in a1 (ln q2) ∧
    wpX8_quotient (fun (r5 : Int32) (G4 : GS) =>
    post r5 G4) r2 (G1.1 q2 a1.toNatClampNeg) G1) q0 q2 G
set_option maxHeartbeats 4000000 in
set_option maxRecDepth 100000 in
theorem okX7_mostByValue (X : Cx) (l : Launch) (hfl : l.stackTraces = false) {post : Int32 → GS → Prop} {q0 : Nat} {a1 : Int32} {q2 : Nat} {G : GS} (h0 : kd q0 = 3) (h2 : kd q2 = 2) (hw : wpX7_mostByValue post q0 a1 q2 G) : CT X l yX7_mostByValue cX7_mostByValue 3 (some FieldType.int) 2 0 0 [.ref (xa X q0), .int a1, .ref (xa X q2)] G (Qi X post) := by
  refine mbegin (by decide) (Nat.le_of_ble_eq_true rfl) (fun p e s m below meth c hx hb hr hml hlk hown hE hz ls hl hP hD hS => ?_)
  have hl : lv_has ls 3 [(0, .ref (xa X q0)), (1, .int a1), (2, .ref (xa X q2))] := hl
  have hown : s.vm.findClass "FlyTreasury$Vault" = some m.cls := hown
  unfold wpX7_mostByValue at hw
  refine lv_aload_n hx hb dX7_mostByValue_0 rfl (lv_at hl 0 rfl) ?_
  refine lv_aload_n hx hb dX7_mostByValue_1 rfl (lv_at hl 2 rfl) ?_
  refine call_i (run_V (cc := cX7_mostByValue) (As := [.ref (xa X q2)]) (rest := []) hx hb hml hown hE hz (okX7_legsAt X l hfl h0 h2 hw) qw_428 qw_359 qw_360 qw_76 qw_361 (myX7_legsAt) ⟨Nat.le_of_ble_eq_true rfl, Nat.le_of_ble_eq_true rfl⟩ (rv_X7 hE hP h0) hP hD hS rfl hl.1 rfl (Nat.le_of_ble_eq_true rfl) dX7_mostByValue_2 ⟨Nat.le_of_ble_eq_true rfl, Nat.le_of_ble_eq_true rfl⟩) hS (fun r2 G1 H locs hw hP hD hS => ?_)
  refine lv_aload_n hx hb dX7_mostByValue_5 rfl (lv_at hl 2 rfl) ?_
  refine lv_iload_n hx hb dX7_mostByValue_6 rfl (lv_at hl 1 rfl) ?_
  obtain ⟨y3, hw⟩ := hw
  refine ald_2 hx hb hE hP h2 y3 dX7_mostByValue_7 ?_
  refine call_i (run_SN (cc := cX7_mostByValue) (As := [.int r2, .int (G1.1 q2 a1.toNatClampNeg)]) (rest := []) hx hb hml hown hE hz (okX8_quotient X l hfl  hw) qw_1309 qw_1048 qw_74 qw_1049 (myX8_quotient).2 ⟨Nat.le_of_ble_eq_true rfl, Nat.le_of_ble_eq_true rfl⟩ hP hD hS rfl hl.1 rfl (Nat.le_of_ble_eq_true rfl) dX7_mostByValue_8 ⟨Nat.le_of_ble_eq_true rfl, Nat.le_of_ble_eq_true rfl⟩) hS (fun r5 G4 H locs hw hP hD hS => ?_)
  exact end_i hx hb hr hlk rfl hw hP hD hS dX7_mostByValue_11
def wlX7_mostBySwaps_19 (post : Int32 → GS → Prop) (q0 : Nat) (a1 : Int32) (q2 : Nat) : Nat → GS → Int32 → Int32 → Int32 → Int32 → Prop
  | 0, _, _, _, _, _ => False
  | n + 1, G, v3, v4, v5, v6 =>
    if 3 ≤ v6 then
  if v5 = 0 then
    vp_in a1 (ln q2) ∧
      wpX8_quotient (fun (r8 : Int32) (G7 : GS) =>
      post (v3 + r8) G7) v4 (G.1 q2 a1.toNatClampNeg) G
  else
    post v3 G
else
  if v6 = a1 then
    ∀ z10 : Int32, z10 = v6 + 1 →
      wlX7_mostBySwaps_19 post q0 a1 q2 n G v3 v4 v5 z10
  else
    vp_in v6 (ln (q0 + 5)) ∧
      if (G.1 (q0 + 5) v6.toNatClampNeg) ≤ 0 then
      ∀ z13 : Int32, z13 = v6 + 1 →
        wlX7_mostBySwaps_19 post q0 a1 q2 n G v3 v4 v5 z13
    else
      vp_in v6 (ln (q0 + 5)) ∧
        vp_in v6 (ln q2) ∧
        ∀ z16 : Int32, z16 = (((G.1 (q0 + 5) v6.toNatClampNeg) * (G.1 q2 v6.toNatClampNeg)) + v4) →
        vp_in a1 (ln q2) ∧
        wpX8_quotient (fun (r19 : Int32) (G18 : GS) =>
        ∀ z20 : Int32, z20 = (v3 + r19) →
          vp_in a1 (ln q2) ∧
          ∀ z22 : Int32, z22 = (z16 - (r19 * (G18.1 q2 a1.toNatClampNeg))) →
          ∀ z23 : Int32, z23 = v6 + 1 →
          wlX7_mostBySwaps_19 post q0 a1 q2 n G18 z20 z22 1 z23) z16 (G.1 q2 a1.toNatClampNeg) G
def wpX7_mostBySwaps (post : Int32 → GS → Prop) (q0 : Nat) (a1 : Int32) (q2 : Nat) (G : GS) : Prop :=
  vp_in a1 (ln (q0 + 5)) ∧
  ∀ z2 : Int32, z2 = (G.1 (q0 + 5) a1.toNatClampNeg) →
  ∀ z3 : Int32, z3 = (G.1 q0 1) →
  ∃ nn, wlX7_mostBySwaps_19 post q0 a1 q2 nn G z2 z3 0 0
set_option maxHeartbeats 4000000 in
set_option maxRecDepth 100000 in
theorem okX7_mostBySwaps (X : Cx) (l : Launch) (hfl : l.stackTraces = false) {post : Int32 → GS → Prop} {q0 : Nat} {a1 : Int32} {q2 : Nat} {G : GS} (h0 : kd q0 = 3) (h2 : kd q2 = 2) (hw : wpX7_mostBySwaps post q0 a1 q2 G) : CT X l yX7_mostBySwaps cX7_mostBySwaps 9 (some FieldType.int) 2 0 0 [.ref (xa X q0), .int a1, .ref (xa X q2)] G (Qi X post) := by
  refine mbegin (by decide) (Nat.le_of_ble_eq_true rfl) (fun p e s m below meth c hx hb hr hml hlk hown hE hz ls hl hP hD hS => ?_)
  have hl : lv_has ls 9 [(0, .ref (xa X q0)), (1, .int a1), (2, .ref (xa X q2))] := hl
  have hown : s.vm.findClass "FlyTreasury$Vault" = some m.cls := hown
  have L19 : ∀ (n19 : Nat) (G : GS) (v3 : Int32) (v4 : Int32) (v5 : Int32) (v6 : Int32) (H : Heap) (locs : List Loc) (ls : Array Slot), wlX7_mostBySwaps_19 post q0 a1 q2 n19 G v3 v4 v5 v6 → va_P (xD X) vwCl (pool X G) H → va_D (xA X) (pool X G) → va_S (xA X) s.heap H locs → lv_has ls 9 [(0, .ref (xa X q0)), (1, .int a1), (2, .ref (xa X q2)), (3, .int v3), (4, .int v4), (5, .int v5), (6, .int v6)] → W p l e (rmL 2 0 0) s m [.ref (xa X q0), .int a1, .ref (xa X q2)].toArray below meth c H locs 0 0 (MQ below (Qi X post) [.ref (xa X q0), .int a1, .ref (xa X q2)].toArray s 0 0 (xA X)) (F0 m 19 ls []) := by
    intro n19
    induction n19 with
    | zero => intro G v3 v4 v5 v6  H locs ls hw; exact hw.elim
    | succ n19 ih19 =>
      intro G v3 v4 v5 v6  H locs ls hw hP hD hS hl
      rw [wlX7_mostBySwaps_19] at hw
      refine lv_iload hx hb dX7_mostBySwaps_19 (lv_at hl 6 rfl) ?_
      refine lv_iconst (v := 3) hx hb dX7_mostBySwaps_21 (by decide) ?_
      refine lv_icmp_ge (tgt := 93) hx hb dX7_mostBySwaps_22 (by decide) (fun c24 => ?_) (fun c24 => ?_)
      · replace hw := ite_t hw c24
        refine lv_iload hx hb dX7_mostBySwaps_93 (lv_at hl 5 rfl) ?_
        refine lv_if_eq (tgt := 102) hx hb dX7_mostBySwaps_95 (by decide) (fun c25 => ?_) (fun c25 => ?_)
        · replace hw := ite_t hw c25
          refine lv_iload_n hx hb dX7_mostBySwaps_102 rfl (lv_at hl 3 rfl) ?_
          refine lv_iload hx hb dX7_mostBySwaps_103 (lv_at hl 4 rfl) ?_
          refine lv_aload_n hx hb dX7_mostBySwaps_105 rfl (lv_at hl 2 rfl) ?_
          refine lv_iload_n hx hb dX7_mostBySwaps_106 rfl (lv_at hl 1 rfl) ?_
          obtain ⟨y26, hw⟩ := hw
          refine ald_2 hx hb hE hP h2 y26 dX7_mostBySwaps_107 ?_
          refine call_i (run_SN (cc := cX7_mostBySwaps) (As := [.int v4, .int (G.1 q2 a1.toNatClampNeg)]) (rest := [.int v3]) hx hb hml hown hE hz (okX8_quotient X l hfl  hw) qw_1309 qw_1048 qw_74 qw_1049 (myX8_quotient).2 ⟨Nat.le_of_ble_eq_true rfl, Nat.le_of_ble_eq_true rfl⟩ hP hD hS rfl hl.1 rfl (Nat.le_of_ble_eq_true rfl) dX7_mostBySwaps_108 ⟨Nat.le_of_ble_eq_true rfl, Nat.le_of_ble_eq_true rfl⟩) hS (fun r28 G27 H locs hw hP hD hS => ?_)
          refine lv_iadd hx hb dX7_mostBySwaps_111 ?_
          exact end_i hx hb hr hlk rfl hw hP hD hS dX7_mostBySwaps_112
        · replace hw := ite_f hw c25
          refine lv_iload_n hx hb dX7_mostBySwaps_98 rfl (lv_at hl 3 rfl) ?_
          refine lv_goto (tgt := 112) hx hb dX7_mostBySwaps_99 (by decide) ?_
          exact end_i hx hb hr hlk rfl hw hP hD hS dX7_mostBySwaps_112
      · replace hw := ite_f hw c24
        refine lv_iload hx hb dX7_mostBySwaps_25 (lv_at hl 6 rfl) ?_
        refine lv_iload_n hx hb dX7_mostBySwaps_27 rfl (lv_at hl 1 rfl) ?_
        refine lv_icmp_eq (tgt := 87) hx hb dX7_mostBySwaps_28 (by decide) (fun c29 => ?_) (fun c29 => ?_)
        · replace hw := ite_t hw c29
          obtain ⟨z30, ez30⟩ : ∃ y : Int32, y = v6 + 1 := ⟨_, rfl⟩
          replace hw := hw z30 ez30
          refine lv_iinc (v := z30) (lv' := [(6, .int z30), (0, .ref (xa X q0)), (1, .int a1), (2, .ref (xa X q2)), (3, .int v3), (4, .int v4), (5, .int v5)]) hx hb dX7_mostBySwaps_87 hl (k := 6) rfl (by rw [ez30]; rfl) (by decide) rfl (fun ls hl => ?_)
          refine lv_goto (tgt := 19) hx hb dX7_mostBySwaps_90 (by decide) ?_
          exact ih19 G v3 v4 v5 z30  _ _ _ hw hP hD hS (lv_sub hl [1, 2, 3, 4, 5, 6, 0] rfl)
        · replace hw := ite_f hw c29
          refine lv_aload_n hx hb dX7_mostBySwaps_31 rfl (lv_at hl 0 rfl) ?_
          refine gf_X7_0 hx hb hE hP hown h0 (hE.w qw_130 rfl _) dX7_mostBySwaps_32 ?_
          refine lv_iload hx hb dX7_mostBySwaps_35 (lv_at hl 6 rfl) ?_
          obtain ⟨y31, hw⟩ := hw
          refine ald_2 hx hb hE hP (k3_5 h0) y31 dX7_mostBySwaps_37 ?_
          refine lv_if_le (tgt := 87) hx hb dX7_mostBySwaps_38 (by decide) (fun c32 => ?_) (fun c32 => ?_)
          · replace hw := ite_t hw c32
            obtain ⟨z33, ez33⟩ : ∃ y : Int32, y = v6 + 1 := ⟨_, rfl⟩
            replace hw := hw z33 ez33
            refine lv_iinc (v := z33) (lv' := [(6, .int z33), (0, .ref (xa X q0)), (1, .int a1), (2, .ref (xa X q2)), (3, .int v3), (4, .int v4), (5, .int v5)]) hx hb dX7_mostBySwaps_87 hl (k := 6) rfl (by rw [ez33]; rfl) (by decide) rfl (fun ls hl => ?_)
            refine lv_goto (tgt := 19) hx hb dX7_mostBySwaps_90 (by decide) ?_
            exact ih19 G v3 v4 v5 z33  _ _ _ hw hP hD hS (lv_sub hl [1, 2, 3, 4, 5, 6, 0] rfl)
          · replace hw := ite_f hw c32
            refine lv_aload_n hx hb dX7_mostBySwaps_41 rfl (lv_at hl 0 rfl) ?_
            refine gf_X7_0 hx hb hE hP hown h0 (hE.w qw_130 rfl _) dX7_mostBySwaps_42 ?_
            refine lv_iload hx hb dX7_mostBySwaps_45 (lv_at hl 6 rfl) ?_
            obtain ⟨y34, hw⟩ := hw
            refine ald_2 hx hb hE hP (k3_5 h0) y34 dX7_mostBySwaps_47 ?_
            refine lv_aload_n hx hb dX7_mostBySwaps_48 rfl (lv_at hl 2 rfl) ?_
            refine lv_iload hx hb dX7_mostBySwaps_49 (lv_at hl 6 rfl) ?_
            obtain ⟨y35, hw⟩ := hw
            refine ald_2 hx hb hE hP h2 y35 dX7_mostBySwaps_51 ?_
            refine lv_imul hx hb dX7_mostBySwaps_52 ?_
            refine lv_iload hx hb dX7_mostBySwaps_53 (lv_at hl 4 rfl) ?_
            refine lv_iadd hx hb dX7_mostBySwaps_55 ?_
            refine lv_topi (fun z36 ez36 => ?_)
            replace hw := hw z36 ez36
            refine lv_istore (lv' := [(7, .int z36), (0, .ref (xa X q0)), (1, .int a1), (2, .ref (xa X q2)), (3, .int v3), (4, .int v4), (5, .int v5), (6, .int v6)]) hx hb dX7_mostBySwaps_56 hl (by decide) rfl (fun ls hl => ?_)
            refine lv_iload hx hb dX7_mostBySwaps_58 (lv_at hl 0 rfl) ?_
            refine lv_aload_n hx hb dX7_mostBySwaps_60 rfl (lv_at hl 3 rfl) ?_
            refine lv_iload_n hx hb dX7_mostBySwaps_61 rfl (lv_at hl 2 rfl) ?_
            obtain ⟨y37, hw⟩ := hw
            refine ald_2 hx hb hE hP h2 y37 dX7_mostBySwaps_62 ?_
            refine call_i (run_SN (cc := cX7_mostBySwaps) (As := [.int z36, .int (G.1 q2 a1.toNatClampNeg)]) (rest := []) hx hb hml hown hE hz (okX8_quotient X l hfl  hw) qw_1309 qw_1048 qw_74 qw_1049 (myX8_quotient).2 ⟨Nat.le_of_ble_eq_true rfl, Nat.le_of_ble_eq_true rfl⟩ hP hD hS rfl hl.1 rfl (Nat.le_of_ble_eq_true rfl) dX7_mostBySwaps_63 ⟨Nat.le_of_ble_eq_true rfl, Nat.le_of_ble_eq_true rfl⟩) hS (fun r39 G38 H locs hw hP hD hS => ?_)
            refine lv_istore (lv' := [(8, .int r39), (7, .int z36), (0, .ref (xa X q0)), (1, .int a1), (2, .ref (xa X q2)), (3, .int v3), (4, .int v4), (5, .int v5), (6, .int v6)]) hx hb dX7_mostBySwaps_66 hl (by decide) rfl (fun ls hl => ?_)
            refine lv_iload_n hx hb dX7_mostBySwaps_68 rfl (lv_at hl 5 rfl) ?_
            refine lv_iload hx hb dX7_mostBySwaps_69 (lv_at hl 0 rfl) ?_
            refine lv_iadd hx hb dX7_mostBySwaps_71 ?_
            refine lv_topi (fun z40 ez40 => ?_)
            replace hw := hw z40 ez40
            refine lv_istore_n (lv' := [(3, .int z40), (8, .int r39), (7, .int z36), (0, .ref (xa X q0)), (1, .int a1), (2, .ref (xa X q2)), (4, .int v4), (5, .int v5), (6, .int v6)]) hx hb dX7_mostBySwaps_72 rfl hl (by decide) rfl (fun ls hl => ?_)
            refine lv_iload hx hb dX7_mostBySwaps_73 (lv_at hl 2 rfl) ?_
            refine lv_iload hx hb dX7_mostBySwaps_75 (lv_at hl 1 rfl) ?_
            refine lv_aload_n hx hb dX7_mostBySwaps_77 rfl (lv_at hl 5 rfl) ?_
            refine lv_iload_n hx hb dX7_mostBySwaps_78 rfl (lv_at hl 4 rfl) ?_
            obtain ⟨y41, hw⟩ := hw
            refine ald_2 hx hb hE hP h2 y41 dX7_mostBySwaps_79 ?_
            refine lv_imul hx hb dX7_mostBySwaps_80 ?_
            refine lv_isub hx hb dX7_mostBySwaps_81 ?_
            refine lv_topi (fun z42 ez42 => ?_)
            replace hw := hw z42 ez42
            refine lv_istore (lv' := [(4, .int z42), (3, .int z40), (8, .int r39), (7, .int z36), (0, .ref (xa X q0)), (1, .int a1), (2, .ref (xa X q2)), (5, .int v5), (6, .int v6)]) hx hb dX7_mostBySwaps_82 hl (by decide) rfl (fun ls hl => ?_)
            refine lv_iconst (v := 1) hx hb dX7_mostBySwaps_84 (by decide) ?_
            refine lv_istore (lv' := [(5, .int 1), (4, .int z42), (3, .int z40), (8, .int r39), (7, .int z36), (0, .ref (xa X q0)), (1, .int a1), (2, .ref (xa X q2)), (6, .int v6)]) hx hb dX7_mostBySwaps_85 hl (by decide) rfl (fun ls hl => ?_)
            obtain ⟨z43, ez43⟩ : ∃ y : Int32, y = v6 + 1 := ⟨_, rfl⟩
            replace hw := hw z43 ez43
            refine lv_iinc (v := z43) (lv' := [(6, .int z43), (5, .int 1), (4, .int z42), (3, .int z40), (8, .int r39), (7, .int z36), (0, .ref (xa X q0)), (1, .int a1), (2, .ref (xa X q2))]) hx hb dX7_mostBySwaps_87 hl (k := 8) rfl (by rw [ez43]; rfl) (by decide) rfl (fun ls hl => ?_)
            refine lv_goto (tgt := 19) hx hb dX7_mostBySwaps_90 (by decide) ?_
            exact ih19 G38 z40 z42 1 z43  _ _ _ hw hP hD hS (lv_sub hl [6, 7, 8, 3, 2, 1, 0] rfl)
  unfold wpX7_mostBySwaps at hw
  refine lv_aload_n hx hb dX7_mostBySwaps_0 rfl (lv_at hl 0 rfl) ?_
  refine gf_X7_0 hx hb hE hP hown h0 (hE.w qw_130 rfl _) dX7_mostBySwaps_1 ?_
  refine lv_iload_n hx hb dX7_mostBySwaps_4 rfl (lv_at hl 1 rfl) ?_
  obtain ⟨y1, hw⟩ := hw
  refine ald_2 hx hb hE hP (k3_5 h0) y1 dX7_mostBySwaps_5 ?_
  refine lv_topi (fun z2 ez2 => ?_)
  replace hw := hw z2 ez2
  refine lv_istore_n (lv' := [(3, .int z2), (0, .ref (xa X q0)), (1, .int a1), (2, .ref (xa X q2))]) hx hb dX7_mostBySwaps_6 rfl hl (by decide) rfl (fun ls hl => ?_)
  refine lv_aload_n hx hb dX7_mostBySwaps_7 rfl (lv_at hl 1 rfl) ?_
  refine gf_X7_1 hx hb hE hP hown h0 (hE.w qw_133 rfl _) dX7_mostBySwaps_8 ?_
  refine lv_topi (fun z3 ez3 => ?_)
  replace hw := hw z3 ez3
  refine lv_istore (lv' := [(4, .int z3), (3, .int z2), (0, .ref (xa X q0)), (1, .int a1), (2, .ref (xa X q2))]) hx hb dX7_mostBySwaps_11 hl (by decide) rfl (fun ls hl => ?_)
  refine lv_iconst (v := 0) hx hb dX7_mostBySwaps_13 (by decide) ?_
  refine lv_istore (lv' := [(5, .int 0), (4, .int z3), (3, .int z2), (0, .ref (xa X q0)), (1, .int a1), (2, .ref (xa X q2))]) hx hb dX7_mostBySwaps_14 hl (by decide) rfl (fun ls hl => ?_)
  refine lv_iconst (v := 0) hx hb dX7_mostBySwaps_16 (by decide) ?_
  refine lv_istore (lv' := [(6, .int 0), (5, .int 0), (4, .int z3), (3, .int z2), (0, .ref (xa X q0)), (1, .int a1), (2, .ref (xa X q2))]) hx hb dX7_mostBySwaps_17 hl (by decide) rfl (fun ls hl => ?_)
  obtain ⟨nn, hw⟩ := hw
  exact L19 nn G z2 z3 0 0  _ _ _ hw hP hD hS (lv_sub hl [4, 5, 6, 3, 2, 1, 0] rfl)
def wpX7_frozen (post : Int32 → GS → Prop) (q0 : Nat) (G : GS) : Prop :=
  if (G.1 q0 5) ≤ 0 then
  post 0 G
else
  post 1 G
set_option maxHeartbeats 4000000 in
set_option maxRecDepth 100000 in
theorem okX7_frozen (X : Cx) (l : Launch) (hfl : l.stackTraces = false) {post : Int32 → GS → Prop} {q0 : Nat} {G : GS} (h0 : kd q0 = 3) (hw : wpX7_frozen post q0 G) : CT X l yX7_frozen cX7_frozen 1 (some FieldType.boolean) 1 0 0 [.ref (xa X q0)] G (Qi X post) := by
  refine mbegin (by decide) (Nat.le_of_ble_eq_true rfl) (fun p e s m below meth c hx hb hr hml hlk hown hE hz ls hl hP hD hS => ?_)
  have hl : lv_has ls 1 [(0, .ref (xa X q0))] := hl
  have hown : s.vm.findClass "FlyTreasury$Vault" = some m.cls := hown
  unfold wpX7_frozen at hw
  refine lv_aload_n hx hb dX7_frozen_0 rfl (lv_at hl 0 rfl) ?_
  refine gf_X7_5 hx hb hE hP hown h0 (hE.w qw_144 rfl _) dX7_frozen_1 ?_
  refine lv_if_le (tgt := 11) hx hb dX7_frozen_4 (by decide) (fun c1 => ?_) (fun c1 => ?_)
  · replace hw := ite_t hw c1
    refine lv_iconst (v := 0) hx hb dX7_frozen_11 (by decide) ?_
    exact end_i hx hb hr hlk (by decide) hw hP hD hS dX7_frozen_12
  · replace hw := ite_f hw c1
    refine lv_iconst (v := 1) hx hb dX7_frozen_7 (by decide) ?_
    refine lv_goto (tgt := 12) hx hb dX7_frozen_8 (by decide) ?_
    exact end_i hx hb hr hlk (by decide) hw hP hD hS dX7_frozen_12
def wpX7_reward (post : GS → Prop) (q0 : Nat) (G : GS) : Prop :=
  ∀ G1 : GS, G1 = gI G q0 3 (if 3 < ((G.1 q0 3) + 1) then 3 else ((G.1 q0 3) + 1)) →
  post G1
set_option maxHeartbeats 4000000 in
set_option maxRecDepth 100000 in
theorem okX7_reward (X : Cx) (l : Launch) (hfl : l.stackTraces = false) {post : GS → Prop} {q0 : Nat} {G : GS} (h0 : kd q0 = 3) (hw : wpX7_reward post q0 G) : CT X l yX7_reward cX7_reward 1 none 1 0 0 [.ref (xa X q0)] G (Qv X post) := by
  refine mbegin (by decide) (Nat.le_of_ble_eq_true rfl) (fun p e s m below meth c hx hb hr hml hlk hown hE hz ls hl hP hD hS => ?_)
  have hl : lv_has ls 1 [(0, .ref (xa X q0))] := hl
  have hown : s.vm.findClass "FlyTreasury$Vault" = some m.cls := hown
  unfold wpX7_reward at hw
  refine lv_aload_n hx hb dX7_reward_0 rfl (lv_at hl 0 rfl) ?_
  refine lv_aload_n hx hb dX7_reward_1 rfl (lv_at hl 0 rfl) ?_
  refine gf_X7_3 hx hb hE hP hown h0 (hE.w qw_139 rfl _) dX7_reward_2 ?_
  refine lv_iconst (v := 1) hx hb dX7_reward_5 (by decide) ?_
  refine lv_iadd hx hb dX7_reward_6 ?_
  refine lv_iconst (v := 3) hx hb dX7_reward_7 (by decide) ?_
  refine va_mmin hx hb (hml.trans hl.1.symm) hown (hE.w qw_1111 rfl _) (hE.w qw_506 rfl _) (hE.w qw_97 rfl _) (hE.w qw_507 rfl _) (Nat.le_of_ble_eq_true rfl) (Nat.le_of_ble_eq_true rfl) (Nat.le_of_ble_eq_true rfl) (Nat.le_of_ble_eq_true rfl) dX7_reward_8 ?_
  refine pf_X7_3 hx hb hE hP hD hS hown h0 (hE.w qw_139 rfl _) dX7_reward_11 (fun G1 H locs eG1 hP hD hS => ?_)
  replace hw := hw G1 eG1
  exact end_v hx hb hr hlk hw hP hD hS dX7_reward_14
def wpX7_punish (post : GS → Prop) (q0 : Nat) (G : GS) : Prop :=
  ∀ G1 : GS, G1 = gI G q0 3 (if ((G.1 q0 3) - 1) < 0 then 0 else ((G.1 q0 3) - 1)) →
  if (G1.1 q0 3) = 0 then
  ∀ G3 : GS, G3 = gI G1 q0 5 5 →
    post G3
else
  post G1
set_option maxHeartbeats 4000000 in
set_option maxRecDepth 100000 in
theorem okX7_punish (X : Cx) (l : Launch) (hfl : l.stackTraces = false) {post : GS → Prop} {q0 : Nat} {G : GS} (h0 : kd q0 = 3) (hw : wpX7_punish post q0 G) : CT X l yX7_punish cX7_punish 1 none 1 0 0 [.ref (xa X q0)] G (Qv X post) := by
  refine mbegin (by decide) (Nat.le_of_ble_eq_true rfl) (fun p e s m below meth c hx hb hr hml hlk hown hE hz ls hl hP hD hS => ?_)
  have hl : lv_has ls 1 [(0, .ref (xa X q0))] := hl
  have hown : s.vm.findClass "FlyTreasury$Vault" = some m.cls := hown
  unfold wpX7_punish at hw
  refine lv_aload_n hx hb dX7_punish_0 rfl (lv_at hl 0 rfl) ?_
  refine lv_aload_n hx hb dX7_punish_1 rfl (lv_at hl 0 rfl) ?_
  refine gf_X7_3 hx hb hE hP hown h0 (hE.w qw_139 rfl _) dX7_punish_2 ?_
  refine lv_iconst (v := 1) hx hb dX7_punish_5 (by decide) ?_
  refine lv_isub hx hb dX7_punish_6 ?_
  refine lv_iconst (v := 0) hx hb dX7_punish_7 (by decide) ?_
  refine va_mmax hx hb (hml.trans hl.1.symm) hown (hE.w qw_437 rfl _) (hE.w qw_438 rfl _) (hE.w qw_97 rfl _) (hE.w qw_439 rfl _) (Nat.le_of_ble_eq_true rfl) (Nat.le_of_ble_eq_true rfl) (Nat.le_of_ble_eq_true rfl) (Nat.le_of_ble_eq_true rfl) dX7_punish_8 ?_
  refine pf_X7_3 hx hb hE hP hD hS hown h0 (hE.w qw_139 rfl _) dX7_punish_11 (fun G1 H locs eG1 hP hD hS => ?_)
  replace hw := hw G1 eG1
  refine lv_aload_n hx hb dX7_punish_14 rfl (lv_at hl 0 rfl) ?_
  refine gf_X7_3 hx hb hE hP hown h0 (hE.w qw_139 rfl _) dX7_punish_15 ?_
  refine lv_if_ne (tgt := 26) hx hb dX7_punish_18 (by decide) (fun c2 => ?_) (fun c2 => ?_)
  · replace hw := ite_f hw c2
    exact end_v hx hb hr hlk hw hP hD hS dX7_punish_26
  · replace hw := ite_t hw c2
    refine lv_aload_n hx hb dX7_punish_21 rfl (lv_at hl 0 rfl) ?_
    refine lv_iconst (v := 5) hx hb dX7_punish_22 (by decide) ?_
    refine pf_X7_5 hx hb hE hP hD hS hown h0 (hE.w qw_144 rfl _) dX7_punish_23 (fun G3 H locs eG3 hP hD hS => ?_)
    replace hw := hw G3 eG3
    exact end_v hx hb hr hlk hw hP hD hS dX7_punish_26
def wpX7_evaporate (post : Int32 → GS → Prop) (q0 : Nat) (G : GS) : Prop :=
  if (G.1 q0 2) = 0 then
  post 0 G
else
  ∀ G2 : GS, G2 = gI G q0 2 ((G.1 q0 2) - 1) →
    post 1 G2
set_option maxHeartbeats 4000000 in
set_option maxRecDepth 100000 in
theorem okX7_evaporate (X : Cx) (l : Launch) (hfl : l.stackTraces = false) {post : Int32 → GS → Prop} {q0 : Nat} {G : GS} (h0 : kd q0 = 3) (hw : wpX7_evaporate post q0 G) : CT X l yX7_evaporate cX7_evaporate 1 (some FieldType.int) 1 0 0 [.ref (xa X q0)] G (Qi X post) := by
  refine mbegin (by decide) (Nat.le_of_ble_eq_true rfl) (fun p e s m below meth c hx hb hr hml hlk hown hE hz ls hl hP hD hS => ?_)
  have hl : lv_has ls 1 [(0, .ref (xa X q0))] := hl
  have hown : s.vm.findClass "FlyTreasury$Vault" = some m.cls := hown
  unfold wpX7_evaporate at hw
  refine lv_aload_n hx hb dX7_evaporate_0 rfl (lv_at hl 0 rfl) ?_
  refine gf_X7_2 hx hb hE hP hown h0 (hE.w qw_136 rfl _) dX7_evaporate_1 ?_
  refine lv_if_ne (tgt := 9) hx hb dX7_evaporate_4 (by decide) (fun c1 => ?_) (fun c1 => ?_)
  · replace hw := ite_f hw c1
    refine lv_aload_n hx hb dX7_evaporate_9 rfl (lv_at hl 0 rfl) ?_
    refine lv_dup hx hb dX7_evaporate_10 rfl ?_
    refine gf_X7_2 hx hb hE hP hown h0 (hE.w qw_136 rfl _) dX7_evaporate_11 ?_
    refine lv_iconst (v := 1) hx hb dX7_evaporate_14 (by decide) ?_
    refine lv_isub hx hb dX7_evaporate_15 ?_
    refine pf_X7_2 hx hb hE hP hD hS hown h0 (hE.w qw_136 rfl _) dX7_evaporate_16 (fun G2 H locs eG2 hP hD hS => ?_)
    replace hw := hw G2 eG2
    refine lv_iconst (v := 1) hx hb dX7_evaporate_19 (by decide) ?_
    exact end_i hx hb hr hlk rfl hw hP hD hS dX7_evaporate_20
  · replace hw := ite_t hw c1
    refine lv_iconst (v := 0) hx hb dX7_evaporate_7 (by decide) ?_
    exact end_i hx hb hr hlk rfl hw hP hD hS dX7_evaporate_8
def wpX7_thaw (post : GS → Prop) (q0 : Nat) (G : GS) : Prop :=
  if (G.1 q0 5) ≤ 0 then
  post G
else
  ∀ G2 : GS, G2 = gI G q0 5 ((G.1 q0 5) - 1) →
    post G2
set_option maxHeartbeats 4000000 in
set_option maxRecDepth 100000 in
theorem okX7_thaw (X : Cx) (l : Launch) (hfl : l.stackTraces = false) {post : GS → Prop} {q0 : Nat} {G : GS} (h0 : kd q0 = 3) (hw : wpX7_thaw post q0 G) : CT X l yX7_thaw cX7_thaw 1 none 1 0 0 [.ref (xa X q0)] G (Qv X post) := by
  refine mbegin (by decide) (Nat.le_of_ble_eq_true rfl) (fun p e s m below meth c hx hb hr hml hlk hown hE hz ls hl hP hD hS => ?_)
  have hl : lv_has ls 1 [(0, .ref (xa X q0))] := hl
  have hown : s.vm.findClass "FlyTreasury$Vault" = some m.cls := hown
  unfold wpX7_thaw at hw
  refine lv_aload_n hx hb dX7_thaw_0 rfl (lv_at hl 0 rfl) ?_
  refine gf_X7_5 hx hb hE hP hown h0 (hE.w qw_144 rfl _) dX7_thaw_1 ?_
  refine lv_if_le (tgt := 17) hx hb dX7_thaw_4 (by decide) (fun c1 => ?_) (fun c1 => ?_)
  · replace hw := ite_t hw c1
    exact end_v hx hb hr hlk hw hP hD hS dX7_thaw_17
  · replace hw := ite_f hw c1
    refine lv_aload_n hx hb dX7_thaw_7 rfl (lv_at hl 0 rfl) ?_
    refine lv_dup hx hb dX7_thaw_8 rfl ?_
    refine gf_X7_5 hx hb hE hP hown h0 (hE.w qw_144 rfl _) dX7_thaw_9 ?_
    refine lv_iconst (v := 1) hx hb dX7_thaw_12 (by decide) ?_
    refine lv_isub hx hb dX7_thaw_13 ?_
    refine pf_X7_5 hx hb hE hP hD hS hown h0 (hE.w qw_144 rfl _) dX7_thaw_14 (fun G2 H locs eG2 hP hD hS => ?_)
    replace hw := hw G2 eG2
    exact end_v hx hb hr hlk hw hP hD hS dX7_thaw_17
