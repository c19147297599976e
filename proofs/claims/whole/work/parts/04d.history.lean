def wpX2_remember (post : GS → Prop) (q1 : Nat) (G : GS) : Prop :=
  ∀ G2 : GS, G2 = gI G 166 1 (((G.1 166 1) + 1) - ((G.1 166 1) + 1) / 8 * 8) →
  vp_in (G2.1 166 1) 8 ∧
  wpX3_copyFrom (fun (G4 : GS) =>
  ∀ G5 : GS, G5 = gI G4 166 2 (if 8 < ((G4.1 166 2) + 1) then 8 else ((G4.1 166 2) + 1)) →
    post G5) (45 + 15 * (G2.1 166 1).toNatClampNeg) q1 G2
set_option maxHeartbeats 4000000 in
set_option maxRecDepth 100000 in
theorem okX2_remember (X : Cx) (l : Launch) (hfl : l.stackTraces = false) {post : GS → Prop} {q1 : Nat} {G : GS} (h1 : kd q1 = 0) (hw : wpX2_remember post q1 G) : CT X l yX2_remember cX2_remember 2 none 4 0 0 [.ref (xa X 166), .ref (xa X q1)] G (Qv X post) := by
  refine mbegin (by decide) (Nat.le_of_ble_eq_true rfl) (fun p e s m below meth c hx hb hr hml hlk hown hE hz ls hl hP hD hS => ?_)
  have hl : lv_has ls 2 [(0, .ref (xa X 166)), (1, .ref (xa X q1))] := hl
  have hown : s.vm.findClass "FlyTreasury$History" = some m.cls := hown
  unfold wpX2_remember at hw
  refine lv_aload_n hx hb dX2_remember_0 rfl (lv_at hl 0 rfl) ?_
  refine lv_aload_n hx hb dX2_remember_1 rfl (lv_at hl 0 rfl) ?_
  refine gf_X2_1 hx hb hE hP hown rfl (hE.w qw_213 rfl _) dX2_remember_2 ?_
  refine lv_iconst (v := 1) hx hb dX2_remember_5 (by decide) ?_
  refine lv_iadd hx hb dX2_remember_6 ?_
  refine lv_bipush (v := 8) hx hb dX2_remember_7 (by decide) ?_
  refine lv_irem hx hb dX2_remember_9 (by decide) ?_
  refine pf_X2_1 hx hb hE hP hD hS hown rfl (hE.w qw_213 rfl _) dX2_remember_10 (fun G2 H locs eG2 hP hD hS => ?_)
  replace hw := hw G2 eG2
  refine lv_aload_n hx hb dX2_remember_13 rfl (lv_at hl 0 rfl) ?_
  refine gf_X2_0 hx hb hE hP hown rfl (hE.w qw_212 rfl _) dX2_remember_14 ?_
  refine lv_aload_n hx hb dX2_remember_17 rfl (lv_at hl 0 rfl) ?_
  refine gf_X2_1 hx hb hE hP hown rfl (hE.w qw_213 rfl _) dX2_remember_18 ?_
  obtain ⟨y3, hw⟩ := hw
  refine ald_6 hx hb hE hP rfl y3 dX2_remember_21 ?_
  refine lv_aload_n hx hb dX2_remember_22 rfl (lv_at hl 1 rfl) ?_
  refine call_v (run_V (cc := cX2_remember) (As := [.ref (xa X q1)]) (rest := []) hx hb hml hown hE hz (okX3_copyFrom X l hfl (k6_e y3) h1 hw) qw_936 qw_842 qw_843 qw_75 qw_844 (myX3_copyFrom) ⟨Nat.le_of_ble_eq_true rfl, Nat.le_of_ble_eq_true rfl⟩ (rv_X3 hE hP (k6_e y3)) hP hD hS rfl hl.1 rfl (Nat.le_of_ble_eq_true rfl) dX2_remember_23 ⟨Nat.le_of_ble_eq_true rfl, Nat.le_of_ble_eq_true rfl⟩) hS (fun G4 H locs hw hP hD hS => ?_)
  refine lv_aload_n hx hb dX2_remember_26 rfl (lv_at hl 0 rfl) ?_
  refine lv_aload_n hx hb dX2_remember_27 rfl (lv_at hl 0 rfl) ?_
  refine gf_X2_2 hx hb hE hP hown rfl (hE.w qw_214 rfl _) dX2_remember_28 ?_
  refine lv_iconst (v := 1) hx hb dX2_remember_31 (by decide) ?_
  refine lv_iadd hx hb dX2_remember_32 ?_
  refine lv_bipush (v := 8) hx hb dX2_remember_33 (by decide) ?_
  refine va_mmin hx hb (hml.trans hl.1.symm) hown (hE.w qw_937 rfl _) (hE.w qw_506 rfl _) (hE.w qw_97 rfl _) (hE.w qw_507 rfl _) (Nat.le_of_ble_eq_true rfl) (Nat.le_of_ble_eq_true rfl) (Nat.le_of_ble_eq_true rfl) (Nat.le_of_ble_eq_true rfl) dX2_remember_35 ?_
  refine pf_X2_2 hx hb hE hP hD hS hown rfl (hE.w qw_214 rfl _) dX2_remember_38 (fun G5 H locs eG5 hP hD hS => ?_)
  replace hw := hw G5 eG5
  exact end_v hx hb hr hlk hw hP hD hS dX2_remember_41
def wpX2_takeBack (post : GS → Prop) (q1 : Nat) (G : GS) : Prop :=
  vp_in (G.1 166 1) 8 ∧
  wpX3_copyFrom (fun (G2 : GS) =>
  ∀ G4 : GS, G4 = gI G2 166 1 ((((G2.1 166 1) + 8) - 1) - (((G2.1 166 1) + 8) - 1) / 8 * 8) →
    ∀ G5 : GS, G5 = gI G4 166 2 ((G4.1 166 2) - 1) →
    post G5) q1 (45 + 15 * (G.1 166 1).toNatClampNeg) G
set_option maxHeartbeats 4000000 in
set_option maxRecDepth 100000 in
theorem okX2_takeBack (X : Cx) (l : Launch) (hfl : l.stackTraces = false) {post : GS → Prop} {q1 : Nat} {G : GS} (h1 : kd q1 = 0) (hw : wpX2_takeBack post q1 G) : CT X l yX2_takeBack cX2_takeBack 2 none 4 0 0 [.ref (xa X 166), .ref (xa X q1)] G (Qv X post) := by
  refine mbegin (by decide) (Nat.le_of_ble_eq_true rfl) (fun p e s m below meth c hx hb hr hml hlk hown hE hz ls hl hP hD hS => ?_)
  have hl : lv_has ls 2 [(0, .ref (xa X 166)), (1, .ref (xa X q1))] := hl
  have hown : s.vm.findClass "FlyTreasury$History" = some m.cls := hown
  unfold wpX2_takeBack at hw
  refine lv_aload_n hx hb dX2_takeBack_0 rfl (lv_at hl 1 rfl) ?_
  refine lv_aload_n hx hb dX2_takeBack_1 rfl (lv_at hl 0 rfl) ?_
  refine gf_X2_0 hx hb hE hP hown rfl (hE.w qw_212 rfl _) dX2_takeBack_2 ?_
  refine lv_aload_n hx hb dX2_takeBack_5 rfl (lv_at hl 0 rfl) ?_
  refine gf_X2_1 hx hb hE hP hown rfl (hE.w qw_213 rfl _) dX2_takeBack_6 ?_
  obtain ⟨y1, hw⟩ := hw
  refine ald_6 hx hb hE hP rfl y1 dX2_takeBack_9 ?_
  refine call_v (run_V (cc := cX2_takeBack) (As := [.ref (xa X (45 + 15 * (G.1 166 1).toNatClampNeg))]) (rest := []) hx hb hml hown hE hz (okX3_copyFrom X l hfl h1 (k6_e y1) hw) qw_936 qw_842 qw_843 qw_75 qw_844 (myX3_copyFrom) ⟨Nat.le_of_ble_eq_true rfl, Nat.le_of_ble_eq_true rfl⟩ (rv_X3 hE hP h1) hP hD hS rfl hl.1 rfl (Nat.le_of_ble_eq_true rfl) dX2_takeBack_10 ⟨Nat.le_of_ble_eq_true rfl, Nat.le_of_ble_eq_true rfl⟩) hS (fun G2 H locs hw hP hD hS => ?_)
  refine lv_aload_n hx hb dX2_takeBack_13 rfl (lv_at hl 0 rfl) ?_
  refine lv_aload_n hx hb dX2_takeBack_14 rfl (lv_at hl 0 rfl) ?_
  refine gf_X2_1 hx hb hE hP hown rfl (hE.w qw_213 rfl _) dX2_takeBack_15 ?_
  refine lv_bipush (v := 8) hx hb dX2_takeBack_18 (by decide) ?_
  refine lv_iadd hx hb dX2_takeBack_20 ?_
  refine lv_iconst (v := 1) hx hb dX2_takeBack_21 (by decide) ?_
  refine lv_isub hx hb dX2_takeBack_22 ?_
  refine lv_bipush (v := 8) hx hb dX2_takeBack_23 (by decide) ?_
  refine lv_irem hx hb dX2_takeBack_25 (by decide) ?_
  refine pf_X2_1 hx hb hE hP hD hS hown rfl (hE.w qw_213 rfl _) dX2_takeBack_26 (fun G4 H locs eG4 hP hD hS => ?_)
  replace hw := hw G4 eG4
  refine lv_aload_n hx hb dX2_takeBack_29 rfl (lv_at hl 0 rfl) ?_
  refine lv_dup hx hb dX2_takeBack_30 rfl ?_
  refine gf_X2_2 hx hb hE hP hown rfl (hE.w qw_214 rfl _) dX2_takeBack_31 ?_
  refine lv_iconst (v := 1) hx hb dX2_takeBack_34 (by decide) ?_
  refine lv_isub hx hb dX2_takeBack_35 ?_
  refine pf_X2_2 hx hb hE hP hD hS hown rfl (hE.w qw_214 rfl _) dX2_takeBack_36 (fun G5 H locs eG5 hP hD hS => ?_)
  replace hw := hw G5 eG5
  exact end_v hx hb hr hlk hw hP hD hS dX2_takeBack_39
