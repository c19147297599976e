def wpX3_refusalToStick (post : Nat → GS → Prop) (q0 : Nat) (a1 : Int32) (a2 : Int32) (G : GS) : Prop :=
  wpX3_hasVault (fun (r2 : Int32) (G1 : GS) =>
  if r2 = 0 then
    post 1 G1
  else
    wpX3_within (fun (r5 : Int32) (G4 : GS) =>
      if r5 = 0 then
        post 2 G4
      else
        post 0 G4) a2 0 9 G1) q0 a1 G
set_option maxHeartbeats 4000000 in
set_option maxRecDepth 100000 in
theorem okX3_refusalToStick (X : Cx) (l : Launch) (hfl : l.stackTraces = false) {post : Nat → GS → Prop} {q0 : Nat} {a1 : Int32} {a2 : Int32} {G : GS} (h0 : kd q0 = 0) (hw : wpX3_refusalToStick post q0 a1 a2 G) : CT X l yX3_refusalToStick cX3_refusalToStick 3 (some (FieldType.object "FlyTreasury$Refusal")) 2 0 0 [.ref (xa X q0), .int a1, .int a2] G (Qr X (xk X 0) post) := by
  refine mbegin (by decide) (Nat.le_of_ble_eq_true rfl) (fun p e s m below meth c hx hb hr hml hlk hown hE hz ls hl hP hD hS => ?_)
  have hl : lv_has ls 3 [(0, .ref (xa X q0)), (1, .int a1), (2, .int a2)] := hl
  have hown : s.vm.findClass "FlyTreasury$Ledger" = some m.cls := hown
  unfold wpX3_refusalToStick at hw
  refine lv_aload_n hx hb dX3_refusalToStick_0 rfl (lv_at hl 0 rfl) ?_
  refine lv_iload_n hx hb dX3_refusalToStick_1 rfl (lv_at hl 1 rfl) ?_
  refine call_i (run_V (cc := cX3_refusalToStick) (As := [.int a1]) (rest := []) hx hb hml hown hE hz (okX3_hasVault X l hfl h0 hw) qw_956 qw_957 qw_958 qw_75 qw_959 (myX3_hasVault) ⟨Nat.le_of_ble_eq_true rfl, Nat.le_of_ble_eq_true rfl⟩ (rv_X3 hE hP h0) hP hD hS rfl hl.1 rfl (Nat.le_of_ble_eq_true rfl) dX3_refusalToStick_2 ⟨Nat.le_of_ble_eq_true rfl, Nat.le_of_ble_eq_true rfl⟩) hS (fun r2 G1 H locs hw hP hD hS => ?_)
  refine lv_if_ne (tgt := 12) hx hb dX3_refusalToStick_5 (by decide) (fun c3 => ?_) (fun c3 => ?_)
  · replace hw := ite_f hw c3
    refine lv_iload_n hx hb dX3_refusalToStick_12 rfl (lv_at hl 2 rfl) ?_
    refine lv_iconst (v := 0) hx hb dX3_refusalToStick_13 (by decide) ?_
    refine lv_bipush (v := 9) hx hb dX3_refusalToStick_14 (by decide) ?_
    refine call_i (run_S (cc := cX3_refusalToStick) (As := [.int a2, .int 0, .int 9]) (rest := []) hx hb hml hown hE hz (okX3_within X l hfl  hw) qw_864 qw_865 qw_75 qw_866 (myX3_within).2 ⟨Nat.le_of_ble_eq_true rfl, Nat.le_of_ble_eq_true rfl⟩ hP hD hS rfl hl.1 rfl (Nat.le_of_ble_eq_true rfl) dX3_refusalToStick_16 ⟨Nat.le_of_ble_eq_true rfl, Nat.le_of_ble_eq_true rfl⟩) hS (fun r5 G4 H locs hw hP hD hS => ?_)
    refine lv_if_eq (tgt := 28) hx hb dX3_refusalToStick_19 (by decide) (fun c6 => ?_) (fun c6 => ?_)
    · replace hw := ite_t hw c6
      refine va_gets hx hb (en_Z0 hE (i := 2) (by decide)) hS hown (hE.w qw_867 rfl _) (fun _ h9 => h9) dX3_refusalToStick_28 ?_
      exact end_r hx hb hr hlk (Or.inl ⟨_, rfl⟩) hw hP hD hS dX3_refusalToStick_31
    · replace hw := ite_f hw c6
      refine va_gets hx hb (en_Z0 hE (i := 0) (by decide)) hS hown (hE.w qw_871 rfl _) (fun _ h9 => h9) dX3_refusalToStick_22 ?_
      refine lv_goto (tgt := 31) hx hb dX3_refusalToStick_25 (by decide) ?_
      exact end_r hx hb hr hlk (Or.inl ⟨_, rfl⟩) hw hP hD hS dX3_refusalToStick_31
  · replace hw := ite_t hw c3
    refine va_gets hx hb (en_Z0 hE (i := 1) (by decide)) hS hown (hE.w qw_960 rfl _) (fun _ h9 => h9) dX3_refusalToStick_8 ?_
    exact end_r hx hb hr hlk (Or.inl ⟨_, rfl⟩) hw hP hD hS dX3_refusalToStick_11
def wpX3_changeStickiness (post : Int32 → GS → Prop) (q0 : Nat) (a1 : Int32) (a2 : Int32) (G : GS) : Prop :=
  vp_in a1 5 ∧
  ∀ z2 : Int32, z2 = (G.1 (q0 + 1 + 4 + a1.toNatClampNeg) 4) →
  vp_in a1 5 ∧
  ∀ G4 : GS, G4 = gI G (q0 + 1 + 4 + a1.toNatClampNeg) 4 a2 →
  post z2 G4
set_option maxHeartbeats 4000000 in
set_option maxRecDepth 100000 in
theorem okX3_changeStickiness (X : Cx) (l : Launch) (hfl : l.stackTraces = false) {post : Int32 → GS → Prop} {q0 : Nat} {a1 : Int32} {a2 : Int32} {G : GS} (h0 : kd q0 = 0) (hw : wpX3_changeStickiness post q0 a1 a2 G) : CT X l yX3_changeStickiness cX3_changeStickiness 4 (some FieldType.int) 1 0 0 [.ref (xa X q0), .int a1, .int a2] G (Qi X post) := by
  refine mbegin (by decide) (Nat.le_of_ble_eq_true rfl) (fun p e s m below meth c hx hb hr hml hlk hown hE hz ls hl hP hD hS => ?_)
  have hl : lv_has ls 4 [(0, .ref (xa X q0)), (1, .int a1), (2, .int a2)] := hl
  have hown : s.vm.findClass "FlyTreasury$Ledger" = some m.cls := hown
  unfold wpX3_changeStickiness at hw
  refine lv_aload_n hx hb dX3_changeStickiness_0 rfl (lv_at hl 0 rfl) ?_
  refine gf_X3_0 hx hb hE hP hown h0 (hE.w qw_160 rfl _) dX3_changeStickiness_1 ?_
  refine lv_iload_n hx hb dX3_changeStickiness_4 rfl (lv_at hl 1 rfl) ?_
  obtain ⟨y1, hw⟩ := hw
  refine ald_1 hx hb hE hP (k0_1 h0) y1 dX3_changeStickiness_5 ?_
  refine gn_X7_4 hx hb hE hP hown (k1_e (k0_1 h0) y1) (hE.w qw_142 rfl _) dX3_changeStickiness_6 ?_
  refine lv_topi (fun z2 ez2 => ?_)
  replace hw := hw z2 ez2
  refine lv_istore_n (lv' := [(3, .int z2), (0, .ref (xa X q0)), (1, .int a1), (2, .int a2)]) hx hb dX3_changeStickiness_9 rfl hl (by decide) rfl (fun ls hl => ?_)
  refine lv_aload_n hx hb dX3_changeStickiness_10 rfl (lv_at hl 1 rfl) ?_
  refine gf_X3_0 hx hb hE hP hown h0 (hE.w qw_160 rfl _) dX3_changeStickiness_11 ?_
  refine lv_iload_n hx hb dX3_changeStickiness_14 rfl (lv_at hl 2 rfl) ?_
  obtain ⟨y3, hw⟩ := hw
  refine ald_1 hx hb hE hP (k0_1 h0) y3 dX3_changeStickiness_15 ?_
  refine lv_iload_n hx hb dX3_changeStickiness_16 rfl (lv_at hl 3 rfl) ?_
  refine pn_X7_4 hx hb hE hP hD hS hown (k1_e (k0_1 h0) y3) (hE.w qw_142 rfl _) dX3_changeStickiness_17 (fun G4 H locs eG4 hP hD hS => ?_)
  replace hw := hw G4 eG4
  refine lv_iload_n hx hb dX3_changeStickiness_20 rfl (lv_at hl 0 rfl) ?_
  exact end_i hx hb hr hlk rfl hw hP hD hS dX3_changeStickiness_21
def wpX3_refusalToWait (post : Nat → GS → Prop) (q0 : Nat) (a1 : Int32) (G : GS) : Prop :=
  wpX3_within (fun (r2 : Int32) (G1 : GS) =>
  if r2 = 0 then
    post 2 G1
  else
    post 0 G1) a1 1 30 G
set_option maxHeartbeats 4000000 in
set_option maxRecDepth 100000 in
theorem okX3_refusalToWait (X : Cx) (l : Launch) (hfl : l.stackTraces = false) {post : Nat → GS → Prop} {q0 : Nat} {a1 : Int32} {G : GS} (h0 : kd q0 = 0) (hw : wpX3_refusalToWait post q0 a1 G) : CT X l yX3_refusalToWait cX3_refusalToWait 2 (some (FieldType.object "FlyTreasury$Refusal")) 2 0 0 [.ref (xa X q0), .int a1] G (Qr X (xk X 0) post) := by
  refine mbegin (by decide) (Nat.le_of_ble_eq_true rfl) (fun p e s m below meth c hx hb hr hml hlk hown hE hz ls hl hP hD hS => ?_)
  have hl : lv_has ls 2 [(0, .ref (xa X q0)), (1, .int a1)] := hl
  have hown : s.vm.findClass "FlyTreasury$Ledger" = some m.cls := hown
  unfold wpX3_refusalToWait at hw
  refine lv_iload_n hx hb dX3_refusalToWait_0 rfl (lv_at hl 1 rfl) ?_
  refine lv_iconst (v := 1) hx hb dX3_refusalToWait_1 (by decide) ?_
  refine lv_bipush (v := 30) hx hb dX3_refusalToWait_2 (by decide) ?_
  refine call_i (run_S (cc := cX3_refusalToWait) (As := [.int a1, .int 1, .int 30]) (rest := []) hx hb hml hown hE hz (okX3_within X l hfl  hw) qw_864 qw_865 qw_75 qw_866 (myX3_within).2 ⟨Nat.le_of_ble_eq_true rfl, Nat.le_of_ble_eq_true rfl⟩ hP hD hS rfl hl.1 rfl (Nat.le_of_ble_eq_true rfl) dX3_refusalToWait_4 ⟨Nat.le_of_ble_eq_true rfl, Nat.le_of_ble_eq_true rfl⟩) hS (fun r2 G1 H locs hw hP hD hS => ?_)
  refine lv_if_eq (tgt := 16) hx hb dX3_refusalToWait_7 (by decide) (fun c3 => ?_) (fun c3 => ?_)
  · replace hw := ite_t hw c3
    refine va_gets hx hb (en_Z0 hE (i := 2) (by decide)) hS hown (hE.w qw_867 rfl _) (fun _ h9 => h9) dX3_refusalToWait_16 ?_
    exact end_r hx hb hr hlk (Or.inl ⟨_, rfl⟩) hw hP hD hS dX3_refusalToWait_19
  · replace hw := ite_f hw c3
    refine va_gets hx hb (en_Z0 hE (i := 0) (by decide)) hS hown (hE.w qw_871 rfl _) (fun _ h9 => h9) dX3_refusalToWait_10 ?_
    refine lv_goto (tgt := 19) hx hb dX3_refusalToWait_13 (by decide) ?_
    exact end_r hx hb hr hlk (Or.inl ⟨_, rfl⟩) hw hP hD hS dX3_refusalToWait_19
def wlX3_letOneDayPass_14 (post : Int32 → GS → Prop) (q0 : Nat) : Nat → GS → Int32 → Int32 → Prop
  | 0, _, _, _ => False
  | n + 1, G, v1, v2 =>
    if 5 ≤ v2 then
  ∀ G3 : GS, G3 = gI G q0 8 ((G.1 q0 8) + v1) →
    post v1 G3
else
  vp_in v2 5 ∧
    wpX7_evaporate (fun (r6 : Int32) (G5 : GS) =>
    ∀ z7 : Int32, z7 = (v1 + r6) →
      vp_in v2 5 ∧
      wpX7_thaw (fun (G9 : GS) =>
      ∀ z10 : Int32, z10 = v2 + 1 →
        wlX3_letOneDayPass_14 post q0 n G9 z7 z10) (q0 + 1 + 4 + v2.toNatClampNeg) G5) (q0 + 1 + 4 + v2.toNatClampNeg) G
def wpX3_letOneDayPass (post : Int32 → GS → Prop) (q0 : Nat) (G : GS) : Prop :=
  ∀ G1 : GS, G1 = gI G q0 5 ((G.1 q0 5) + 1) →
  ∃ nn, wlX3_letOneDayPass_14 post q0 nn G1 0 0
set_option maxHeartbeats 4000000 in
set_option maxRecDepth 100000 in
theorem okX3_letOneDayPass (X : Cx) (l : Launch) (hfl : l.stackTraces = false) {post : Int32 → GS → Prop} {q0 : Nat} {G : GS} (h0 : kd q0 = 0) (hw : wpX3_letOneDayPass post q0 G) : CT X l yX3_letOneDayPass cX3_letOneDayPass 3 (some FieldType.int) 2 0 0 [.ref (xa X q0)] G (Qi X post) := by
  refine mbegin (by decide) (Nat.le_of_ble_eq_true rfl) (fun p e s m below meth c hx hb hr hml hlk hown hE hz ls hl hP hD hS => ?_)
  have hl : lv_has ls 3 [(0, .ref (xa X q0))] := hl
  have hown : s.vm.findClass "FlyTreasury$Ledger" = some m.cls := hown
  have L14 : ∀ (n14 : Nat) (G : GS) (v1 : Int32) (v2 : Int32) (H : Heap) (locs : List Loc) (ls : Array Slot), wlX3_letOneDayPass_14 post q0 n14 G v1 v2 → va_P (xD X) vwCl (pool X G) H → va_D (xA X) (pool X G) → va_S (xA X) s.heap H locs → lv_has ls 3 [(0, .ref (xa X q0)), (1, .int v1), (2, .int v2)] → W p l e (rmL 2 0 0) s m [.ref (xa X q0)].toArray below meth c H locs 0 0 (MQ below (Qi X post) [.ref (xa X q0)].toArray s 0 0 (xA X)) (F0 m 14 ls []) := by
    intro n14
    induction n14 with
    | zero => intro G v1 v2  H locs ls hw; exact hw.elim
    | succ n14 ih14 =>
      intro G v1 v2  H locs ls hw hP hD hS hl
      rw [wlX3_letOneDayPass_14] at hw
      refine lv_iload_n hx hb dX3_letOneDayPass_14 rfl (lv_at hl 2 rfl) ?_
      refine lv_iconst (v := 5) hx hb dX3_letOneDayPass_15 (by decide) ?_
      refine lv_icmp_ge (tgt := 46) hx hb dX3_letOneDayPass_16 (by decide) (fun c11 => ?_) (fun c11 => ?_)
      · replace hw := ite_t hw c11
        refine lv_aload_n hx hb dX3_letOneDayPass_46 rfl (lv_at hl 0 rfl) ?_
        refine lv_dup hx hb dX3_letOneDayPass_47 rfl ?_
        refine gf_X3_8 hx hb hE hP hown h0 (hE.w qw_174 rfl _) dX3_letOneDayPass_48 ?_
        refine lv_iload_n hx hb dX3_letOneDayPass_51 rfl (lv_at hl 1 rfl) ?_
        refine lv_iadd hx hb dX3_letOneDayPass_52 ?_
        refine pf_X3_8 hx hb hE hP hD hS hown h0 (hE.w qw_174 rfl _) dX3_letOneDayPass_53 (fun G12 H locs eG12 hP hD hS => ?_)
        replace hw := hw G12 eG12
        refine lv_iload_n hx hb dX3_letOneDayPass_56 rfl (lv_at hl 1 rfl) ?_
        exact end_i hx hb hr hlk rfl hw hP hD hS dX3_letOneDayPass_57
      · replace hw := ite_f hw c11
        refine lv_iload_n hx hb dX3_letOneDayPass_19 rfl (lv_at hl 1 rfl) ?_
        refine lv_aload_n hx hb dX3_letOneDayPass_20 rfl (lv_at hl 0 rfl) ?_
        refine gf_X3_0 hx hb hE hP hown h0 (hE.w qw_160 rfl _) dX3_letOneDayPass_21 ?_
        refine lv_iload_n hx hb dX3_letOneDayPass_24 rfl (lv_at hl 2 rfl) ?_
        obtain ⟨y13, hw⟩ := hw
        refine ald_1 hx hb hE hP (k0_1 h0) y13 dX3_letOneDayPass_25 ?_
        refine call_i (run_V (cc := cX3_letOneDayPass) (As := []) (rest := [.int v1]) hx hb hml hown hE hz (okX7_evaporate X l hfl (k1_e (k0_1 h0) y13) hw) qw_1165 qw_1166 qw_1167 qw_76 qw_1168 (myX7_evaporate) ⟨Nat.le_of_ble_eq_true rfl, Nat.le_of_ble_eq_true rfl⟩ (rv_X7 hE hP (k1_e (k0_1 h0) y13)) hP hD hS rfl hl.1 rfl (Nat.le_of_ble_eq_true rfl) dX3_letOneDayPass_26 ⟨Nat.le_of_ble_eq_true rfl, Nat.le_of_ble_eq_true rfl⟩) hS (fun r15 G14 H locs hw hP hD hS => ?_)
        refine lv_iadd hx hb dX3_letOneDayPass_29 ?_
        refine lv_topi (fun z16 ez16 => ?_)
        replace hw := hw z16 ez16
        refine lv_istore_n (lv' := [(1, .int z16), (0, .ref (xa X q0)), (2, .int v2)]) hx hb dX3_letOneDayPass_30 rfl hl (by decide) rfl (fun ls hl => ?_)
        refine lv_aload_n hx hb dX3_letOneDayPass_31 rfl (lv_at hl 1 rfl) ?_
        refine gf_X3_0 hx hb hE hP hown h0 (hE.w qw_160 rfl _) dX3_letOneDayPass_32 ?_
        refine lv_iload_n hx hb dX3_letOneDayPass_35 rfl (lv_at hl 2 rfl) ?_
        obtain ⟨y17, hw⟩ := hw
        refine ald_1 hx hb hE hP (k0_1 h0) y17 dX3_letOneDayPass_36 ?_
        refine call_v (run_V (cc := cX3_letOneDayPass) (As := []) (rest := []) hx hb hml hown hE hz (okX7_thaw X l hfl (k1_e (k0_1 h0) y17) hw) qw_1169 qw_1170 qw_1171 qw_76 qw_1172 (myX7_thaw) ⟨Nat.le_of_ble_eq_true rfl, Nat.le_of_ble_eq_true rfl⟩ (rv_X7 hE hP (k1_e (k0_1 h0) y17)) hP hD hS rfl hl.1 rfl (Nat.le_of_ble_eq_true rfl) dX3_letOneDayPass_37 ⟨Nat.le_of_ble_eq_true rfl, Nat.le_of_ble_eq_true rfl⟩) hS (fun G18 H locs hw hP hD hS => ?_)
        obtain ⟨z19, ez19⟩ : ∃ y : Int32, y = v2 + 1 := ⟨_, rfl⟩
        replace hw := hw z19 ez19
        refine lv_iinc (v := z19) (lv' := [(2, .int z19), (1, .int z16), (0, .ref (xa X q0))]) hx hb dX3_letOneDayPass_40 hl (k := 2) rfl (by rw [ez19]; rfl) (by decide) rfl (fun ls hl => ?_)
        refine lv_goto (tgt := 14) hx hb dX3_letOneDayPass_43 (by decide) ?_
        exact ih14 G18 z16 z19  _ _ _ hw hP hD hS (lv_sub hl [2, 1, 0] rfl)
  unfold wpX3_letOneDayPass at hw
  refine lv_iconst (v := 0) hx hb dX3_letOneDayPass_0 (by decide) ?_
  refine lv_istore_n (lv' := [(1, .int 0), (0, .ref (xa X q0))]) hx hb dX3_letOneDayPass_1 rfl hl (by decide) rfl (fun ls hl => ?_)
  refine lv_aload_n hx hb dX3_letOneDayPass_2 rfl (lv_at hl 1 rfl) ?_
  refine lv_dup hx hb dX3_letOneDayPass_3 rfl ?_
  refine gf_X3_5 hx hb hE hP hown h0 (hE.w qw_168 rfl _) dX3_letOneDayPass_4 ?_
  refine lv_iconst (v := 1) hx hb dX3_letOneDayPass_7 (by decide) ?_
  refine lv_iadd hx hb dX3_letOneDayPass_8 ?_
  refine pf_X3_5 hx hb hE hP hD hS hown h0 (hE.w qw_168 rfl _) dX3_letOneDayPass_9 (fun G1 H locs eG1 hP hD hS => ?_)
  replace hw := hw G1 eG1
  refine lv_iconst (v := 0) hx hb dX3_letOneDayPass_12 (by decide) ?_
  refine lv_istore_n (lv' := [(2, .int 0), (1, .int 0), (0, .ref (xa X q0))]) hx hb dX3_letOneDayPass_13 rfl hl (by decide) rfl (fun ls hl => ?_)
  obtain ⟨nn, hw⟩ := hw
  exact L14 nn G1 0 0  _ _ _ hw hP hD hS (lv_sub hl [2, 1, 0] rfl)
def wlX3_letPass_4 (post : Int32 → GS → Prop) (q0 : Nat) (a1 : Int32) : Nat → GS → Int32 → Int32 → Prop
  | 0, _, _, _ => False
  | n + 1, G, v2, v3 =>
    if a1 ≤ v3 then
  post v2 G
else
  wpX3_letOneDayPass (fun (r3 : Int32) (G2 : GS) =>
    ∀ z4 : Int32, z4 = (v2 + r3) →
      ∀ z5 : Int32, z5 = v3 + 1 →
      wlX3_letPass_4 post q0 a1 n G2 z4 z5) q0 G
def wpX3_letPass (post : Int32 → GS → Prop) (q0 : Nat) (a1 : Int32) (G : GS) : Prop :=
  ∃ nn, wlX3_letPass_4 post q0 a1 nn G 0 0
set_option maxHeartbeats 4000000 in
set_option maxRecDepth 100000 in
theorem okX3_letPass (X : Cx) (l : Launch) (hfl : l.stackTraces = false) {post : Int32 → GS → Prop} {q0 : Nat} {a1 : Int32} {G : GS} (h0 : kd q0 = 0) (hw : wpX3_letPass post q0 a1 G) : CT X l yX3_letPass cX3_letPass 4 (some FieldType.int) 3 0 0 [.ref (xa X q0), .int a1] G (Qi X post) := by
  refine mbegin (by decide) (Nat.le_of_ble_eq_true rfl) (fun p e s m below meth c hx hb hr hml hlk hown hE hz ls hl hP hD hS => ?_)
  have hl : lv_has ls 4 [(0, .ref (xa X q0)), (1, .int a1)] := hl
  have hown : s.vm.findClass "FlyTreasury$Ledger" = some m.cls := hown
  have L4 : ∀ (n4 : Nat) (G : GS) (v2 : Int32) (v3 : Int32) (H : Heap) (locs : List Loc) (ls : Array Slot), wlX3_letPass_4 post q0 a1 n4 G v2 v3 → va_P (xD X) vwCl (pool X G) H → va_D (xA X) (pool X G) → va_S (xA X) s.heap H locs → lv_has ls 4 [(0, .ref (xa X q0)), (1, .int a1), (2, .int v2), (3, .int v3)] → W p l e (rmL 3 0 0) s m [.ref (xa X q0), .int a1].toArray below meth c H locs 0 0 (MQ below (Qi X post) [.ref (xa X q0), .int a1].toArray s 0 0 (xA X)) (F0 m 4 ls []) := by
    intro n4
    induction n4 with
    | zero => intro G v2 v3  H locs ls hw; exact hw.elim
    | succ n4 ih4 =>
      intro G v2 v3  H locs ls hw hP hD hS hl
      rw [wlX3_letPass_4] at hw
      refine lv_iload_n hx hb dX3_letPass_4 rfl (lv_at hl 3 rfl) ?_
      refine lv_iload_n hx hb dX3_letPass_5 rfl (lv_at hl 1 rfl) ?_
      refine lv_icmp_ge (tgt := 22) hx hb dX3_letPass_6 (by decide) (fun c6 => ?_) (fun c6 => ?_)
      · replace hw := ite_t hw c6
        refine lv_iload_n hx hb dX3_letPass_22 rfl (lv_at hl 2 rfl) ?_
        exact end_i hx hb hr hlk rfl hw hP hD hS dX3_letPass_23
      · replace hw := ite_f hw c6
        refine lv_iload_n hx hb dX3_letPass_9 rfl (lv_at hl 2 rfl) ?_
        refine lv_aload_n hx hb dX3_letPass_10 rfl (lv_at hl 0 rfl) ?_
        refine call_i (run_V (cc := cX3_letPass) (As := []) (rest := [.int v2]) hx hb hml hown hE hz (okX3_letOneDayPass X l hfl h0 hw) qw_1161 qw_1163 qw_2 qw_75 qw_1164 (myX3_letOneDayPass) ⟨Nat.le_of_ble_eq_true rfl, Nat.le_of_ble_eq_true rfl⟩ (rv_X3 hE hP h0) hP hD hS rfl hl.1 rfl (Nat.le_of_ble_eq_true rfl) dX3_letPass_11 ⟨Nat.le_of_ble_eq_true rfl, Nat.le_of_ble_eq_true rfl⟩) hS (fun r8 G7 H locs hw hP hD hS => ?_)
        refine lv_iadd hx hb dX3_letPass_14 ?_
        refine lv_topi (fun z9 ez9 => ?_)
        replace hw := hw z9 ez9
        refine lv_istore_n (lv' := [(2, .int z9), (0, .ref (xa X q0)), (1, .int a1), (3, .int v3)]) hx hb dX3_letPass_15 rfl hl (by decide) rfl (fun ls hl => ?_)
        obtain ⟨z10, ez10⟩ : ∃ y : Int32, y = v3 + 1 := ⟨_, rfl⟩
        replace hw := hw z10 ez10
        refine lv_iinc (v := z10) (lv' := [(3, .int z10), (2, .int z9), (0, .ref (xa X q0)), (1, .int a1)]) hx hb dX3_letPass_16 hl (k := 3) rfl (by rw [ez10]; rfl) (by decide) rfl (fun ls hl => ?_)
        refine lv_goto (tgt := 4) hx hb dX3_letPass_19 (by decide) ?_
        exact ih4 G7 z9 z10  _ _ _ hw hP hD hS (lv_sub hl [2, 3, 1, 0] rfl)
  unfold wpX3_letPass at hw
  refine lv_iconst (v := 0) hx hb dX3_letPass_0 (by decide) ?_
  refine lv_istore_n (lv' := [(2, .int 0), (0, .ref (xa X q0)), (1, .int a1)]) hx hb dX3_letPass_1 rfl hl (by decide) rfl (fun ls hl => ?_)
  refine lv_iconst (v := 0) hx hb dX3_letPass_2 (by decide) ?_
  refine lv_istore_n (lv' := [(3, .int 0), (2, .int 0), (0, .ref (xa X q0)), (1, .int a1)]) hx hb dX3_letPass_3 rfl hl (by decide) rfl (fun ls hl => ?_)
  obtain ⟨nn, hw⟩ := hw
  exact L4 nn G 0 0  _ _ _ hw hP hD hS (lv_sub hl [2, 3, 1, 0] rfl)
def wlX3_fliesByVaults_4 (post : Int32 → GS → Prop) (q0 : Nat) (a1 : Int32) : Nat → GS → Int32 → Int32 → Prop
  | 0, _, _, _ => False
  | n + 1, G, v2, v3 =>
    if 5 ≤ v3 then
  post v2 G
else
  vp_in v3 5 ∧
    vp_in a1 (ln (q0 + 1 + 4 + v3.toNatClampNeg + 5)) ∧
    ∀ z4 : Int32, z4 = (v2 + (G.1 (q0 + 1 + 4 + v3.toNatClampNeg + 5) a1.toNatClampNeg)) →
    ∀ z5 : Int32, z5 = v3 + 1 →
    wlX3_fliesByVaults_4 post q0 a1 n G z4 z5
def wpX3_fliesByVaults (post : Int32 → GS → Prop) (q0 : Nat) (a1 : Int32) (G : GS) : Prop :=
  ∃ nn, wlX3_fliesByVaults_4 post q0 a1 nn G 0 0
set_option maxHeartbeats 4000000 in
set_option maxRecDepth 100000 in
theorem okX3_fliesByVaults (X : Cx) (l : Launch) (hfl : l.stackTraces = false) {post : Int32 → GS → Prop} {q0 : Nat} {a1 : Int32} {G : GS} (h0 : kd q0 = 0) (hw : wpX3_fliesByVaults post q0 a1 G) : CT X l yX3_fliesByVaults cX3_fliesByVaults 4 (some FieldType.int) 1 0 0 [.ref (xa X q0), .int a1] G (Qi X post) := by
  refine mbegin (by decide) (Nat.le_of_ble_eq_true rfl) (fun p e s m below meth c hx hb hr hml hlk hown hE hz ls hl hP hD hS => ?_)
  have hl : lv_has ls 4 [(0, .ref (xa X q0)), (1, .int a1)] := hl
  have hown : s.vm.findClass "FlyTreasury$Ledger" = some m.cls := hown
  have L4 : ∀ (n4 : Nat) (G : GS) (v2 : Int32) (v3 : Int32) (H : Heap) (locs : List Loc) (ls : Array Slot), wlX3_fliesByVaults_4 post q0 a1 n4 G v2 v3 → va_P (xD X) vwCl (pool X G) H → va_D (xA X) (pool X G) → va_S (xA X) s.heap H locs → lv_has ls 4 [(0, .ref (xa X q0)), (1, .int a1), (2, .int v2), (3, .int v3)] → W p l e (rmL 1 0 0) s m [.ref (xa X q0), .int a1].toArray below meth c H locs 0 0 (MQ below (Qi X post) [.ref (xa X q0), .int a1].toArray s 0 0 (xA X)) (F0 m 4 ls []) := by
    intro n4
    induction n4 with
    | zero => intro G v2 v3  H locs ls hw; exact hw.elim
    | succ n4 ih4 =>
      intro G v2 v3  H locs ls hw hP hD hS hl
      rw [wlX3_fliesByVaults_4] at hw
      refine lv_iload_n hx hb dX3_fliesByVaults_4 rfl (lv_at hl 3 rfl) ?_
      refine lv_iconst (v := 5) hx hb dX3_fliesByVaults_5 (by decide) ?_
      refine lv_icmp_ge (tgt := 29) hx hb dX3_fliesByVaults_6 (by decide) (fun c6 => ?_) (fun c6 => ?_)
      · replace hw := ite_t hw c6
        refine lv_iload_n hx hb dX3_fliesByVaults_29 rfl (lv_at hl 2 rfl) ?_
        exact end_i hx hb hr hlk rfl hw hP hD hS dX3_fliesByVaults_30
      · replace hw := ite_f hw c6
        refine lv_iload_n hx hb dX3_fliesByVaults_9 rfl (lv_at hl 2 rfl) ?_
        refine lv_aload_n hx hb dX3_fliesByVaults_10 rfl (lv_at hl 0 rfl) ?_
        refine gf_X3_0 hx hb hE hP hown h0 (hE.w qw_160 rfl _) dX3_fliesByVaults_11 ?_
        refine lv_iload_n hx hb dX3_fliesByVaults_14 rfl (lv_at hl 3 rfl) ?_
        obtain ⟨y7, hw⟩ := hw
        refine ald_1 hx hb hE hP (k0_1 h0) y7 dX3_fliesByVaults_15 ?_
        refine gn_X7_0 hx hb hE hP hown (k1_e (k0_1 h0) y7) (hE.w qw_131 rfl _) dX3_fliesByVaults_16 ?_
        refine lv_iload_n hx hb dX3_fliesByVaults_19 rfl (lv_at hl 1 rfl) ?_
        obtain ⟨y8, hw⟩ := hw
        refine ald_2 hx hb hE hP (k3_5 (k1_e (k0_1 h0) y7)) y8 dX3_fliesByVaults_20 ?_
        refine lv_iadd hx hb dX3_fliesByVaults_21 ?_
        refine lv_topi (fun z9 ez9 => ?_)
        replace hw := hw z9 ez9
        refine lv_istore_n (lv' := [(2, .int z9), (0, .ref (xa X q0)), (1, .int a1), (3, .int v3)]) hx hb dX3_fliesByVaults_22 rfl hl (by decide) rfl (fun ls hl => ?_)
        obtain ⟨z10, ez10⟩ : ∃ y : Int32, y = v3 + 1 := ⟨_, rfl⟩
        replace hw := hw z10 ez10
        refine lv_iinc (v := z10) (lv' := [(3, .int z10), (2, .int z9), (0, .ref (xa X q0)), (1, .int a1)]) hx hb dX3_fliesByVaults_23 hl (k := 3) rfl (by rw [ez10]; rfl) (by decide) rfl (fun ls hl => ?_)
        refine lv_goto (tgt := 4) hx hb dX3_fliesByVaults_26 (by decide) ?_
        exact ih4 G z9 z10  _ _ _ hw hP hD hS (lv_sub hl [2, 3, 1, 0] rfl)
  unfold wpX3_fliesByVaults at hw
  refine lv_iconst (v := 0) hx hb dX3_fliesByVaults_0 (by decide) ?_
  refine lv_istore_n (lv' := [(2, .int 0), (0, .ref (xa X q0)), (1, .int a1)]) hx hb dX3_fliesByVaults_1 rfl hl (by decide) rfl (fun ls hl => ?_)
  refine lv_iconst (v := 0) hx hb dX3_fliesByVaults_2 (by decide) ?_
  refine lv_istore_n (lv' := [(3, .int 0), (2, .int 0), (0, .ref (xa X q0)), (1, .int a1)]) hx hb dX3_fliesByVaults_3 rfl hl (by decide) rfl (fun ls hl => ?_)
  obtain ⟨nn, hw⟩ := hw
  exact L4 nn G 0 0  _ _ _ hw hP hD hS (lv_sub hl [2, 3, 1, 0] rfl)
def wpX3_fliesByAccounts (post : Int32 → GS → Prop) (q0 : Nat) (a1 : Int32) (G : GS) : Prop :=
  vp_in a1 (ln (q0 + 3)) ∧
  vp_in a1 (ln (q0 + 4)) ∧
  post ((G.1 (q0 + 3) a1.toNatClampNeg) - (G.1 (q0 + 4) a1.toNatClampNeg)) G
set_option maxHeartbeats 4000000 in
set_option maxRecDepth 100000 in
theorem okX3_fliesByAccounts (X : Cx) (l : Launch) (hfl : l.stackTraces = false) {post : Int32 → GS → Prop} {q0 : Nat} {a1 : Int32} {G : GS} (h0 : kd q0 = 0) (hw : wpX3_fliesByAccounts post q0 a1 G) : CT X l yX3_fliesByAccounts cX3_fliesByAccounts 2 (some FieldType.int) 1 0 0 [.ref (xa X q0), .int a1] G (Qi X post) := by
  refine mbegin (by decide) (Nat.le_of_ble_eq_true rfl) (fun p e s m below meth c hx hb hr hml hlk hown hE hz ls hl hP hD hS => ?_)
  have hl : lv_has ls 2 [(0, .ref (xa X q0)), (1, .int a1)] := hl
  have hown : s.vm.findClass "FlyTreasury$Ledger" = some m.cls := hown
  unfold wpX3_fliesByAccounts at hw
  refine lv_aload_n hx hb dX3_fliesByAccounts_0 rfl (lv_at hl 0 rfl) ?_
  refine gf_X3_2 hx hb hE hP hown h0 (hE.w qw_164 rfl _) dX3_fliesByAccounts_1 ?_
  refine lv_iload_n hx hb dX3_fliesByAccounts_4 rfl (lv_at hl 1 rfl) ?_
  obtain ⟨y1, hw⟩ := hw
  refine ald_2 hx hb hE hP (k0_3 h0) y1 dX3_fliesByAccounts_5 ?_
  refine lv_aload_n hx hb dX3_fliesByAccounts_6 rfl (lv_at hl 0 rfl) ?_
  refine gf_X3_3 hx hb hE hP hown h0 (hE.w qw_165 rfl _) dX3_fliesByAccounts_7 ?_
  refine lv_iload_n hx hb dX3_fliesByAccounts_10 rfl (lv_at hl 1 rfl) ?_
  obtain ⟨y2, hw⟩ := hw
  refine ald_2 hx hb hE hP (k0_4 h0) y2 dX3_fliesByAccounts_11 ?_
  refine lv_isub hx hb dX3_fliesByAccounts_12 ?_
  exact end_i hx hb hr hlk rfl hw hP hD hS dX3_fliesByAccounts_13
def wlX3_valueByVaults_4 (post : Int32 → GS → Prop) (q0 : Nat) : Nat → GS → Int32 → Int32 → Prop
  | 0, _, _, _ => False
  | n + 1, G, v1, v2 =>
    if 5 ≤ v2 then
  post v1 G
else
  vp_in v2 5 ∧
    wpX7_legsAt (fun (r4 : Int32) (G3 : GS) =>
    ∀ z5 : Int32, z5 = (v1 + r4) →
      ∀ z6 : Int32, z6 = v2 + 1 →
      wlX3_valueByVaults_4 post q0 n G3 z5 z6) (q0 + 1 + 4 + v2.toNatClampNeg) (q0 + 2) G
def wpX3_valueByVaults (post : Int32 → GS → Prop) (q0 : Nat) (G : GS) : Prop :=
  ∃ nn, wlX3_valueByVaults_4 post q0 nn G 0 0
set_option maxHeartbeats 4000000 in
set_option maxRecDepth 100000 in
theorem okX3_valueByVaults (X : Cx) (l : Launch) (hfl : l.stackTraces = false) {post : Int32 → GS → Prop} {q0 : Nat} {G : GS} (h0 : kd q0 = 0) (hw : wpX3_valueByVaults post q0 G) : CT X l yX3_valueByVaults cX3_valueByVaults 3 (some FieldType.int) 2 0 0 [.ref (xa X q0)] G (Qi X post) := by
  refine mbegin (by decide) (Nat.le_of_ble_eq_true rfl) (fun p e s m below meth c hx hb hr hml hlk hown hE hz ls hl hP hD hS => ?_)
  have hl : lv_has ls 3 [(0, .ref (xa X q0))] := hl
  have hown : s.vm.findClass "FlyTreasury$Ledger" = some m.cls := hown
  have L4 : ∀ (n4 : Nat) (G : GS) (v1 : Int32) (v2 : Int32) (H : Heap) (locs : List Loc) (ls : Array Slot), wlX3_valueByVaults_4 post q0 n4 G v1 v2 → va_P (xD X) vwCl (pool X G) H → va_D (xA X) (pool X G) → va_S (xA X) s.heap H locs → lv_has ls 3 [(0, .ref (xa X q0)), (1, .int v1), (2, .int v2)] → W p l e (rmL 2 0 0) s m [.ref (xa X q0)].toArray below meth c H locs 0 0 (MQ below (Qi X post) [.ref (xa X q0)].toArray s 0 0 (xA X)) (F0 m 4 ls []) := by
    intro n4
    induction n4 with
    | zero => intro G v1 v2  H locs ls hw; exact hw.elim
    | succ n4 ih4 =>
      intro G v1 v2  H locs ls hw hP hD hS hl
      rw [wlX3_valueByVaults_4] at hw
      refine lv_iload_n hx hb dX3_valueByVaults_4 rfl (lv_at hl 2 rfl) ?_
      refine lv_iconst (v := 5) hx hb dX3_valueByVaults_5 (by decide) ?_
      refine lv_icmp_ge (tgt := 31) hx hb dX3_valueByVaults_6 (by decide) (fun c7 => ?_) (fun c7 => ?_)
      · replace hw := ite_t hw c7
        refine lv_iload_n hx hb dX3_valueByVaults_31 rfl (lv_at hl 1 rfl) ?_
        exact end_i hx hb hr hlk rfl hw hP hD hS dX3_valueByVaults_32
      · replace hw := ite_f hw c7
        refine lv_iload_n hx hb dX3_valueByVaults_9 rfl (lv_at hl 1 rfl) ?_
        refine lv_aload_n hx hb dX3_valueByVaults_10 rfl (lv_at hl 0 rfl) ?_
        refine gf_X3_0 hx hb hE hP hown h0 (hE.w qw_160 rfl _) dX3_valueByVaults_11 ?_
        refine lv_iload_n hx hb dX3_valueByVaults_14 rfl (lv_at hl 2 rfl) ?_
        obtain ⟨y8, hw⟩ := hw
        refine ald_1 hx hb hE hP (k0_1 h0) y8 dX3_valueByVaults_15 ?_
        refine lv_aload_n hx hb dX3_valueByVaults_16 rfl (lv_at hl 0 rfl) ?_
        refine gf_X3_1 hx hb hE hP hown h0 (hE.w qw_162 rfl _) dX3_valueByVaults_17 ?_
        refine call_i (run_V (cc := cX3_valueByVaults) (As := [.ref (xa X (q0 + 2))]) (rest := [.int v1]) hx hb hml hown hE hz (okX7_legsAt X l hfl (k1_e (k0_1 h0) y8) (k0_2 h0) hw) qw_358 qw_359 qw_360 qw_76 qw_361 (myX7_legsAt) ⟨Nat.le_of_ble_eq_true rfl, Nat.le_of_ble_eq_true rfl⟩ (rv_X7 hE hP (k1_e (k0_1 h0) y8)) hP hD hS rfl hl.1 rfl (Nat.le_of_ble_eq_true rfl) dX3_valueByVaults_20 ⟨Nat.le_of_ble_eq_true rfl, Nat.le_of_ble_eq_true rfl⟩) hS (fun r10 G9 H locs hw hP hD hS => ?_)
        refine lv_iadd hx hb dX3_valueByVaults_23 ?_
        refine lv_topi (fun z11 ez11 => ?_)
        replace hw := hw z11 ez11
        refine lv_istore_n (lv' := [(1, .int z11), (0, .ref (xa X q0)), (2, .int v2)]) hx hb dX3_valueByVaults_24 rfl hl (by decide) rfl (fun ls hl => ?_)
        obtain ⟨z12, ez12⟩ : ∃ y : Int32, y = v2 + 1 := ⟨_, rfl⟩
        replace hw := hw z12 ez12
        refine lv_iinc (v := z12) (lv' := [(2, .int z12), (1, .int z11), (0, .ref (xa X q0))]) hx hb dX3_valueByVaults_25 hl (k := 2) rfl (by rw [ez12]; rfl) (by decide) rfl (fun ls hl => ?_)
        refine lv_goto (tgt := 4) hx hb dX3_valueByVaults_28 (by decide) ?_
        exact ih4 G9 z11 z12  _ _ _ hw hP hD hS (lv_sub hl [2, 1, 0] rfl)
  unfold wpX3_valueByVaults at hw
  refine lv_iconst (v := 0) hx hb dX3_valueByVaults_0 (by decide) ?_
  refine lv_istore_n (lv' := [(1, .int 0), (0, .ref (xa X q0))]) hx hb dX3_valueByVaults_1 rfl hl (by decide) rfl (fun ls hl => ?_)
  refine lv_iconst (v := 0) hx hb dX3_valueByVaults_2 (by decide) ?_
  refine lv_istore_n (lv' := [(2, .int 0), (1, .int 0), (0, .ref (xa X q0))]) hx hb dX3_valueByVaults_3 rfl hl (by decide) rfl (fun ls hl => ?_)
  obtain ⟨nn, hw⟩ := hw
  exact L4 nn G 0 0  _ _ _ hw hP hD hS (lv_sub hl [2, 1, 0] rfl)
def wpX3_valueOfKind (post : Int32 → GS → Prop) (q0 : Nat) (a1 : Int32) (G : GS) : Prop :=
  wpX3_fliesByVaults (fun (r2 : Int32) (G1 : GS) =>
  vp_in a1 (ln (q0 + 2)) ∧
    post (r2 * (G1.1 (q0 + 2) a1.toNatClampNeg)) G1) q0 a1 G
set_option maxHeartbeats 4000000 in
set_option maxRecDepth 100000 in
theorem okX3_valueOfKind (X : Cx) (l : Launch) (hfl : l.stackTraces = false) {post : Int32 → GS → Prop} {q0 : Nat} {a1 : Int32} {G : GS} (h0 : kd q0 = 0) (hw : wpX3_valueOfKind post q0 a1 G) : CT X l yX3_valueOfKind cX3_valueOfKind 2 (some FieldType.int) 2 0 0 [.ref (xa X q0), .int a1] G (Qi X post) := by
  refine mbegin (by decide) (Nat.le_of_ble_eq_true rfl) (fun p e s m below meth c hx hb hr hml hlk hown hE hz ls hl hP hD hS => ?_)
  have hl : lv_has ls 2 [(0, .ref (xa X q0)), (1, .int a1)] := hl
  have hown : s.vm.findClass "FlyTreasury$Ledger" = some m.cls := hown
  unfold wpX3_valueOfKind at hw
  refine lv_aload_n hx hb dX3_valueOfKind_0 rfl (lv_at hl 0 rfl) ?_
  refine lv_iload_n hx hb dX3_valueOfKind_1 rfl (lv_at hl 1 rfl) ?_
  refine call_i (run_V (cc := cX3_valueOfKind) (As := [.int a1]) (rest := []) hx hb hml hown hE hz (okX3_fliesByVaults X l hfl h0 hw) qw_374 qw_375 qw_376 qw_75 qw_377 (myX3_fliesByVaults) ⟨Nat.le_of_ble_eq_true rfl, Nat.le_of_ble_eq_true rfl⟩ (rv_X3 hE hP h0) hP hD hS rfl hl.1 rfl (Nat.le_of_ble_eq_true rfl) dX3_valueOfKind_2 ⟨Nat.le_of_ble_eq_true rfl, Nat.le_of_ble_eq_true rfl⟩) hS (fun r2 G1 H locs hw hP hD hS => ?_)
  refine lv_aload_n hx hb dX3_valueOfKind_5 rfl (lv_at hl 0 rfl) ?_
  refine gf_X3_1 hx hb hE hP hown h0 (hE.w qw_162 rfl _) dX3_valueOfKind_6 ?_
  refine lv_iload_n hx hb dX3_valueOfKind_9 rfl (lv_at hl 1 rfl) ?_
  obtain ⟨y3, hw⟩ := hw
  refine ald_2 hx hb hE hP (k0_2 h0) y3 dX3_valueOfKind_10 ?_
  refine lv_imul hx hb dX3_valueOfKind_11 ?_
  exact end_i hx hb hr hlk rfl hw hP hD hS dX3_valueOfKind_12
def wlX3_valueByKinds_25 (post : Int32 → GS → Prop) (q0 : Nat) : Nat → GS → Int32 → Int32 → Prop
  | 0, _, _, _ => False
  | n + 1, G, v1, v2 =>
    if 5 ≤ v2 then
  post v1 G
else
  vp_in v2 5 ∧
    ∀ z4 : Int32, z4 = (v1 + (G.1 (q0 + 1 + 4 + v2.toNatClampNeg) 1)) →
    ∀ z5 : Int32, z5 = v2 + 1 →
    wlX3_valueByKinds_25 post q0 n G z4 z5
def wlX3_valueByKinds_4 (post : Int32 → GS → Prop) (q0 : Nat) : Nat → GS → Int32 → Int32 → Prop
  | 0, _, _, _ => False
  | n + 1, G, v1, v2 =>
    if 3 ≤ v2 then
  ∃ nn, wlX3_valueByKinds_25 post q0 nn G v1 0
else
  wpX3_valueOfKind (fun (r11 : Int32) (G10 : GS) =>
    ∀ z12 : Int32, z12 = (v1 + r11) →
      ∀ z13 : Int32, z13 = v2 + 1 →
      wlX3_valueByKinds_4 post q0 n G10 z12 z13) q0 v2 G
def wpX3_valueByKinds (post : Int32 → GS → Prop) (q0 : Nat) (G : GS) : Prop :=
  ∃ nn, wlX3_valueByKinds_4 post q0 nn G 0 0
set_option maxHeartbeats 4000000 in
set_option maxRecDepth 100000 in
theorem okX3_valueByKinds (X : Cx) (l : Launch) (hfl : l.stackTraces = false) {post : Int32 → GS → Prop} {q0 : Nat} {G : GS} (h0 : kd q0 = 0) (hw : wpX3_valueByKinds post q0 G) : CT X l yX3_valueByKinds cX3_valueByKinds 3 (some FieldType.int) 3 0 0 [.ref (xa X q0)] G (Qi X post) := by
  refine mbegin (by decide) (Nat.le_of_ble_eq_true rfl) (fun p e s m below meth c hx hb hr hml hlk hown hE hz ls hl hP hD hS => ?_)
  have hl : lv_has ls 3 [(0, .ref (xa X q0))] := hl
  have hown : s.vm.findClass "FlyTreasury$Ledger" = some m.cls := hown
  have L25 : ∀ (n25 : Nat) (G : GS) (v1 : Int32) (v2 : Int32) (H : Heap) (locs : List Loc) (ls : Array Slot), wlX3_valueByKinds_25 post q0 n25 G v1 v2 → va_P (xD X) vwCl (pool X G) H → va_D (xA X) (pool X G) → va_S (xA X) s.heap H locs → lv_has ls 3 [(0, .ref (xa X q0)), (1, .int v1), (2, .int v2)] → W p l e (rmL 3 0 0) s m [.ref (xa X q0)].toArray below meth c H locs 0 0 (MQ below (Qi X post) [.ref (xa X q0)].toArray s 0 0 (xA X)) (F0 m 25 ls []) := by
    intro n25
    induction n25 with
    | zero => intro G v1 v2  H locs ls hw; exact hw.elim
    | succ n25 ih25 =>
      intro G v1 v2  H locs ls hw hP hD hS hl
      rw [wlX3_valueByKinds_25] at hw
      refine lv_iload_n hx hb dX3_valueByKinds_25 rfl (lv_at hl 2 rfl) ?_
      refine lv_iconst (v := 5) hx hb dX3_valueByKinds_26 (by decide) ?_
      refine lv_icmp_ge (tgt := 48) hx hb dX3_valueByKinds_27 (by decide) (fun c6 => ?_) (fun c6 => ?_)
      · replace hw := ite_t hw c6
        refine lv_iload_n hx hb dX3_valueByKinds_48 rfl (lv_at hl 1 rfl) ?_
        exact end_i hx hb hr hlk rfl hw hP hD hS dX3_valueByKinds_49
      · replace hw := ite_f hw c6
        refine lv_iload_n hx hb dX3_valueByKinds_30 rfl (lv_at hl 1 rfl) ?_
        refine lv_aload_n hx hb dX3_valueByKinds_31 rfl (lv_at hl 0 rfl) ?_
        refine gf_X3_0 hx hb hE hP hown h0 (hE.w qw_160 rfl _) dX3_valueByKinds_32 ?_
        refine lv_iload_n hx hb dX3_valueByKinds_35 rfl (lv_at hl 2 rfl) ?_
        obtain ⟨y7, hw⟩ := hw
        refine ald_1 hx hb hE hP (k0_1 h0) y7 dX3_valueByKinds_36 ?_
        refine gn_X7_1 hx hb hE hP hown (k1_e (k0_1 h0) y7) (hE.w qw_134 rfl _) dX3_valueByKinds_37 ?_
        refine lv_iadd hx hb dX3_valueByKinds_40 ?_
        refine lv_topi (fun z8 ez8 => ?_)
        replace hw := hw z8 ez8
        refine lv_istore_n (lv' := [(1, .int z8), (0, .ref (xa X q0)), (2, .int v2)]) hx hb dX3_valueByKinds_41 rfl hl (by decide) rfl (fun ls hl => ?_)
        obtain ⟨z9, ez9⟩ : ∃ y : Int32, y = v2 + 1 := ⟨_, rfl⟩
        replace hw := hw z9 ez9
        refine lv_iinc (v := z9) (lv' := [(2, .int z9), (1, .int z8), (0, .ref (xa X q0))]) hx hb dX3_valueByKinds_42 hl (k := 2) rfl (by rw [ez9]; rfl) (by decide) rfl (fun ls hl => ?_)
        refine lv_goto (tgt := 25) hx hb dX3_valueByKinds_45 (by decide) ?_
        exact ih25 G z8 z9  _ _ _ hw hP hD hS (lv_sub hl [2, 1, 0] rfl)
  have L4 : ∀ (n4 : Nat) (G : GS) (v1 : Int32) (v2 : Int32) (H : Heap) (locs : List Loc) (ls : Array Slot), wlX3_valueByKinds_4 post q0 n4 G v1 v2 → va_P (xD X) vwCl (pool X G) H → va_D (xA X) (pool X G) → va_S (xA X) s.heap H locs → lv_has ls 3 [(0, .ref (xa X q0)), (1, .int v1), (2, .int v2)] → W p l e (rmL 3 0 0) s m [.ref (xa X q0)].toArray below meth c H locs 0 0 (MQ below (Qi X post) [.ref (xa X q0)].toArray s 0 0 (xA X)) (F0 m 4 ls []) := by
    intro n4
    induction n4 with
    | zero => intro G v1 v2  H locs ls hw; exact hw.elim
    | succ n4 ih4 =>
      intro G v1 v2  H locs ls hw hP hD hS hl
      rw [wlX3_valueByKinds_4] at hw
      refine lv_iload_n hx hb dX3_valueByKinds_4 rfl (lv_at hl 2 rfl) ?_
      refine lv_iconst (v := 3) hx hb dX3_valueByKinds_5 (by decide) ?_
      refine lv_icmp_ge (tgt := 23) hx hb dX3_valueByKinds_6 (by decide) (fun c14 => ?_) (fun c14 => ?_)
      · replace hw := ite_t hw c14
        refine lv_iconst (v := 0) hx hb dX3_valueByKinds_23 (by decide) ?_
        refine lv_istore_n (lv' := [(2, .int 0), (0, .ref (xa X q0)), (1, .int v1)]) hx hb dX3_valueByKinds_24 rfl hl (by decide) rfl (fun ls hl => ?_)
        obtain ⟨nn, hw⟩ := hw
        exact L25 nn G v1 0  _ _ _ hw hP hD hS (lv_sub hl [1, 2, 0] rfl)
      · replace hw := ite_f hw c14
        refine lv_iload_n hx hb dX3_valueByKinds_9 rfl (lv_at hl 1 rfl) ?_
        refine lv_aload_n hx hb dX3_valueByKinds_10 rfl (lv_at hl 0 rfl) ?_
        refine lv_iload_n hx hb dX3_valueByKinds_11 rfl (lv_at hl 2 rfl) ?_
        refine call_i (run_V (cc := cX3_valueByKinds) (As := [.int v2]) (rest := [.int v1]) hx hb hml hown hE hz (okX3_valueOfKind X l hfl h0 hw) qw_370 qw_372 qw_0 qw_75 qw_373 (myX3_valueOfKind) ⟨Nat.le_of_ble_eq_true rfl, Nat.le_of_ble_eq_true rfl⟩ (rv_X3 hE hP h0) hP hD hS rfl hl.1 rfl (Nat.le_of_ble_eq_true rfl) dX3_valueByKinds_12 ⟨Nat.le_of_ble_eq_true rfl, Nat.le_of_ble_eq_true rfl⟩) hS (fun r16 G15 H locs hw hP hD hS => ?_)
        refine lv_iadd hx hb dX3_valueByKinds_15 ?_
        refine lv_topi (fun z17 ez17 => ?_)
        replace hw := hw z17 ez17
        refine lv_istore_n (lv' := [(1, .int z17), (0, .ref (xa X q0)), (2, .int v2)]) hx hb dX3_valueByKinds_16 rfl hl (by decide) rfl (fun ls hl => ?_)
        obtain ⟨z18, ez18⟩ : ∃ y : Int32, y = v2 + 1 := ⟨_, rfl⟩
        replace hw := hw z18 ez18
        refine lv_iinc (v := z18) (lv' := [(2, .int z18), (1, .int z17), (0, .ref (xa X q0))]) hx hb dX3_valueByKinds_17 hl (k := 2) rfl (by rw [ez18]; rfl) (by decide) rfl (fun ls hl => ?_)
        refine lv_goto (tgt := 4) hx hb dX3_valueByKinds_20 (by decide) ?_
        exact ih4 G15 z17 z18  _ _ _ hw hP hD hS (lv_sub hl [2, 1, 0] rfl)
  unfold wpX3_valueByKinds at hw
  refine lv_iconst (v := 0) hx hb dX3_valueByKinds_0 (by decide) ?_
  refine lv_istore_n (lv' := [(1, .int 0), (0, .ref (xa X q0))]) hx hb dX3_valueByKinds_1 rfl hl (by decide) rfl (fun ls hl => ?_)
  refine lv_iconst (v := 0) hx hb dX3_valueByKinds_2 (by decide) ?_
  refine lv_istore_n (lv' := [(2, .int 0), (1, .int 0), (0, .ref (xa X q0))]) hx hb dX3_valueByKinds_3 rfl hl (by decide) rfl (fun ls hl => ?_)
  obtain ⟨nn, hw⟩ := hw
  exact L4 nn G 0 0  _ _ _ hw hP hD hS (lv_sub hl [2, 1, 0] rfl)
def wpX3_ranksBefore (post : Int32 → GS → Prop) (q0 : Nat) (a1 : Int32) (a2 : Int32) (G : GS) : Prop :=
  vp_in a1 5 ∧
  wpX7_legsAt (fun (r3 : Int32) (G2 : GS) =>
  vp_in a2 5 ∧
    wpX7_legsAt (fun (r6 : Int32) (G5 : GS) =>
    if r3 = r6 then
      vp_in a1 5 ∧
        vp_in a2 5 ∧
        if (G5.1 (q0 + 1 + 4 + a1.toNatClampNeg) 2) = (G5.1 (q0 + 1 + 4 + a2.toNatClampNeg) 2) then
        if a2 ≤ a1 then
          post 0 G5
        else
          post 1 G5
      else
        vp_in a1 5 ∧
          vp_in a2 5 ∧
          if (G5.1 (q0 + 1 + 4 + a2.toNatClampNeg) 2) ≤ (G5.1 (q0 + 1 + 4 + a1.toNatClampNeg) 2) then
          post 0 G5
        else
          post 1 G5
    else
      if r3 ≤ r6 then
        post 0 G5
      else
        post 1 G5) (q0 + 1 + 4 + a2.toNatClampNeg) (q0 + 2) G2) (q0 + 1 + 4 + a1.toNatClampNeg) (q0 + 2) G
set_option maxHeartbeats 4000000 in
set_option maxRecDepth 100000 in
theorem okX3_ranksBefore (X : Cx) (l : Launch) (hfl : l.stackTraces = false) {post : Int32 → GS → Prop} {q0 : Nat} {a1 : Int32} {a2 : Int32} {G : GS} (h0 : kd q0 = 0) (hw : wpX3_ranksBefore post q0 a1 a2 G) : CT X l yX3_ranksBefore cX3_ranksBefore 5 (some FieldType.boolean) 2 0 0 [.ref (xa X q0), .int a1, .int a2] G (Qi X post) := by
  refine mbegin (by decide) (Nat.le_of_ble_eq_true rfl) (fun p e s m below meth c hx hb hr hml hlk hown hE hz ls hl hP hD hS => ?_)
  have hl : lv_has ls 5 [(0, .ref (xa X q0)), (1, .int a1), (2, .int a2)] := hl
  have hown : s.vm.findClass "FlyTreasury$Ledger" = some m.cls := hown
  unfold wpX3_ranksBefore at hw
  refine lv_aload_n hx hb dX3_ranksBefore_0 rfl (lv_at hl 0 rfl) ?_
  refine gf_X3_0 hx hb hE hP hown h0 (hE.w qw_160 rfl _) dX3_ranksBefore_1 ?_
  refine lv_iload_n hx hb dX3_ranksBefore_4 rfl (lv_at hl 1 rfl) ?_
  obtain ⟨y1, hw⟩ := hw
  refine ald_1 hx hb hE hP (k0_1 h0) y1 dX3_ranksBefore_5 ?_
  refine lv_aload_n hx hb dX3_ranksBefore_6 rfl (lv_at hl 0 rfl) ?_
  refine gf_X3_1 hx hb hE hP hown h0 (hE.w qw_162 rfl _) dX3_ranksBefore_7 ?_
  refine call_i (run_V (cc := cX3_ranksBefore) (As := [.ref (xa X (q0 + 2))]) (rest := []) hx hb hml hown hE hz (okX7_legsAt X l hfl (k1_e (k0_1 h0) y1) (k0_2 h0) hw) qw_358 qw_359 qw_360 qw_76 qw_361 (myX7_legsAt) ⟨Nat.le_of_ble_eq_true rfl, Nat.le_of_ble_eq_true rfl⟩ (rv_X7 hE hP (k1_e (k0_1 h0) y1)) hP hD hS rfl hl.1 rfl (Nat.le_of_ble_eq_true rfl) dX3_ranksBefore_10 ⟨Nat.le_of_ble_eq_true rfl, Nat.le_of_ble_eq_true rfl⟩) hS (fun r3 G2 H locs hw hP hD hS => ?_)
  refine lv_istore_n (lv' := [(3, .int r3), (0, .ref (xa X q0)), (1, .int a1), (2, .int a2)]) hx hb dX3_ranksBefore_13 rfl hl (by decide) rfl (fun ls hl => ?_)
  refine lv_aload_n hx hb dX3_ranksBefore_14 rfl (lv_at hl 1 rfl) ?_
  refine gf_X3_0 hx hb hE hP hown h0 (hE.w qw_160 rfl _) dX3_ranksBefore_15 ?_
  refine lv_iload_n hx hb dX3_ranksBefore_18 rfl (lv_at hl 3 rfl) ?_
  obtain ⟨y4, hw⟩ := hw
  refine ald_1 hx hb hE hP (k0_1 h0) y4 dX3_ranksBefore_19 ?_
  refine lv_aload_n hx hb dX3_ranksBefore_20 rfl (lv_at hl 1 rfl) ?_
  refine gf_X3_1 hx hb hE hP hown h0 (hE.w qw_162 rfl _) dX3_ranksBefore_21 ?_
  refine call_i (run_V (cc := cX3_ranksBefore) (As := [.ref (xa X (q0 + 2))]) (rest := []) hx hb hml hown hE hz (okX7_legsAt X l hfl (k1_e (k0_1 h0) y4) (k0_2 h0) hw) qw_358 qw_359 qw_360 qw_76 qw_361 (myX7_legsAt) ⟨Nat.le_of_ble_eq_true rfl, Nat.le_of_ble_eq_true rfl⟩ (rv_X7 hE hP (k1_e (k0_1 h0) y4)) hP hD hS rfl hl.1 rfl (Nat.le_of_ble_eq_true rfl) dX3_ranksBefore_24 ⟨Nat.le_of_ble_eq_true rfl, Nat.le_of_ble_eq_true rfl⟩) hS (fun r6 G5 H locs hw hP hD hS => ?_)
  refine lv_istore (lv' := [(4, .int r6), (3, .int r3), (0, .ref (xa X q0)), (1, .int a1), (2, .int a2)]) hx hb dX3_ranksBefore_27 hl (by decide) rfl (fun ls hl => ?_)
  refine lv_iload_n hx hb dX3_ranksBefore_29 rfl (lv_at hl 1 rfl) ?_
  refine lv_iload hx hb dX3_ranksBefore_30 (lv_at hl 0 rfl) ?_
  refine lv_icmp_eq (tgt := 47) hx hb dX3_ranksBefore_32 (by decide) (fun c7 => ?_) (fun c7 => ?_)
  · replace hw := ite_t hw c7
    refine lv_aload_n hx hb dX3_ranksBefore_47 rfl (lv_at hl 2 rfl) ?_
    refine gf_X3_0 hx hb hE hP hown h0 (hE.w qw_160 rfl _) dX3_ranksBefore_48 ?_
    refine lv_iload_n hx hb dX3_ranksBefore_51 rfl (lv_at hl 3 rfl) ?_
    obtain ⟨y8, hw⟩ := hw
    refine ald_1 hx hb hE hP (k0_1 h0) y8 dX3_ranksBefore_52 ?_
    refine gn_X7_2 hx hb hE hP hown (k1_e (k0_1 h0) y8) (hE.w qw_137 rfl _) dX3_ranksBefore_53 ?_
    refine lv_aload_n hx hb dX3_ranksBefore_56 rfl (lv_at hl 2 rfl) ?_
    refine gf_X3_0 hx hb hE hP hown h0 (hE.w qw_160 rfl _) dX3_ranksBefore_57 ?_
    refine lv_iload_n hx hb dX3_ranksBefore_60 rfl (lv_at hl 4 rfl) ?_
    obtain ⟨y9, hw⟩ := hw
    refine ald_1 hx hb hE hP (k0_1 h0) y9 dX3_ranksBefore_61 ?_
    refine gn_X7_2 hx hb hE hP hown (k1_e (k0_1 h0) y9) (hE.w qw_137 rfl _) dX3_ranksBefore_62 ?_
    refine lv_icmp_eq (tgt := 95) hx hb dX3_ranksBefore_65 (by decide) (fun c10 => ?_) (fun c10 => ?_)
    · replace hw := ite_t hw c10
      refine lv_iload_n hx hb dX3_ranksBefore_95 rfl (lv_at hl 3 rfl) ?_
      refine lv_iload_n hx hb dX3_ranksBefore_96 rfl (lv_at hl 4 rfl) ?_
      refine lv_icmp_ge (tgt := 104) hx hb dX3_ranksBefore_97 (by decide) (fun c11 => ?_) (fun c11 => ?_)
      · replace hw := ite_t hw c11
        refine lv_iconst (v := 0) hx hb dX3_ranksBefore_104 (by decide) ?_
        exact end_i hx hb hr hlk (by decide) hw hP hD hS dX3_ranksBefore_105
      · replace hw := ite_f hw c11
        refine lv_iconst (v := 1) hx hb dX3_ranksBefore_100 (by decide) ?_
        refine lv_goto (tgt := 105) hx hb dX3_ranksBefore_101 (by decide) ?_
        exact end_i hx hb hr hlk (by decide) hw hP hD hS dX3_ranksBefore_105
    · replace hw := ite_f hw c10
      refine lv_aload_n hx hb dX3_ranksBefore_68 rfl (lv_at hl 2 rfl) ?_
      refine gf_X3_0 hx hb hE hP hown h0 (hE.w qw_160 rfl _) dX3_ranksBefore_69 ?_
      refine lv_iload_n hx hb dX3_ranksBefore_72 rfl (lv_at hl 3 rfl) ?_
      obtain ⟨y12, hw⟩ := hw
      refine ald_1 hx hb hE hP (k0_1 h0) y12 dX3_ranksBefore_73 ?_
      refine gn_X7_2 hx hb hE hP hown (k1_e (k0_1 h0) y12) (hE.w qw_137 rfl _) dX3_ranksBefore_74 ?_
      refine lv_aload_n hx hb dX3_ranksBefore_77 rfl (lv_at hl 2 rfl) ?_
      refine gf_X3_0 hx hb hE hP hown h0 (hE.w qw_160 rfl _) dX3_ranksBefore_78 ?_
      refine lv_iload_n hx hb dX3_ranksBefore_81 rfl (lv_at hl 4 rfl) ?_
      obtain ⟨y13, hw⟩ := hw
      refine ald_1 hx hb hE hP (k0_1 h0) y13 dX3_ranksBefore_82 ?_
      refine gn_X7_2 hx hb hE hP hown (k1_e (k0_1 h0) y13) (hE.w qw_137 rfl _) dX3_ranksBefore_83 ?_
      refine lv_icmp_ge (tgt := 93) hx hb dX3_ranksBefore_86 (by decide) (fun c14 => ?_) (fun c14 => ?_)
      · replace hw := ite_t hw c14
        refine lv_iconst (v := 0) hx hb dX3_ranksBefore_93 (by decide) ?_
        exact end_i hx hb hr hlk (by decide) hw hP hD hS dX3_ranksBefore_94
      · replace hw := ite_f hw c14
        refine lv_iconst (v := 1) hx hb dX3_ranksBefore_89 (by decide) ?_
        refine lv_goto (tgt := 94) hx hb dX3_ranksBefore_90 (by decide) ?_
        exact end_i hx hb hr hlk (by decide) hw hP hD hS dX3_ranksBefore_94
  · replace hw := ite_f hw c7
    refine lv_iload_n hx hb dX3_ranksBefore_35 rfl (lv_at hl 1 rfl) ?_
    refine lv_iload hx hb dX3_ranksBefore_36 (lv_at hl 0 rfl) ?_
    refine lv_icmp_le (tgt := 45) hx hb dX3_ranksBefore_38 (by decide) (fun c15 => ?_) (fun c15 => ?_)
    · replace hw := ite_t hw c15
      refine lv_iconst (v := 0) hx hb dX3_ranksBefore_45 (by decide) ?_
      exact end_i hx hb hr hlk (by decide) hw hP hD hS dX3_ranksBefore_46
    · replace hw := ite_f hw c15
      refine lv_iconst (v := 1) hx hb dX3_ranksBefore_41 (by decide) ?_
      refine lv_goto (tgt := 46) hx hb dX3_ranksBefore_42 (by decide) ?_
      exact end_i hx hb hr hlk (by decide) hw hP hD hS dX3_ranksBefore_46
def wlX3_vaultAtRank_15 (post : Int32 → GS → Prop) (q0 : Nat) (a1 : Int32) (K2 : GS → Int32 → Prop) : Nat → GS → Int32 → Int32 → Int32 → Prop
  | 0, _, _, _, _ => False
  | n + 1, G, v2, v3, v4 =>
    if (G.1 q0 4) ≤ v4 then
  if v3 = a1 then
    post v2 G
  else
    ∀ z4 : Int32, z4 = v2 + 1 →
      K2 G z4
else
  wpX3_ranksBefore (fun (r6 : Int32) (G5 : GS) =>
    if r6 = 0 then
      ∀ z8 : Int32, z8 = (v3 + 0) →
        ∀ z9 : Int32, z9 = v4 + 1 →
        wlX3_vaultAtRank_15 post q0 a1 K2 n G5 v2 z8 z9
    else
      ∀ z10 : Int32, z10 = (v3 + 1) →
        ∀ z11 : Int32, z11 = v4 + 1 →
        wlX3_vaultAtRank_15 post q0 a1 K2 n G5 v2 z10 z11) q0 v4 v2 G
def wlX3_vaultAtRank_2 (post : Int32 → GS → Prop) (q0 : Nat) (a1 : Int32) : Nat → GS → Int32 → Prop
  | 0, _, _ => False
  | n + 1, G, v2 =>
    if (G.1 q0 4) ≤ v2 then
  post (-1) G
else
  ∃ nn, wlX3_vaultAtRank_15 post q0 a1 (fun (G : GS) (v2 : Int32) => wlX3_vaultAtRank_2 post q0 a1 n G v2) nn G v2 0 0
def wpX3_vaultAtRank (post : Int32 → GS → Prop) (q0 : Nat) (a1 : Int32) (G : GS) : Prop :=
  ∃ nn, wlX3_vaultAtRank_2 post q0 a1 nn G 0
set_option maxHeartbeats 4000000 in
set_option maxRecDepth 100000 in
theorem okX3_vaultAtRank (X : Cx) (l : Launch) (hfl : l.stackTraces = false) {post : Int32 → GS → Prop} {q0 : Nat} {a1 : Int32} {G : GS} (h0 : kd q0 = 0) (hw : wpX3_vaultAtRank post q0 a1 G) : CT X l yX3_vaultAtRank cX3_vaultAtRank 5 (some FieldType.int) 3 0 0 [.ref (xa X q0), .int a1] G (Qi X post) := by
  refine mbegin (by decide) (Nat.le_of_ble_eq_true rfl) (fun p e s m below meth c hx hb hr hml hlk hown hE hz ls hl hP hD hS => ?_)
  have hl : lv_has ls 5 [(0, .ref (xa X q0)), (1, .int a1)] := hl
  have hown : s.vm.findClass "FlyTreasury$Ledger" = some m.cls := hown
  have L2 : ∀ (n2 : Nat) (G : GS) (v2 : Int32) (H : Heap) (locs : List Loc) (ls : Array Slot), wlX3_vaultAtRank_2 post q0 a1 n2 G v2 → va_P (xD X) vwCl (pool X G) H → va_D (xA X) (pool X G) → va_S (xA X) s.heap H locs → lv_has ls 5 [(0, .ref (xa X q0)), (1, .int a1), (2, .int v2)] → W p l e (rmL 3 0 0) s m [.ref (xa X q0), .int a1].toArray below meth c H locs 0 0 (MQ below (Qi X post) [.ref (xa X q0), .int a1].toArray s 0 0 (xA X)) (F0 m 2 ls []) := by
    intro n2
    induction n2 with
    | zero => intro G v2  H locs ls hw; exact hw.elim
    | succ n2 ih2 =>
      have L15 : ∀ (n15 : Nat) (G : GS) (v2 : Int32) (v3 : Int32) (v4 : Int32) (H : Heap) (locs : List Loc) (ls : Array Slot), wlX3_vaultAtRank_15 post q0 a1 (fun (G : GS) (v2 : Int32) => wlX3_vaultAtRank_2 post q0 a1 n2 G v2) n15 G v2 v3 v4 → va_P (xD X) vwCl (pool X G) H → va_D (xA X) (pool X G) → va_S (xA X) s.heap H locs → lv_has ls 5 [(0, .ref (xa X q0)), (1, .int a1), (2, .int v2), (3, .int v3), (4, .int v4)] → W p l e (rmL 3 0 0) s m [.ref (xa X q0), .int a1].toArray below meth c H locs 0 0 (MQ below (Qi X post) [.ref (xa X q0), .int a1].toArray s 0 0 (xA X)) (F0 m 15 ls []) := by
        intro n15
        induction n15 with
        | zero => intro G v2 v3 v4  H locs ls hw; exact hw.elim
        | succ n15 ih15 =>
          intro G v2 v3 v4  H locs ls hw hP hD hS hl
          rw [wlX3_vaultAtRank_15] at hw
          refine lv_iload hx hb dX3_vaultAtRank_15 (lv_at hl 4 rfl) ?_
          refine lv_aload_n hx hb dX3_vaultAtRank_17 rfl (lv_at hl 0 rfl) ?_
          refine gf_X3_4 hx hb hE hP hown h0 (hE.w qw_166 rfl _) dX3_vaultAtRank_18 ?_
          refine lv_icmp_ge (tgt := 48) hx hb dX3_vaultAtRank_21 (by decide) (fun c12 => ?_) (fun c12 => ?_)
          · replace hw := ite_t hw c12
            refine lv_iload_n hx hb dX3_vaultAtRank_48 rfl (lv_at hl 3 rfl) ?_
            refine lv_iload_n hx hb dX3_vaultAtRank_49 rfl (lv_at hl 1 rfl) ?_
            refine lv_icmp_ne (tgt := 55) hx hb dX3_vaultAtRank_50 (by decide) (fun c13 => ?_) (fun c13 => ?_)
            · replace hw := ite_f hw c13
              obtain ⟨z14, ez14⟩ : ∃ y : Int32, y = v2 + 1 := ⟨_, rfl⟩
              replace hw := hw z14 ez14
              refine lv_iinc (v := z14) (lv' := [(2, .int z14), (0, .ref (xa X q0)), (1, .int a1), (3, .int v3), (4, .int v4)]) hx hb dX3_vaultAtRank_55 hl (k := 2) rfl (by rw [ez14]; rfl) (by decide) rfl (fun ls hl => ?_)
              refine lv_goto (tgt := 2) hx hb dX3_vaultAtRank_58 (by decide) ?_
              exact ih2 G z14  _ _ _ hw hP hD hS (lv_sub hl [1, 2, 0] rfl)
            · replace hw := ite_t hw c13
              refine lv_iload_n hx hb dX3_vaultAtRank_53 rfl (lv_at hl 2 rfl) ?_
              exact end_i hx hb hr hlk rfl hw hP hD hS dX3_vaultAtRank_54
          · replace hw := ite_f hw c12
            refine lv_iload_n hx hb dX3_vaultAtRank_24 rfl (lv_at hl 3 rfl) ?_
            refine lv_aload_n hx hb dX3_vaultAtRank_25 rfl (lv_at hl 0 rfl) ?_
            refine lv_iload hx hb dX3_vaultAtRank_26 (lv_at hl 4 rfl) ?_
            refine lv_iload_n hx hb dX3_vaultAtRank_28 rfl (lv_at hl 2 rfl) ?_
            refine call_i (run_V (cc := cX3_vaultAtRank) (As := [.int v4, .int v2]) (rest := [.int v3]) hx hb hml hown hE hz (okX3_ranksBefore X l hfl h0 hw) qw_1355 qw_1357 qw_4 qw_75 qw_1358 (myX3_ranksBefore) ⟨Nat.le_of_ble_eq_true rfl, Nat.le_of_ble_eq_true rfl⟩ (rv_X3 hE hP h0) hP hD hS rfl hl.1 rfl (Nat.le_of_ble_eq_true rfl) dX3_vaultAtRank_29 ⟨Nat.le_of_ble_eq_true rfl, Nat.le_of_ble_eq_true rfl⟩) hS (fun r16 G15 H locs hw hP hD hS => ?_)
            refine lv_if_eq (tgt := 39) hx hb dX3_vaultAtRank_32 (by decide) (fun c17 => ?_) (fun c17 => ?_)
            · replace hw := ite_t hw c17
              refine lv_iconst (v := 0) hx hb dX3_vaultAtRank_39 (by decide) ?_
              refine lv_iadd hx hb dX3_vaultAtRank_40 ?_
              refine lv_topi (fun z18 ez18 => ?_)
              replace hw := hw z18 ez18
              refine lv_istore_n (lv' := [(3, .int z18), (0, .ref (xa X q0)), (1, .int a1), (2, .int v2), (4, .int v4)]) hx hb dX3_vaultAtRank_41 rfl hl (by decide) rfl (fun ls hl => ?_)
              obtain ⟨z19, ez19⟩ : ∃ y : Int32, y = v4 + 1 := ⟨_, rfl⟩
              replace hw := hw z19 ez19
              refine lv_iinc (v := z19) (lv' := [(4, .int z19), (3, .int z18), (0, .ref (xa X q0)), (1, .int a1), (2, .int v2)]) hx hb dX3_vaultAtRank_42 hl (k := 4) rfl (by rw [ez19]; rfl) (by decide) rfl (fun ls hl => ?_)
              refine lv_goto (tgt := 15) hx hb dX3_vaultAtRank_45 (by decide) ?_
              exact ih15 G15 v2 z18 z19  _ _ _ hw hP hD hS (lv_sub hl [2, 3, 4, 1, 0] rfl)
            · replace hw := ite_f hw c17
              refine lv_iconst (v := 1) hx hb dX3_vaultAtRank_35 (by decide) ?_
              refine lv_goto (tgt := 40) hx hb dX3_vaultAtRank_36 (by decide) ?_
              refine lv_iadd hx hb dX3_vaultAtRank_40 ?_
              refine lv_topi (fun z20 ez20 => ?_)
              replace hw := hw z20 ez20
              refine lv_istore_n (lv' := [(3, .int z20), (0, .ref (xa X q0)), (1, .int a1), (2, .int v2), (4, .int v4)]) hx hb dX3_vaultAtRank_41 rfl hl (by decide) rfl (fun ls hl => ?_)
              obtain ⟨z21, ez21⟩ : ∃ y : Int32, y = v4 + 1 := ⟨_, rfl⟩
              replace hw := hw z21 ez21
              refine lv_iinc (v := z21) (lv' := [(4, .int z21), (3, .int z20), (0, .ref (xa X q0)), (1, .int a1), (2, .int v2)]) hx hb dX3_vaultAtRank_42 hl (k := 4) rfl (by rw [ez21]; rfl) (by decide) rfl (fun ls hl => ?_)
              refine lv_goto (tgt := 15) hx hb dX3_vaultAtRank_45 (by decide) ?_
              exact ih15 G15 v2 z20 z21  _ _ _ hw hP hD hS (lv_sub hl [2, 3, 4, 1, 0] rfl)
      intro G v2  H locs ls hw hP hD hS hl
      rw [wlX3_vaultAtRank_2] at hw
      refine lv_iload_n hx hb dX3_vaultAtRank_2 rfl (lv_at hl 2 rfl) ?_
      refine lv_aload_n hx hb dX3_vaultAtRank_3 rfl (lv_at hl 0 rfl) ?_
      refine gf_X3_4 hx hb hE hP hown h0 (hE.w qw_166 rfl _) dX3_vaultAtRank_4 ?_
      refine lv_icmp_ge (tgt := 61) hx hb dX3_vaultAtRank_7 (by decide) (fun c22 => ?_) (fun c22 => ?_)
      · replace hw := ite_t hw c22
        refine lv_iconst (v := -1) hx hb dX3_vaultAtRank_61 (by decide) ?_
        exact end_i hx hb hr hlk rfl hw hP hD hS dX3_vaultAtRank_62
      · replace hw := ite_f hw c22
        refine lv_iconst (v := 0) hx hb dX3_vaultAtRank_10 (by decide) ?_
        refine lv_istore_n (lv' := [(3, .int 0), (0, .ref (xa X q0)), (1, .int a1), (2, .int v2)]) hx hb dX3_vaultAtRank_11 rfl hl (by decide) rfl (fun ls hl => ?_)
        refine lv_iconst (v := 0) hx hb dX3_vaultAtRank_12 (by decide) ?_
        refine lv_istore (lv' := [(4, .int 0), (3, .int 0), (0, .ref (xa X q0)), (1, .int a1), (2, .int v2)]) hx hb dX3_vaultAtRank_13 hl (by decide) rfl (fun ls hl => ?_)
        obtain ⟨nn, hw⟩ := hw
        exact L15 nn G v2 0 0  _ _ _ hw hP hD hS (lv_sub hl [2, 3, 4, 1, 0] rfl)
  unfold wpX3_vaultAtRank at hw
  refine lv_iconst (v := 0) hx hb dX3_vaultAtRank_0 (by decide) ?_
  refine lv_istore_n (lv' := [(2, .int 0), (0, .ref (xa X q0)), (1, .int a1)]) hx hb dX3_vaultAtRank_1 rfl hl (by decide) rfl (fun ls hl => ?_)
  obtain ⟨nn, hw⟩ := hw
  exact L2 nn G 0  _ _ _ hw hP hD hS (lv_sub hl [1, 2, 0] rfl)
