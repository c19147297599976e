def wlX3_copyFrom_2 (post : GS → Prop) (q0 : Nat) (q1 : Nat) : Nat → GS → Int32 → Prop
  | 0, _, _ => False
  | n + 1, G, v2 =>
    if 5 ≤ v2 then
  ((0 : Int32).toNatClampNeg + (3 : Int32).toNatClampNeg ≤ ln (q1 + 2) ∧ (0 : Int32).toNatClampNeg + (3 : Int32).toNatClampNeg ≤ ln (q0 + 2)) ∧ ∀ G2 : GS, G2 = gA G (q0 + 2) (va_cpy (G.1 (q1 + 2)) (G.1 (q0 + 2)) (0 : Int32).toNatClampNeg (0 : Int32).toNatClampNeg (3 : Int32).toNatClampNeg) →
    ((0 : Int32).toNatClampNeg + (3 : Int32).toNatClampNeg ≤ ln (q1 + 3) ∧ (0 : Int32).toNatClampNeg + (3 : Int32).toNatClampNeg ≤ ln (q0 + 3)) ∧ ∀ G4 : GS, G4 = gA G2 (q0 + 3) (va_cpy (G2.1 (q1 + 3)) (G2.1 (q0 + 3)) (0 : Int32).toNatClampNeg (0 : Int32).toNatClampNeg (3 : Int32).toNatClampNeg) →
    ((0 : Int32).toNatClampNeg + (3 : Int32).toNatClampNeg ≤ ln (q1 + 4) ∧ (0 : Int32).toNatClampNeg + (3 : Int32).toNatClampNeg ≤ ln (q0 + 4)) ∧ ∀ G6 : GS, G6 = gA G4 (q0 + 4) (va_cpy (G4.1 (q1 + 4)) (G4.1 (q0 + 4)) (0 : Int32).toNatClampNeg (0 : Int32).toNatClampNeg (3 : Int32).toNatClampNeg) →
    ∀ G8 : GS, G8 = gI G6 q0 4 (G6.1 q1 4) →
    ∀ G9 : GS, G9 = gI G8 q0 5 (G8.1 q1 5) →
    ∀ G10 : GS, G10 = gI G9 q0 6 (G9.1 q1 6) →
    ∀ G11 : GS, G11 = gI G10 q0 7 (G10.1 q1 7) →
    ∀ G12 : GS, G12 = gI G11 q0 8 (G11.1 q1 8) →
    ∀ G13 : GS, G13 = gI G12 q0 9 (G12.1 q1 9) →
    ∀ G14 : GS, G14 = gI G13 q0 10 (G13.1 q1 10) →
    post G14
else
  vp_in v2 5 ∧
    vp_in v2 5 ∧
    wpX7_copyFrom (fun (G17 : GS) =>
    ∀ z18 : Int32, z18 = v2 + 1 →
      wlX3_copyFrom_2 post q0 q1 n G17 z18) (q0 + 1 + 4 + v2.toNatClampNeg) (q1 + 1 + 4 + v2.toNatClampNeg) G
def wpX3_copyFrom (post : GS → Prop) (q0 : Nat) (q1 : Nat) (G : GS) : Prop :=
  ∃ nn, wlX3_copyFrom_2 post q0 q1 nn G 0
set_option maxHeartbeats 4000000 in
set_option maxRecDepth 100000 in
theorem okX3_copyFrom (X : Cx) (l : Launch) (hfl : l.stackTraces = false) {post : GS → Prop} {q0 : Nat} {q1 : Nat} {G : GS} (h0 : kd q0 = 0) (h1 : kd q1 = 0) (hw : wpX3_copyFrom post q0 q1 G) : CT X l yX3_copyFrom cX3_copyFrom 3 none 3 0 0 [.ref (xa X q0), .ref (xa X q1)] G (Qv X post) := by
  refine mbegin (by decide) (Nat.le_of_ble_eq_true rfl) (fun p e s m below meth c hx hb hr hml hlk hown hE hz ls hl hP hD hS => ?_)
  have hl : lv_has ls 3 [(0, .ref (xa X q0)), (1, .ref (xa X q1))] := hl
  have hown : s.vm.findClass "FlyTreasury$Ledger" = some m.cls := hown
  have L2 : ∀ (n2 : Nat) (G : GS) (v2 : Int32) (H : Heap) (locs : List Loc) (ls : Array Slot), wlX3_copyFrom_2 post q0 q1 n2 G v2 → va_P (xD X) vwCl (pool X G) H → va_D (xA X) (pool X G) → va_S (xA X) s.heap H locs → lv_has ls 3 [(0, .ref (xa X q0)), (1, .ref (xa X q1)), (2, .int v2)] → W p l e (rmL 3 0 0) s m [.ref (xa X q0), .ref (xa X q1)].toArray below meth c H locs 0 0 (MQ below (Qv X post) [.ref (xa X q0), .ref (xa X q1)].toArray s 0 0 (xA X)) (F0 m 2 ls []) := by
    intro n2
    induction n2 with
    | zero => intro G v2  H locs ls hw; exact hw.elim
    | succ n2 ih2 =>
      intro G v2  H locs ls hw hP hD hS hl
      rw [wlX3_copyFrom_2] at hw
      refine lv_iload_n hx hb dX3_copyFrom_2 rfl (lv_at hl 2 rfl) ?_
      refine lv_iconst (v := 5) hx hb dX3_copyFrom_3 (by decide) ?_
      refine lv_icmp_ge (tgt := 28) hx hb dX3_copyFrom_4 (by decide) (fun c19 => ?_) (fun c19 => ?_)
      · replace hw := ite_t hw c19
        refine lv_aload_n hx hb dX3_copyFrom_28 rfl (lv_at hl 1 rfl) ?_
        refine gf_X3_1 hx hb hE hP hown h1 (hE.w qw_162 rfl _) dX3_copyFrom_29 ?_
        refine lv_iconst (v := 0) hx hb dX3_copyFrom_32 (by decide) ?_
        refine lv_aload_n hx hb dX3_copyFrom_33 rfl (lv_at hl 0 rfl) ?_
        refine gf_X3_1 hx hb hE hP hown h0 (hE.w qw_162 rfl _) dX3_copyFrom_34 ?_
        refine lv_iconst (v := 0) hx hb dX3_copyFrom_37 (by decide) ?_
        refine lv_iconst (v := 3) hx hb dX3_copyFrom_38 (by decide) ?_
        obtain ⟨y21, hw⟩ := hw
        refine cpy_2 hx hb (hml.trans hl.1.symm) hown hE qw_850 qw_510 qw_509 qw_96 hP hD hS (k0_2 h1) (k0_2 h0) (by decide) (by decide) (by decide) y21.1 y21.2 (Nat.le_of_ble_eq_true rfl) (Nat.le_of_ble_eq_true rfl) dX3_copyFrom_39 (fun G20 H locs eG20 hP hD hS => ?_)
        replace hw := hw G20 eG20
        refine lv_aload_n hx hb dX3_copyFrom_42 rfl (lv_at hl 1 rfl) ?_
        refine gf_X3_2 hx hb hE hP hown h1 (hE.w qw_164 rfl _) dX3_copyFrom_43 ?_
        refine lv_iconst (v := 0) hx hb dX3_copyFrom_46 (by decide) ?_
        refine lv_aload_n hx hb dX3_copyFrom_47 rfl (lv_at hl 0 rfl) ?_
        refine gf_X3_2 hx hb hE hP hown h0 (hE.w qw_164 rfl _) dX3_copyFrom_48 ?_
        refine lv_iconst (v := 0) hx hb dX3_copyFrom_51 (by decide) ?_
        refine lv_iconst (v := 3) hx hb dX3_copyFrom_52 (by decide) ?_
        obtain ⟨y23, hw⟩ := hw
        refine cpy_2 hx hb (hml.trans hl.1.symm) hown hE qw_850 qw_510 qw_509 qw_96 hP hD hS (k0_3 h1) (k0_3 h0) (by decide) (by decide) (by decide) y23.1 y23.2 (Nat.le_of_ble_eq_true rfl) (Nat.le_of_ble_eq_true rfl) dX3_copyFrom_53 (fun G22 H locs eG22 hP hD hS => ?_)
        replace hw := hw G22 eG22
        refine lv_aload_n hx hb dX3_copyFrom_56 rfl (lv_at hl 1 rfl) ?_
        refine gf_X3_3 hx hb hE hP hown h1 (hE.w qw_165 rfl _) dX3_copyFrom_57 ?_
        refine lv_iconst (v := 0) hx hb dX3_copyFrom_60 (by decide) ?_
        refine lv_aload_n hx hb dX3_copyFrom_61 rfl (lv_at hl 0 rfl) ?_
        refine gf_X3_3 hx hb hE hP hown h0 (hE.w qw_165 rfl _) dX3_copyFrom_62 ?_
        refine lv_iconst (v := 0) hx hb dX3_copyFrom_65 (by decide) ?_
        refine lv_iconst (v := 3) hx hb dX3_copyFrom_66 (by decide) ?_
        obtain ⟨y25, hw⟩ := hw
        refine cpy_2 hx hb (hml.trans hl.1.symm) hown hE qw_850 qw_510 qw_509 qw_96 hP hD hS (k0_4 h1) (k0_4 h0) (by decide) (by decide) (by decide) y25.1 y25.2 (Nat.le_of_ble_eq_true rfl) (Nat.le_of_ble_eq_true rfl) dX3_copyFrom_67 (fun G24 H locs eG24 hP hD hS => ?_)
        replace hw := hw G24 eG24
        refine lv_aload_n hx hb dX3_copyFrom_70 rfl (lv_at hl 0 rfl) ?_
        refine lv_aload_n hx hb dX3_copyFrom_71 rfl (lv_at hl 1 rfl) ?_
        refine gf_X3_4 hx hb hE hP hown h1 (hE.w qw_166 rfl _) dX3_copyFrom_72 ?_
        refine pf_X3_4 hx hb hE hP hD hS hown h0 (hE.w qw_166 rfl _) dX3_copyFrom_75 (fun G26 H locs eG26 hP hD hS => ?_)
        replace hw := hw G26 eG26
        refine lv_aload_n hx hb dX3_copyFrom_78 rfl (lv_at hl 0 rfl) ?_
        refine lv_aload_n hx hb dX3_copyFrom_79 rfl (lv_at hl 1 rfl) ?_
        refine gf_X3_5 hx hb hE hP hown h1 (hE.w qw_168 rfl _) dX3_copyFrom_80 ?_
        refine pf_X3_5 hx hb hE hP hD hS hown h0 (hE.w qw_168 rfl _) dX3_copyFrom_83 (fun G27 H locs eG27 hP hD hS => ?_)
        replace hw := hw G27 eG27
        refine lv_aload_n hx hb dX3_copyFrom_86 rfl (lv_at hl 0 rfl) ?_
        refine lv_aload_n hx hb dX3_copyFrom_87 rfl (lv_at hl 1 rfl) ?_
        refine gf_X3_6 hx hb hE hP hown h1 (hE.w qw_170 rfl _) dX3_copyFrom_88 ?_
        refine pf_X3_6 hx hb hE hP hD hS hown h0 (hE.w qw_170 rfl _) dX3_copyFrom_91 (fun G28 H locs eG28 hP hD hS => ?_)
        replace hw := hw G28 eG28
        refine lv_aload_n hx hb dX3_copyFrom_94 rfl (lv_at hl 0 rfl) ?_
        refine lv_aload_n hx hb dX3_copyFrom_95 rfl (lv_at hl 1 rfl) ?_
        refine gf_X3_7 hx hb hE hP hown h1 (hE.w qw_172 rfl _) dX3_copyFrom_96 ?_
        refine pf_X3_7 hx hb hE hP hD hS hown h0 (hE.w qw_172 rfl _) dX3_copyFrom_99 (fun G29 H locs eG29 hP hD hS => ?_)
        replace hw := hw G29 eG29
        refine lv_aload_n hx hb dX3_copyFrom_102 rfl (lv_at hl 0 rfl) ?_
        refine lv_aload_n hx hb dX3_copyFrom_103 rfl (lv_at hl 1 rfl) ?_
        refine gf_X3_8 hx hb hE hP hown h1 (hE.w qw_174 rfl _) dX3_copyFrom_104 ?_
        refine pf_X3_8 hx hb hE hP hD hS hown h0 (hE.w qw_174 rfl _) dX3_copyFrom_107 (fun G30 H locs eG30 hP hD hS => ?_)
        replace hw := hw G30 eG30
        refine lv_aload_n hx hb dX3_copyFrom_110 rfl (lv_at hl 0 rfl) ?_
        refine lv_aload_n hx hb dX3_copyFrom_111 rfl (lv_at hl 1 rfl) ?_
        refine gf_X3_9 hx hb hE hP hown h1 (hE.w qw_176 rfl _) dX3_copyFrom_112 ?_
        refine pf_X3_9 hx hb hE hP hD hS hown h0 (hE.w qw_176 rfl _) dX3_copyFrom_115 (fun G31 H locs eG31 hP hD hS => ?_)
        replace hw := hw G31 eG31
        refine lv_aload_n hx hb dX3_copyFrom_118 rfl (lv_at hl 0 rfl) ?_
        refine lv_aload_n hx hb dX3_copyFrom_119 rfl (lv_at hl 1 rfl) ?_
        refine gf_X3_10 hx hb hE hP hown h1 (hE.w qw_178 rfl _) dX3_copyFrom_120 ?_
        refine pf_X3_10 hx hb hE hP hD hS hown h0 (hE.w qw_178 rfl _) dX3_copyFrom_123 (fun G32 H locs eG32 hP hD hS => ?_)
        replace hw := hw G32 eG32
        exact end_v hx hb hr hlk hw hP hD hS dX3_copyFrom_126
      · replace hw := ite_f hw c19
        refine lv_aload_n hx hb dX3_copyFrom_7 rfl (lv_at hl 0 rfl) ?_
        refine gf_X3_0 hx hb hE hP hown h0 (hE.w qw_160 rfl _) dX3_copyFrom_8 ?_
        refine lv_iload_n hx hb dX3_copyFrom_11 rfl (lv_at hl 2 rfl) ?_
        obtain ⟨y33, hw⟩ := hw
        refine ald_1 hx hb hE hP (k0_1 h0) y33 dX3_copyFrom_12 ?_
        refine lv_aload_n hx hb dX3_copyFrom_13 rfl (lv_at hl 1 rfl) ?_
        refine gf_X3_0 hx hb hE hP hown h1 (hE.w qw_160 rfl _) dX3_copyFrom_14 ?_
        refine lv_iload_n hx hb dX3_copyFrom_17 rfl (lv_at hl 2 rfl) ?_
        obtain ⟨y34, hw⟩ := hw
        refine ald_1 hx hb hE hP (k0_1 h1) y34 dX3_copyFrom_18 ?_
        refine call_v (run_V (cc := cX3_copyFrom) (As := [.ref (xa X (q1 + 1 + 4 + v2.toNatClampNeg))]) (rest := []) hx hb hml hown hE hz (okX7_copyFrom X l hfl (k1_e (k0_1 h0) y33) (k1_e (k0_1 h1) y34) hw) qw_845 qw_846 qw_847 qw_76 qw_848 (myX7_copyFrom) ⟨Nat.le_of_ble_eq_true rfl, Nat.le_of_ble_eq_true rfl⟩ (rv_X7 hE hP (k1_e (k0_1 h0) y33)) hP hD hS rfl hl.1 rfl (Nat.le_of_ble_eq_true rfl) dX3_copyFrom_19 ⟨Nat.le_of_ble_eq_true rfl, Nat.le_of_ble_eq_true rfl⟩) hS (fun G35 H locs hw hP hD hS => ?_)
        obtain ⟨z36, ez36⟩ : ∃ y : Int32, y = v2 + 1 := ⟨_, rfl⟩
        replace hw := hw z36 ez36
        refine lv_iinc (v := z36) (lv' := [(2, .int z36), (0, .ref (xa X q0)), (1, .ref (xa X q1))]) hx hb dX3_copyFrom_22 hl (k := 2) rfl (by rw [ez36]; rfl) (by decide) rfl (fun ls hl => ?_)
        refine lv_goto (tgt := 2) hx hb dX3_copyFrom_25 (by decide) ?_
        exact ih2 G35 z36  _ _ _ hw hP hD hS (lv_sub hl [1, 2, 0] rfl)
  unfold wpX3_copyFrom at hw
  refine lv_iconst (v := 0) hx hb dX3_copyFrom_0 (by decide) ?_
  refine lv_istore_n (lv' := [(2, .int 0), (0, .ref (xa X q0)), (1, .ref (xa X q1))]) hx hb dX3_copyFrom_1 rfl hl (by decide) rfl (fun ls hl => ?_)
  obtain ⟨nn, hw⟩ := hw
  exact L2 nn G 0  _ _ _ hw hP hD hS (lv_sub hl [1, 2, 0] rfl)
def wpX3_hasVault (post : Int32 → GS → Prop) (q0 : Nat) (a1 : Int32) (G : GS) : Prop :=
  if a1 < 0 then
  post 0 G
else
  if (G.1 q0 4) ≤ a1 then
    post 0 G
  else
    if 5 ≤ a1 then
      post 0 G
    else
      post 1 G
set_option maxHeartbeats 4000000 in
set_option maxRecDepth 100000 in
theorem okX3_hasVault (X : Cx) (l : Launch) (hfl : l.stackTraces = false) {post : Int32 → GS → Prop} {q0 : Nat} {a1 : Int32} {G : GS} (h0 : kd q0 = 0) (hw : wpX3_hasVault post q0 a1 G) : CT X l yX3_hasVault cX3_hasVault 2 (some FieldType.boolean) 1 0 0 [.ref (xa X q0), .int a1] G (Qi X post) := by
  refine mbegin (by decide) (Nat.le_of_ble_eq_true rfl) (fun p e s m below meth c hx hb hr hml hlk hown hE hz ls hl hP hD hS => ?_)
  have hl : lv_has ls 2 [(0, .ref (xa X q0)), (1, .int a1)] := hl
  have hown : s.vm.findClass "FlyTreasury$Ledger" = some m.cls := hown
  unfold wpX3_hasVault at hw
  refine lv_iload_n hx hb dX3_hasVault_0 rfl (lv_at hl 1 rfl) ?_
  refine lv_if_lt (tgt := 21) hx hb dX3_hasVault_1 (by decide) (fun c1 => ?_) (fun c1 => ?_)
  · replace hw := ite_t hw c1
    refine lv_iconst (v := 0) hx hb dX3_hasVault_21 (by decide) ?_
    exact end_i hx hb hr hlk (by decide) hw hP hD hS dX3_hasVault_22
  · replace hw := ite_f hw c1
    refine lv_iload_n hx hb dX3_hasVault_4 rfl (lv_at hl 1 rfl) ?_
    refine lv_aload_n hx hb dX3_hasVault_5 rfl (lv_at hl 0 rfl) ?_
    refine gf_X3_4 hx hb hE hP hown h0 (hE.w qw_166 rfl _) dX3_hasVault_6 ?_
    refine lv_icmp_ge (tgt := 21) hx hb dX3_hasVault_9 (by decide) (fun c2 => ?_) (fun c2 => ?_)
    · replace hw := ite_t hw c2
      refine lv_iconst (v := 0) hx hb dX3_hasVault_21 (by decide) ?_
      exact end_i hx hb hr hlk (by decide) hw hP hD hS dX3_hasVault_22
    · replace hw := ite_f hw c2
      refine lv_iload_n hx hb dX3_hasVault_12 rfl (lv_at hl 1 rfl) ?_
      refine lv_iconst (v := 5) hx hb dX3_hasVault_13 (by decide) ?_
      refine lv_icmp_ge (tgt := 21) hx hb dX3_hasVault_14 (by decide) (fun c3 => ?_) (fun c3 => ?_)
      · replace hw := ite_t hw c3
        refine lv_iconst (v := 0) hx hb dX3_hasVault_21 (by decide) ?_
        exact end_i hx hb hr hlk (by decide) hw hP hD hS dX3_hasVault_22
      · replace hw := ite_f hw c3
        refine lv_iconst (v := 1) hx hb dX3_hasVault_17 (by decide) ?_
        refine lv_goto (tgt := 22) hx hb dX3_hasVault_18 (by decide) ?_
        exact end_i hx hb hr hlk (by decide) hw hP hD hS dX3_hasVault_22
def wpX3_within (post : Int32 → GS → Prop) (a1 : Int32) (a2 : Int32) (a3 : Int32) (G : GS) : Prop :=
  if a1 < a2 then
  post 0 G
else
  if a3 < a1 then
    post 0 G
  else
    post 1 G
set_option maxHeartbeats 4000000 in
set_option maxRecDepth 100000 in
theorem okX3_within (X : Cx) (l : Launch) (hfl : l.stackTraces = false) {post : Int32 → GS → Prop} {a1 : Int32} {a2 : Int32} {a3 : Int32} {G : GS}  (hw : wpX3_within post a1 a2 a3 G) : CT X l yX3_within cX3_within 3 (some FieldType.boolean) 1 0 0 [.int a1, .int a2, .int a3] G (Qi X post) := by
  refine mbegin (by decide) (Nat.le_of_ble_eq_true rfl) (fun p e s m below meth c hx hb hr hml hlk hown hE hz ls hl hP hD hS => ?_)
  have hl : lv_has ls 3 [(0, .int a1), (1, .int a2), (2, .int a3)] := hl
  have hown : s.vm.findClass "FlyTreasury$Ledger" = some m.cls := hown
  unfold wpX3_within at hw
  refine lv_iload_n hx hb dX3_within_0 rfl (lv_at hl 0 rfl) ?_
  refine lv_iload_n hx hb dX3_within_1 rfl (lv_at hl 1 rfl) ?_
  refine lv_icmp_lt (tgt := 14) hx hb dX3_within_2 (by decide) (fun c1 => ?_) (fun c1 => ?_)
  · replace hw := ite_t hw c1
    refine lv_iconst (v := 0) hx hb dX3_within_14 (by decide) ?_
    exact end_i hx hb hr hlk (by decide) hw hP hD hS dX3_within_15
  · replace hw := ite_f hw c1
    refine lv_iload_n hx hb dX3_within_5 rfl (lv_at hl 0 rfl) ?_
    refine lv_iload_n hx hb dX3_within_6 rfl (lv_at hl 2 rfl) ?_
    refine lv_icmp_gt (tgt := 14) hx hb dX3_within_7 (by decide) (fun c2 => ?_) (fun c2 => ?_)
    · replace hw := ite_t hw c2
      refine lv_iconst (v := 0) hx hb dX3_within_14 (by decide) ?_
      exact end_i hx hb hr hlk (by decide) hw hP hD hS dX3_within_15
    · replace hw := ite_f hw c2
      refine lv_iconst (v := 1) hx hb dX3_within_10 (by decide) ?_
      refine lv_goto (tgt := 15) hx hb dX3_within_11 (by decide) ?_
      exact end_i hx hb hr hlk (by decide) hw hP hD hS dX3_within_15
def wpX3_refusalToOpen (post : Nat → GS → Prop) (q0 : Nat) (a1 : Int32) (G : GS) : Prop :=
  wpX3_within (fun (r2 : Int32) (G1 : GS) =>
  if r2 = 0 then
    post 2 G1
  else
    if (G1.1 q0 4) < 5 then
      post 0 G1
    else
      post 3 G1) a1 0 9 G
set_option maxHeartbeats 4000000 in
set_option maxRecDepth 100000 in
theorem okX3_refusalToOpen (X : Cx) (l : Launch) (hfl : l.stackTraces = false) {post : Nat → GS → Prop} {q0 : Nat} {a1 : Int32} {G : GS} (h0 : kd q0 = 0) (hw : wpX3_refusalToOpen post q0 a1 G) : CT X l yX3_refusalToOpen cX3_refusalToOpen 2 (some (FieldType.object "FlyTreasury$Refusal")) 2 0 0 [.ref (xa X q0), .int a1] G (Qr X (xk X 0) post) := by
  refine mbegin (by decide) (Nat.le_of_ble_eq_true rfl) (fun p e s m below meth c hx hb hr hml hlk hown hE hz ls hl hP hD hS => ?_)
  have hl : lv_has ls 2 [(0, .ref (xa X q0)), (1, .int a1)] := hl
  have hown : s.vm.findClass "FlyTreasury$Ledger" = some m.cls := hown
  unfold wpX3_refusalToOpen at hw
  refine lv_iload_n hx hb dX3_refusalToOpen_0 rfl (lv_at hl 1 rfl) ?_
  refine lv_iconst (v := 0) hx hb dX3_refusalToOpen_1 (by decide) ?_
  refine lv_bipush (v := 9) hx hb dX3_refusalToOpen_2 (by decide) ?_
  refine call_i (run_S (cc := cX3_refusalToOpen) (As := [.int a1, .int 0, .int 9]) (rest := []) hx hb hml hown hE hz (okX3_within X l hfl  hw) qw_864 qw_865 qw_75 qw_866 (myX3_within).2 ⟨Nat.le_of_ble_eq_true rfl, Nat.le_of_ble_eq_true rfl⟩ hP hD hS rfl hl.1 rfl (Nat.le_of_ble_eq_true rfl) dX3_refusalToOpen_4 ⟨Nat.le_of_ble_eq_true rfl, Nat.le_of_ble_eq_true rfl⟩) hS (fun r2 G1 H locs hw hP hD hS => ?_)
  refine lv_if_ne (tgt := 14) hx hb dX3_refusalToOpen_7 (by decide) (fun c3 => ?_) (fun c3 => ?_)
  · replace hw := ite_f hw c3
    refine lv_aload_n hx hb dX3_refusalToOpen_14 rfl (lv_at hl 0 rfl) ?_
    refine gf_X3_4 hx hb hE hP hown h0 (hE.w qw_166 rfl _) dX3_refusalToOpen_15 ?_
    refine lv_iconst (v := 5) hx hb dX3_refusalToOpen_18 (by decide) ?_
    refine lv_icmp_lt (tgt := 28) hx hb dX3_refusalToOpen_19 (by decide) (fun c4 => ?_) (fun c4 => ?_)
    · replace hw := ite_t hw c4
      refine va_gets hx hb (en_Z0 hE (i := 0) (by decide)) hS hown (hE.w qw_871 rfl _) (fun _ h9 => h9) dX3_refusalToOpen_28 ?_
      exact end_r hx hb hr hlk (Or.inl ⟨_, rfl⟩) hw hP hD hS dX3_refusalToOpen_31
    · replace hw := ite_f hw c4
      refine va_gets hx hb (en_Z0 hE (i := 3) (by decide)) hS hown (hE.w qw_869 rfl _) (fun _ h9 => h9) dX3_refusalToOpen_22 ?_
      refine lv_goto (tgt := 31) hx hb dX3_refusalToOpen_25 (by decide) ?_
      exact end_r hx hb hr hlk (Or.inl ⟨_, rfl⟩) hw hP hD hS dX3_refusalToOpen_31
  · replace hw := ite_t hw c3
    refine va_gets hx hb (en_Z0 hE (i := 2) (by decide)) hS hown (hE.w qw_867 rfl _) (fun _ h9 => h9) dX3_refusalToOpen_10 ?_
    exact end_r hx hb hr hlk (Or.inl ⟨_, rfl⟩) hw hP hD hS dX3_refusalToOpen_13
def wpX3_open (post : Int32 → GS → Prop) (q0 : Nat) (a1 : Int32) (G : GS) : Prop :=
  ∀ z1 : Int32, z1 = (G.1 q0 4) →
  vp_in z1 5 ∧
  ∀ G3 : GS, G3 = gI G (q0 + 1 + 4 + z1.toNatClampNeg) 4 a1 →
  ∀ G4 : GS, G4 = gI G3 q0 4 ((G3.1 q0 4) + 1) →
  post z1 G4
set_option maxHeartbeats 4000000 in
set_option maxRecDepth 100000 in
theorem okX3_open (X : Cx) (l : Launch) (hfl : l.stackTraces = false) {post : Int32 → GS → Prop} {q0 : Nat} {a1 : Int32} {G : GS} (h0 : kd q0 = 0) (hw : wpX3_open post q0 a1 G) : CT X l yX3_open cX3_open 3 (some FieldType.int) 1 0 0 [.ref (xa X q0), .int a1] G (Qi X post) := by
  refine mbegin (by decide) (Nat.le_of_ble_eq_true rfl) (fun p e s m below meth c hx hb hr hml hlk hown hE hz ls hl hP hD hS => ?_)
  have hl : lv_has ls 3 [(0, .ref (xa X q0)), (1, .int a1)] := hl
  have hown : s.vm.findClass "FlyTreasury$Ledger" = some m.cls := hown
  unfold wpX3_open at hw
  refine lv_aload_n hx hb dX3_open_0 rfl (lv_at hl 0 rfl) ?_
  refine gf_X3_4 hx hb hE hP hown h0 (hE.w qw_166 rfl _) dX3_open_1 ?_
  refine lv_topi (fun z1 ez1 => ?_)
  replace hw := hw z1 ez1
  refine lv_istore_n (lv' := [(2, .int z1), (0, .ref (xa X q0)), (1, .int a1)]) hx hb dX3_open_4 rfl hl (by decide) rfl (fun ls hl => ?_)
  refine lv_aload_n hx hb dX3_open_5 rfl (lv_at hl 1 rfl) ?_
  refine gf_X3_0 hx hb hE hP hown h0 (hE.w qw_160 rfl _) dX3_open_6 ?_
  refine lv_iload_n hx hb dX3_open_9 rfl (lv_at hl 0 rfl) ?_
  obtain ⟨y2, hw⟩ := hw
  refine ald_1 hx hb hE hP (k0_1 h0) y2 dX3_open_10 ?_
  refine lv_iload_n hx hb dX3_open_11 rfl (lv_at hl 2 rfl) ?_
  refine pn_X7_4 hx hb hE hP hD hS hown (k1_e (k0_1 h0) y2) (hE.w qw_142 rfl _) dX3_open_12 (fun G3 H locs eG3 hP hD hS => ?_)
  replace hw := hw G3 eG3
  refine lv_aload_n hx hb dX3_open_15 rfl (lv_at hl 1 rfl) ?_
  refine lv_dup hx hb dX3_open_16 rfl ?_
  refine gf_X3_4 hx hb hE hP hown h0 (hE.w qw_166 rfl _) dX3_open_17 ?_
  refine lv_iconst (v := 1) hx hb dX3_open_20 (by decide) ?_
  refine lv_iadd hx hb dX3_open_21 ?_
  refine pf_X3_4 hx hb hE hP hD hS hown h0 (hE.w qw_166 rfl _) dX3_open_22 (fun G4 H locs eG4 hP hD hS => ?_)
  replace hw := hw G4 eG4
  refine lv_iload_n hx hb dX3_open_25 rfl (lv_at hl 0 rfl) ?_
  exact end_i hx hb hr hlk rfl hw hP hD hS dX3_open_26
def wbX3_refusalToPut_35 (post : Nat → GS → Prop) (q0 : Nat) (a1 : Int32) (a2 : Int32) (a3 : Int32) (G : GS) : Prop :=
  post 2 G
def wpX3_refusalToPut (post : Nat → GS → Prop) (q0 : Nat) (a1 : Int32) (a2 : Int32) (a3 : Int32) (G : GS) : Prop :=
  wpX3_hasVault (fun (r2 : Int32) (G1 : GS) =>
  if r2 = 0 then
    post 1 G1
  else
    wpJ0_indexOf_0f7a4 (fun (r5 : Int32) (G4 : GS) =>
      if r5 < 0 then
        wbX3_refusalToPut_35 post q0 a1 a2 a3 G4
      else
        wpX3_within (fun (r8 : Int32) (G7 : GS) =>
          if r8 = 0 then
            wbX3_refusalToPut_35 post q0 a1 a2 a3 G7
          else
            vp_in a1 5 ∧
              vp_in r5 (ln (q0 + 1 + 4 + a1.toNatClampNeg + 5)) ∧
              if ((G7.1 (q0 + 1 + 4 + a1.toNatClampNeg + 5) r5.toNatClampNeg) + a3) ≤ 99 then
              post 0 G7
            else
              post 3 G7) a3 1 30 G4) 0 a2 G1) q0 a1 G
set_option maxHeartbeats 4000000 in
set_option maxRecDepth 100000 in
theorem okX3_refusalToPut (X : Cx) (l : Launch) (hfl : l.stackTraces = false) {post : Nat → GS → Prop} {q0 : Nat} {a1 : Int32} {a2 : Int32} {a3 : Int32} {G : GS} (h0 : kd q0 = 0) (hw : wpX3_refusalToPut post q0 a1 a2 a3 G) : CT X l yX3_refusalToPut cX3_refusalToPut 5 (some (FieldType.object "FlyTreasury$Refusal")) 5 0 0 [.ref (xa X q0), .int a1, .int a2, .int a3] G (Qr X (xk X 0) post) := by
  refine mbegin (by decide) (Nat.le_of_ble_eq_true rfl) (fun p e s m below meth c hx hb hr hml hlk hown hE hz ls hl hP hD hS => ?_)
  have hl : lv_has ls 5 [(0, .ref (xa X q0)), (1, .int a1), (2, .int a2), (3, .int a3)] := hl
  have hown : s.vm.findClass "FlyTreasury$Ledger" = some m.cls := hown
  have B35 : ∀ (G : GS) (H : Heap) (locs : List Loc) (ls : Array Slot), wbX3_refusalToPut_35 post q0 a1 a2 a3 G  → va_P (xD X) vwCl (pool X G) H → va_D (xA X) (pool X G) → va_S (xA X) s.heap H locs → lv_has ls 5 [] → W p l e (rmL 5 0 0) s m [.ref (xa X q0), .int a1, .int a2, .int a3].toArray below meth c H locs 0 0 (MQ below (Qr X (xk X 0) post) [.ref (xa X q0), .int a1, .int a2, .int a3].toArray s 0 0 (xA X)) (F0 m 35 ls []) := by
    intro G   H locs ls hw hP hD hS hl
    unfold wbX3_refusalToPut_35 at hw
    refine va_gets hx hb (en_Z0 hE (i := 2) (by decide)) hS hown (hE.w qw_867 rfl _) (fun _ h9 => h9) dX3_refusalToPut_35 ?_
    exact end_r hx hb hr hlk (Or.inl ⟨_, rfl⟩) hw hP hD hS dX3_refusalToPut_38
  unfold wpX3_refusalToPut at hw
  refine lv_aload_n hx hb dX3_refusalToPut_0 rfl (lv_at hl 0 rfl) ?_
  refine lv_iload_n hx hb dX3_refusalToPut_1 rfl (lv_at hl 1 rfl) ?_
  refine call_i (run_V (cc := cX3_refusalToPut) (As := [.int a1]) (rest := []) hx hb hml hown hE hz (okX3_hasVault X l hfl h0 hw) qw_956 qw_957 qw_958 qw_75 qw_959 (myX3_hasVault) ⟨Nat.le_of_ble_eq_true rfl, Nat.le_of_ble_eq_true rfl⟩ (rv_X3 hE hP h0) hP hD hS rfl hl.1 rfl (Nat.le_of_ble_eq_true rfl) dX3_refusalToPut_2 ⟨Nat.le_of_ble_eq_true rfl, Nat.le_of_ble_eq_true rfl⟩) hS (fun r2 G1 H locs hw hP hD hS => ?_)
  refine lv_if_ne (tgt := 12) hx hb dX3_refusalToPut_5 (by decide) (fun c3 => ?_) (fun c3 => ?_)
  · replace hw := ite_f hw c3
    refine va_ldcS hx hb hown (sr_5 hE) dX3_refusalToPut_12 ?_
    refine lv_iload_n hx hb dX3_refusalToPut_14 rfl (lv_at hl 2 rfl) ?_
    refine call_i (run_V (cc := cX3_refusalToPut) (As := [.int a2]) (rest := []) hx hb hml hown hE hz (okJ0_indexOf_0f7a4 X l hfl (by decide) hw) qw_963 qw_964 qw_965 qw_84 qw_966 (myJ0_indexOf_0f7a4) ⟨Nat.le_of_ble_eq_true rfl, Nat.le_of_ble_eq_true rfl⟩ (vk_recv hE.S (by decide) hS) hP hD hS rfl hl.1 rfl (Nat.le_of_ble_eq_true rfl) dX3_refusalToPut_15 ⟨Nat.le_of_ble_eq_true rfl, Nat.le_of_ble_eq_true rfl⟩) hS (fun r5 G4 H locs hw hP hD hS => ?_)
    refine lv_istore (lv' := [(4, .int r5), (0, .ref (xa X q0)), (1, .int a1), (2, .int a2), (3, .int a3)]) hx hb dX3_refusalToPut_18 hl (by decide) rfl (fun ls hl => ?_)
    refine lv_iload hx hb dX3_refusalToPut_20 (lv_at hl 0 rfl) ?_
    refine lv_if_lt (tgt := 35) hx hb dX3_refusalToPut_22 (by decide) (fun c6 => ?_) (fun c6 => ?_)
    · replace hw := ite_t hw c6
      exact B35 G4   _ _ _ hw hP hD hS (lv_sub hl [] rfl)
    · replace hw := ite_f hw c6
      refine lv_iload_n hx hb dX3_refusalToPut_25 rfl (lv_at hl 4 rfl) ?_
      refine lv_iconst (v := 1) hx hb dX3_refusalToPut_26 (by decide) ?_
      refine lv_bipush (v := 30) hx hb dX3_refusalToPut_27 (by decide) ?_
      refine call_i (run_S (cc := cX3_refusalToPut) (As := [.int a3, .int 1, .int 30]) (rest := []) hx hb hml hown hE hz (okX3_within X l hfl  hw) qw_864 qw_865 qw_75 qw_866 (myX3_within).2 ⟨Nat.le_of_ble_eq_true rfl, Nat.le_of_ble_eq_true rfl⟩ hP hD hS rfl hl.1 rfl (Nat.le_of_ble_eq_true rfl) dX3_refusalToPut_29 ⟨Nat.le_of_ble_eq_true rfl, Nat.le_of_ble_eq_true rfl⟩) hS (fun r8 G7 H locs hw hP hD hS => ?_)
      refine lv_if_ne (tgt := 39) hx hb dX3_refusalToPut_32 (by decide) (fun c9 => ?_) (fun c9 => ?_)
      · replace hw := ite_f hw c9
        refine lv_aload_n hx hb dX3_refusalToPut_39 rfl (lv_at hl 1 rfl) ?_
        refine gf_X3_0 hx hb hE hP hown h0 (hE.w qw_160 rfl _) dX3_refusalToPut_40 ?_
        refine lv_iload_n hx hb dX3_refusalToPut_43 rfl (lv_at hl 2 rfl) ?_
        obtain ⟨y10, hw⟩ := hw
        refine ald_1 hx hb hE hP (k0_1 h0) y10 dX3_refusalToPut_44 ?_
        refine gn_X7_0 hx hb hE hP hown (k1_e (k0_1 h0) y10) (hE.w qw_131 rfl _) dX3_refusalToPut_45 ?_
        refine lv_iload hx hb dX3_refusalToPut_48 (lv_at hl 0 rfl) ?_
        obtain ⟨y11, hw⟩ := hw
        refine ald_2 hx hb hE hP (k3_5 (k1_e (k0_1 h0) y10)) y11 dX3_refusalToPut_50 ?_
        refine lv_iload_n hx hb dX3_refusalToPut_51 rfl (lv_at hl 4 rfl) ?_
        refine lv_iadd hx hb dX3_refusalToPut_52 ?_
        refine lv_bipush (v := 99) hx hb dX3_refusalToPut_53 (by decide) ?_
        refine lv_icmp_le (tgt := 64) hx hb dX3_refusalToPut_55 (by decide) (fun c12 => ?_) (fun c12 => ?_)
        · replace hw := ite_t hw c12
          refine va_gets hx hb (en_Z0 hE (i := 0) (by decide)) hS hown (hE.w qw_871 rfl _) (fun _ h9 => h9) dX3_refusalToPut_64 ?_
          exact end_r hx hb hr hlk (Or.inl ⟨_, rfl⟩) hw hP hD hS dX3_refusalToPut_67
        · replace hw := ite_f hw c12
          refine va_gets hx hb (en_Z0 hE (i := 3) (by decide)) hS hown (hE.w qw_869 rfl _) (fun _ h9 => h9) dX3_refusalToPut_58 ?_
          refine lv_goto (tgt := 67) hx hb dX3_refusalToPut_61 (by decide) ?_
          exact end_r hx hb hr hlk (Or.inl ⟨_, rfl⟩) hw hP hD hS dX3_refusalToPut_67
      · replace hw := ite_t hw c9
        exact B35 G7   _ _ _ hw hP hD hS (lv_sub hl [] rfl)
  · replace hw := ite_t hw c3
    refine va_gets hx hb (en_Z0 hE (i := 1) (by decide)) hS hown (hE.w qw_960 rfl _) (fun _ h9 => h9) dX3_refusalToPut_8 ?_
    exact end_r hx hb hr hlk (Or.inl ⟨_, rfl⟩) hw hP hD hS dX3_refusalToPut_11
def wpX3_put (post : Int32 → GS → Prop) (q0 : Nat) (a1 : Int32) (a2 : Int32) (a3 : Int32) (G : GS) : Prop :=
  wpJ0_indexOf_0f7a4 (fun (r2 : Int32) (G1 : GS) =>
  vp_in a1 5 ∧
    vp_in r2 (ln (q0 + 1 + 4 + a1.toNatClampNeg + 5)) ∧
    vp_in r2 (ln (q0 + 1 + 4 + a1.toNatClampNeg + 5)) ∧ ∀ G6 : GS, G6 = gI G1 (q0 + 1 + 4 + a1.toNatClampNeg + 5) r2.toNatClampNeg ((G1.1 (q0 + 1 + 4 + a1.toNatClampNeg + 5) r2.toNatClampNeg) + a3) →
    vp_in r2 (ln (q0 + 3)) ∧
    vp_in r2 (ln (q0 + 3)) ∧ ∀ G9 : GS, G9 = gI G6 (q0 + 3) r2.toNatClampNeg ((G6.1 (q0 + 3) r2.toNatClampNeg) + a3) →
    vp_in a1 5 ∧
    vp_in r2 (ln (q0 + 1 + 4 + a1.toNatClampNeg + 5)) ∧
    post (G9.1 (q0 + 1 + 4 + a1.toNatClampNeg + 5) r2.toNatClampNeg) G9) 0 a2 G
set_option maxHeartbeats 4000000 in
set_option maxRecDepth 100000 in
theorem okX3_put (X : Cx) (l : Launch) (hfl : l.stackTraces = false) {post : Int32 → GS → Prop} {q0 : Nat} {a1 : Int32} {a2 : Int32} {a3 : Int32} {G : GS} (h0 : kd q0 = 0) (hw : wpX3_put post q0 a1 a2 a3 G) : CT X l yX3_put cX3_put 5 (some FieldType.int) 5 0 0 [.ref (xa X q0), .int a1, .int a2, .int a3] G (Qi X post) := by
  refine mbegin (by decide) (Nat.le_of_ble_eq_true rfl) (fun p e s m below meth c hx hb hr hml hlk hown hE hz ls hl hP hD hS => ?_)
  have hl : lv_has ls 5 [(0, .ref (xa X q0)), (1, .int a1), (2, .int a2), (3, .int a3)] := hl
  have hown : s.vm.findClass "FlyTreasury$Ledger" = some m.cls := hown
  unfold wpX3_put at hw
  refine va_ldcS hx hb hown (sr_5 hE) dX3_put_0 ?_
  refine lv_iload_n hx hb dX3_put_2 rfl (lv_at hl 2 rfl) ?_
  refine call_i (run_V (cc := cX3_put) (As := [.int a2]) (rest := []) hx hb hml hown hE hz (okJ0_indexOf_0f7a4 X l hfl (by decide) hw) qw_963 qw_964 qw_965 qw_84 qw_966 (myJ0_indexOf_0f7a4) ⟨Nat.le_of_ble_eq_true rfl, Nat.le_of_ble_eq_true rfl⟩ (vk_recv hE.S (by decide) hS) hP hD hS rfl hl.1 rfl (Nat.le_of_ble_eq_true rfl) dX3_put_3 ⟨Nat.le_of_ble_eq_true rfl, Nat.le_of_ble_eq_true rfl⟩) hS (fun r2 G1 H locs hw hP hD hS => ?_)
  refine lv_istore (lv' := [(4, .int r2), (0, .ref (xa X q0)), (1, .int a1), (2, .int a2), (3, .int a3)]) hx hb dX3_put_6 hl (by decide) rfl (fun ls hl => ?_)
  refine lv_aload_n hx hb dX3_put_8 rfl (lv_at hl 1 rfl) ?_
  refine gf_X3_0 hx hb hE hP hown h0 (hE.w qw_160 rfl _) dX3_put_9 ?_
  refine lv_iload_n hx hb dX3_put_12 rfl (lv_at hl 2 rfl) ?_
  obtain ⟨y3, hw⟩ := hw
  refine ald_1 hx hb hE hP (k0_1 h0) y3 dX3_put_13 ?_
  refine gn_X7_0 hx hb hE hP hown (k1_e (k0_1 h0) y3) (hE.w qw_131 rfl _) dX3_put_14 ?_
  refine lv_iload hx hb dX3_put_17 (lv_at hl 0 rfl) ?_
  refine lv_dup2_11 hx hb dX3_put_19 rfl rfl ?_
  obtain ⟨y4, hw⟩ := hw
  refine ald_2 hx hb hE hP (k3_5 (k1_e (k0_1 h0) y3)) y4 dX3_put_20 ?_
  refine lv_iload_n hx hb dX3_put_21 rfl (lv_at hl 4 rfl) ?_
  refine lv_iadd hx hb dX3_put_22 ?_
  obtain ⟨y5, hw⟩ := hw
  refine ast_2 hx hb hE hP hD hS (k3_5 (k1_e (k0_1 h0) y3)) y5 dX3_put_23 (fun G6 H locs eG6 hP hD hS => ?_)
  replace hw := hw G6 eG6
  refine lv_aload_n hx hb dX3_put_24 rfl (lv_at hl 1 rfl) ?_
  refine gf_X3_2 hx hb hE hP hown h0 (hE.w qw_164 rfl _) dX3_put_25 ?_
  refine lv_iload hx hb dX3_put_28 (lv_at hl 0 rfl) ?_
  refine lv_dup2_11 hx hb dX3_put_30 rfl rfl ?_
  obtain ⟨y7, hw⟩ := hw
  refine ald_2 hx hb hE hP (k0_3 h0) y7 dX3_put_31 ?_
  refine lv_iload_n hx hb dX3_put_32 rfl (lv_at hl 4 rfl) ?_
  refine lv_iadd hx hb dX3_put_33 ?_
  obtain ⟨y8, hw⟩ := hw
  refine ast_2 hx hb hE hP hD hS (k0_3 h0) y8 dX3_put_34 (fun G9 H locs eG9 hP hD hS => ?_)
  replace hw := hw G9 eG9
  refine lv_aload_n hx hb dX3_put_35 rfl (lv_at hl 1 rfl) ?_
  refine gf_X3_0 hx hb hE hP hown h0 (hE.w qw_160 rfl _) dX3_put_36 ?_
  refine lv_iload_n hx hb dX3_put_39 rfl (lv_at hl 2 rfl) ?_
  obtain ⟨y10, hw⟩ := hw
  refine ald_1 hx hb hE hP (k0_1 h0) y10 dX3_put_40 ?_
  refine gn_X7_0 hx hb hE hP hown (k1_e (k0_1 h0) y10) (hE.w qw_131 rfl _) dX3_put_41 ?_
  refine lv_iload hx hb dX3_put_44 (lv_at hl 0 rfl) ?_
  obtain ⟨y11, hw⟩ := hw
  refine ald_2 hx hb hE hP (k3_5 (k1_e (k0_1 h0) y10)) y11 dX3_put_46 ?_
  exact end_i hx hb hr hlk rfl hw hP hD hS dX3_put_47
def wbX3_refusalToTake_35 (post : Nat → GS → Prop) (q0 : Nat) (a1 : Int32) (a2 : Int32) (a3 : Int32) (G : GS) : Prop :=
  post 2 G
def wbX3_refusalToTake_112 (post : Nat → GS → Prop) (q0 : Nat) (a1 : Int32) (a2 : Int32) (a3 : Int32) (G : GS) (t0 : Int32) : Prop :=
  if t0 = 0 then
  post 4 G
else
  post 0 G
def wbX3_refusalToTake_111 (post : Nat → GS → Prop) (q0 : Nat) (a1 : Int32) (a2 : Int32) (a3 : Int32) (G : GS) : Prop :=
  wbX3_refusalToTake_112 post q0 a1 a2 a3 G 0
def wpX3_refusalToTake (post : Nat → GS → Prop) (q0 : Nat) (a1 : Int32) (a2 : Int32) (a3 : Int32) (G : GS) : Prop :=
  wpX3_hasVault (fun (r2 : Int32) (G1 : GS) =>
  if r2 = 0 then
    post 1 G1
  else
    wpJ0_indexOf_0f7a4 (fun (r5 : Int32) (G4 : GS) =>
      if r5 < 0 then
        wbX3_refusalToTake_35 post q0 a1 a2 a3 G4
      else
        wpX3_within (fun (r8 : Int32) (G7 : GS) =>
          if r8 = 0 then
            wbX3_refusalToTake_35 post q0 a1 a2 a3 G7
          else
            vp_in a1 5 ∧
              wpX7_frozen (fun (r12 : Int32) (G11 : GS) =>
              if r12 = 0 then
                wpX7_legsAt (fun (r15 : Int32) (G14 : GS) =>
                  vp_in r5 (ln (q0 + 2)) ∧
                    ∀ z17 : Int32, z17 = (r15 - (a3 * (G14.1 (q0 + 2) r5.toNatClampNeg))) →
                    vp_in r5 (ln (q0 + 1 + 4 + a1.toNatClampNeg + 5)) ∧
                    if (G14.1 (q0 + 1 + 4 + a1.toNatClampNeg + 5) r5.toNatClampNeg) < a3 then
                    wbX3_refusalToTake_111 post q0 a1 a2 a3 G14
                  else
                    wpX7_backingOf (fun (r23 : Int32) (G22 : GS) =>
                      if r23 < (G14.1 (q0 + 1 + 4 + a1.toNatClampNeg) 2) then
                        wbX3_refusalToTake_111 post q0 a1 a2 a3 G22
                      else
                        wbX3_refusalToTake_112 post q0 a1 a2 a3 G22 1) (q0 + 1 + 4 + a1.toNatClampNeg) z17 G14) (q0 + 1 + 4 + a1.toNatClampNeg) (q0 + 2) G11
              else
                post 3 G11) (q0 + 1 + 4 + a1.toNatClampNeg) G7) a3 1 30 G4) 0 a2 G1) q0 a1 G
set_option maxHeartbeats 4000000 in
set_option maxRecDepth 100000 in
theorem okX3_refusalToTake (X : Cx) (l : Launch) (hfl : l.stackTraces = false) {post : Nat → GS → Prop} {q0 : Nat} {a1 : Int32} {a2 : Int32} {a3 : Int32} {G : GS} (h0 : kd q0 = 0) (hw : wpX3_refusalToTake post q0 a1 a2 a3 G) : CT X l yX3_refusalToTake cX3_refusalToTake 8 (some (FieldType.object "FlyTreasury$Refusal")) 5 0 0 [.ref (xa X q0), .int a1, .int a2, .int a3] G (Qr X (xk X 0) post) := by
  refine mbegin (by decide) (Nat.le_of_ble_eq_true rfl) (fun p e s m below meth c hx hb hr hml hlk hown hE hz ls hl hP hD hS => ?_)
  have hl : lv_has ls 8 [(0, .ref (xa X q0)), (1, .int a1), (2, .int a2), (3, .int a3)] := hl
  have hown : s.vm.findClass "FlyTreasury$Ledger" = some m.cls := hown
  have B35 : ∀ (G : GS) (H : Heap) (locs : List Loc) (ls : Array Slot), wbX3_refusalToTake_35 post q0 a1 a2 a3 G  → va_P (xD X) vwCl (pool X G) H → va_D (xA X) (pool X G) → va_S (xA X) s.heap H locs → lv_has ls 8 [] → W p l e (rmL 5 0 0) s m [.ref (xa X q0), .int a1, .int a2, .int a3].toArray below meth c H locs 0 0 (MQ below (Qr X (xk X 0) post) [.ref (xa X q0), .int a1, .int a2, .int a3].toArray s 0 0 (xA X)) (F0 m 35 ls []) := by
    intro G   H locs ls hw hP hD hS hl
    unfold wbX3_refusalToTake_35 at hw
    refine va_gets hx hb (en_Z0 hE (i := 2) (by decide)) hS hown (hE.w qw_867 rfl _) (fun _ h9 => h9) dX3_refusalToTake_35 ?_
    exact end_r hx hb hr hlk (Or.inl ⟨_, rfl⟩) hw hP hD hS dX3_refusalToTake_38
  have B112 : ∀ (G : GS) (t0 : Int32) (H : Heap) (locs : List Loc) (ls : Array Slot), wbX3_refusalToTake_112 post q0 a1 a2 a3 G t0 → va_P (xD X) vwCl (pool X G) H → va_D (xA X) (pool X G) → va_S (xA X) s.heap H locs → lv_has ls 8 [] → W p l e (rmL 5 0 0) s m [.ref (xa X q0), .int a1, .int a2, .int a3].toArray below meth c H locs 0 0 (MQ below (Qr X (xk X 0) post) [.ref (xa X q0), .int a1, .int a2, .int a3].toArray s 0 0 (xA X)) (F0 m 112 ls [.int t0]) := by
    intro G t0  H locs ls hw hP hD hS hl
    unfold wbX3_refusalToTake_112 at hw
    refine lv_istore (lv' := [(7, .int t0)]) hx hb dX3_refusalToTake_112 hl (by decide) rfl (fun ls hl => ?_)
    refine lv_iload hx hb dX3_refusalToTake_114 (lv_at hl 0 rfl) ?_
    refine lv_if_eq (tgt := 125) hx hb dX3_refusalToTake_116 (by decide) (fun c21 => ?_) (fun c21 => ?_)
    · replace hw := ite_t hw c21
      refine va_gets hx hb (en_Z0 hE (i := 4) (by decide)) hS hown (hE.w qw_1030 rfl _) (fun _ h9 => h9) dX3_refusalToTake_125 ?_
      exact end_r hx hb hr hlk (Or.inl ⟨_, rfl⟩) hw hP hD hS dX3_refusalToTake_128
    · replace hw := ite_f hw c21
      refine va_gets hx hb (en_Z0 hE (i := 0) (by decide)) hS hown (hE.w qw_871 rfl _) (fun _ h9 => h9) dX3_refusalToTake_119 ?_
      refine lv_goto (tgt := 128) hx hb dX3_refusalToTake_122 (by decide) ?_
      exact end_r hx hb hr hlk (Or.inl ⟨_, rfl⟩) hw hP hD hS dX3_refusalToTake_128
  have B111 : ∀ (G : GS) (H : Heap) (locs : List Loc) (ls : Array Slot), wbX3_refusalToTake_111 post q0 a1 a2 a3 G  → va_P (xD X) vwCl (pool X G) H → va_D (xA X) (pool X G) → va_S (xA X) s.heap H locs → lv_has ls 8 [] → W p l e (rmL 5 0 0) s m [.ref (xa X q0), .int a1, .int a2, .int a3].toArray below meth c H locs 0 0 (MQ below (Qr X (xk X 0) post) [.ref (xa X q0), .int a1, .int a2, .int a3].toArray s 0 0 (xA X)) (F0 m 111 ls []) := by
    intro G   H locs ls hw hP hD hS hl
    unfold wbX3_refusalToTake_111 at hw
    refine lv_iconst (v := 0) hx hb dX3_refusalToTake_111 (by decide) ?_
    exact B112 G 0  _ _ _ hw hP hD hS (lv_sub hl [] rfl)
  unfold wpX3_refusalToTake at hw
  refine lv_aload_n hx hb dX3_refusalToTake_0 rfl (lv_at hl 0 rfl) ?_
  refine lv_iload_n hx hb dX3_refusalToTake_1 rfl (lv_at hl 1 rfl) ?_
  refine call_i (run_V (cc := cX3_refusalToTake) (As := [.int a1]) (rest := []) hx hb hml hown hE hz (okX3_hasVault X l hfl h0 hw) qw_956 qw_957 qw_958 qw_75 qw_959 (myX3_hasVault) ⟨Nat.le_of_ble_eq_true rfl, Nat.le_of_ble_eq_true rfl⟩ (rv_X3 hE hP h0) hP hD hS rfl hl.1 rfl (Nat.le_of_ble_eq_true rfl) dX3_refusalToTake_2 ⟨Nat.le_of_ble_eq_true rfl, Nat.le_of_ble_eq_true rfl⟩) hS (fun r2 G1 H locs hw hP hD hS => ?_)
  refine lv_if_ne (tgt := 12) hx hb dX3_refusalToTake_5 (by decide) (fun c3 => ?_) (fun c3 => ?_)
  · replace hw := ite_f hw c3
    refine va_ldcS hx hb hown (sr_5 hE) dX3_refusalToTake_12 ?_
    refine lv_iload_n hx hb dX3_refusalToTake_14 rfl (lv_at hl 2 rfl) ?_
    refine call_i (run_V (cc := cX3_refusalToTake) (As := [.int a2]) (rest := []) hx hb hml hown hE hz (okJ0_indexOf_0f7a4 X l hfl (by decide) hw) qw_963 qw_964 qw_965 qw_84 qw_966 (myJ0_indexOf_0f7a4) ⟨Nat.le_of_ble_eq_true rfl, Nat.le_of_ble_eq_true rfl⟩ (vk_recv hE.S (by decide) hS) hP hD hS rfl hl.1 rfl (Nat.le_of_ble_eq_true rfl) dX3_refusalToTake_15 ⟨Nat.le_of_ble_eq_true rfl, Nat.le_of_ble_eq_true rfl⟩) hS (fun r5 G4 H locs hw hP hD hS => ?_)
    refine lv_istore (lv' := [(4, .int r5), (0, .ref (xa X q0)), (1, .int a1), (2, .int a2), (3, .int a3)]) hx hb dX3_refusalToTake_18 hl (by decide) rfl (fun ls hl => ?_)
    refine lv_iload hx hb dX3_refusalToTake_20 (lv_at hl 0 rfl) ?_
    refine lv_if_lt (tgt := 35) hx hb dX3_refusalToTake_22 (by decide) (fun c6 => ?_) (fun c6 => ?_)
    · replace hw := ite_t hw c6
      exact B35 G4   _ _ _ hw hP hD hS (lv_sub hl [] rfl)
    · replace hw := ite_f hw c6
      refine lv_iload_n hx hb dX3_refusalToTake_25 rfl (lv_at hl 4 rfl) ?_
      refine lv_iconst (v := 1) hx hb dX3_refusalToTake_26 (by decide) ?_
      refine lv_bipush (v := 30) hx hb dX3_refusalToTake_27 (by decide) ?_
      refine call_i (run_S (cc := cX3_refusalToTake) (As := [.int a3, .int 1, .int 30]) (rest := []) hx hb hml hown hE hz (okX3_within X l hfl  hw) qw_864 qw_865 qw_75 qw_866 (myX3_within).2 ⟨Nat.le_of_ble_eq_true rfl, Nat.le_of_ble_eq_true rfl⟩ hP hD hS rfl hl.1 rfl (Nat.le_of_ble_eq_true rfl) dX3_refusalToTake_29 ⟨Nat.le_of_ble_eq_true rfl, Nat.le_of_ble_eq_true rfl⟩) hS (fun r8 G7 H locs hw hP hD hS => ?_)
      refine lv_if_ne (tgt := 39) hx hb dX3_refusalToTake_32 (by decide) (fun c9 => ?_) (fun c9 => ?_)
      · replace hw := ite_f hw c9
        refine lv_aload_n hx hb dX3_refusalToTake_39 rfl (lv_at hl 1 rfl) ?_
        refine gf_X3_0 hx hb hE hP hown h0 (hE.w qw_160 rfl _) dX3_refusalToTake_40 ?_
        refine lv_iload_n hx hb dX3_refusalToTake_43 rfl (lv_at hl 2 rfl) ?_
        obtain ⟨y10, hw⟩ := hw
        refine ald_1 hx hb hE hP (k0_1 h0) y10 dX3_refusalToTake_44 ?_
        refine lv_astore (lv' := [(5, .ref (xa X (q0 + 1 + 4 + a1.toNatClampNeg))), (4, .int r5), (0, .ref (xa X q0)), (1, .int a1), (2, .int a2), (3, .int a3)]) hx hb dX3_refusalToTake_45 hl (by decide) rfl (fun ls hl => ?_)
        refine lv_aload hx hb dX3_refusalToTake_47 (lv_at hl 0 rfl) ?_
        refine call_i (run_V (cc := cX3_refusalToTake) (As := []) (rest := []) hx hb hml hown hE hz (okX7_frozen X l hfl (k1_e (k0_1 h0) y10) hw) qw_1025 qw_1026 qw_1027 qw_76 qw_1028 (myX7_frozen) ⟨Nat.le_of_ble_eq_true rfl, Nat.le_of_ble_eq_true rfl⟩ (rv_X7 hE hP (k1_e (k0_1 h0) y10)) hP hD hS rfl hl.1 rfl (Nat.le_of_ble_eq_true rfl) dX3_refusalToTake_49 ⟨Nat.le_of_ble_eq_true rfl, Nat.le_of_ble_eq_true rfl⟩) hS (fun r12 G11 H locs hw hP hD hS => ?_)
        refine lv_if_eq (tgt := 59) hx hb dX3_refusalToTake_52 (by decide) (fun c13 => ?_) (fun c13 => ?_)
        · replace hw := ite_t hw c13
          refine lv_aload hx hb dX3_refusalToTake_59 (lv_at hl 0 rfl) ?_
          refine lv_aload_n hx hb dX3_refusalToTake_61 rfl (lv_at hl 2 rfl) ?_
          refine gf_X3_1 hx hb hE hP hown h0 (hE.w qw_162 rfl _) dX3_refusalToTake_62 ?_
          refine call_i (run_V (cc := cX3_refusalToTake) (As := [.ref (xa X (q0 + 2))]) (rest := []) hx hb hml hown hE hz (okX7_legsAt X l hfl (k1_e (k0_1 h0) y10) (k0_2 h0) hw) qw_358 qw_359 qw_360 qw_76 qw_361 (myX7_legsAt) ⟨Nat.le_of_ble_eq_true rfl, Nat.le_of_ble_eq_true rfl⟩ (rv_X7 hE hP (k1_e (k0_1 h0) y10)) hP hD hS rfl hl.1 rfl (Nat.le_of_ble_eq_true rfl) dX3_refusalToTake_65 ⟨Nat.le_of_ble_eq_true rfl, Nat.le_of_ble_eq_true rfl⟩) hS (fun r15 G14 H locs hw hP hD hS => ?_)
          refine lv_iload_n hx hb dX3_refusalToTake_68 rfl (lv_at hl 5 rfl) ?_
          refine lv_aload_n hx hb dX3_refusalToTake_69 rfl (lv_at hl 2 rfl) ?_
          refine gf_X3_1 hx hb hE hP hown h0 (hE.w qw_162 rfl _) dX3_refusalToTake_70 ?_
          refine lv_iload hx hb dX3_refusalToTake_73 (lv_at hl 1 rfl) ?_
          obtain ⟨y16, hw⟩ := hw
          refine ald_2 hx hb hE hP (k0_2 h0) y16 dX3_refusalToTake_75 ?_
          refine lv_imul hx hb dX3_refusalToTake_76 ?_
          refine lv_isub hx hb dX3_refusalToTake_77 ?_
          refine lv_topi (fun z17 ez17 => ?_)
          replace hw := hw z17 ez17
          refine lv_istore (lv' := [(6, .int z17), (5, .ref (xa X (q0 + 1 + 4 + a1.toNatClampNeg))), (4, .int r5), (0, .ref (xa X q0)), (1, .int a1), (2, .int a2), (3, .int a3)]) hx hb dX3_refusalToTake_78 hl (by decide) rfl (fun ls hl => ?_)
          refine lv_aload hx hb dX3_refusalToTake_80 (lv_at hl 1 rfl) ?_
          refine gn_X7_0 hx hb hE hP hown (k1_e (k0_1 h0) y10) (hE.w qw_131 rfl _) dX3_refusalToTake_82 ?_
          refine lv_iload hx hb dX3_refusalToTake_85 (lv_at hl 2 rfl) ?_
          obtain ⟨y18, hw⟩ := hw
          refine ald_2 hx hb hE hP (k3_5 (k1_e (k0_1 h0) y10)) y18 dX3_refusalToTake_87 ?_
          refine lv_iload_n hx hb dX3_refusalToTake_88 rfl (lv_at hl 6 rfl) ?_
          refine lv_icmp_lt (tgt := 111) hx hb dX3_refusalToTake_89 (by decide) (fun c19 => ?_) (fun c19 => ?_)
          · replace hw := ite_t hw c19
            exact B111 G14   _ _ _ hw hP hD hS (lv_sub hl [] rfl)
          · replace hw := ite_f hw c19
            refine lv_aload hx hb dX3_refusalToTake_92 (lv_at hl 1 rfl) ?_
            refine gn_X7_2 hx hb hE hP hown (k1_e (k0_1 h0) y10) (hE.w qw_137 rfl _) dX3_refusalToTake_94 ?_
            refine lv_aload hx hb dX3_refusalToTake_97 (lv_at hl 1 rfl) ?_
            refine lv_iload hx hb dX3_refusalToTake_99 (lv_at hl 0 rfl) ?_
            refine call_i (run_V (cc := cX3_refusalToTake) (As := [.int z17]) (rest := [.int (G14.1 (q0 + 1 + 4 + a1.toNatClampNeg) 2)]) hx hb hml hown hE hz (okX7_backingOf X l hfl (k1_e (k0_1 h0) y10) hw) qw_1029 qw_430 qw_431 qw_76 qw_432 (myX7_backingOf) ⟨Nat.le_of_ble_eq_true rfl, Nat.le_of_ble_eq_true rfl⟩ (rv_X7 hE hP (k1_e (k0_1 h0) y10)) hP hD hS rfl hl.1 rfl (Nat.le_of_ble_eq_true rfl) dX3_refusalToTake_101 ⟨Nat.le_of_ble_eq_true rfl, Nat.le_of_ble_eq_true rfl⟩) hS (fun r23 G22 H locs hw hP hD hS => ?_)
            refine lv_icmp_gt (tgt := 111) hx hb dX3_refusalToTake_104 (by decide) (fun c24 => ?_) (fun c24 => ?_)
            · replace hw := ite_t hw c24
              exact B111 G22   _ _ _ hw hP hD hS (lv_sub hl [] rfl)
            · replace hw := ite_f hw c24
              refine lv_iconst (v := 1) hx hb dX3_refusalToTake_107 (by decide) ?_
              refine lv_goto (tgt := 112) hx hb dX3_refusalToTake_108 (by decide) ?_
              exact B112 G22 1  _ _ _ hw hP hD hS (lv_sub hl [] rfl)
        · replace hw := ite_f hw c13
          refine va_gets hx hb (en_Z0 hE (i := 3) (by decide)) hS hown (hE.w qw_869 rfl _) (fun _ h9 => h9) dX3_refusalToTake_55 ?_
          exact end_r hx hb hr hlk (Or.inl ⟨_, rfl⟩) hw hP hD hS dX3_refusalToTake_58
      · replace hw := ite_t hw c9
        exact B35 G7   _ _ _ hw hP hD hS (lv_sub hl [] rfl)
  · replace hw := ite_t hw c3
    refine va_gets hx hb (en_Z0 hE (i := 1) (by decide)) hS hown (hE.w qw_960 rfl _) (fun _ h9 => h9) dX3_refusalToTake_8 ?_
    exact end_r hx hb hr hlk (Or.inl ⟨_, rfl⟩) hw hP hD hS dX3_refusalToTake_11
def wpX3_take (post : Int32 → GS → Prop) (q0 : Nat) (a1 : Int32) (a2 : Int32) (a3 : Int32) (G : GS) : Prop :=
  wpJ0_indexOf_0f7a4 (fun (r2 : Int32) (G1 : GS) =>
  vp_in a1 5 ∧
    vp_in r2 (ln (q0 + 1 + 4 + a1.toNatClampNeg + 5)) ∧
    vp_in r2 (ln (q0 + 1 + 4 + a1.toNatClampNeg + 5)) ∧ ∀ G6 : GS, G6 = gI G1 (q0 + 1 + 4 + a1.toNatClampNeg + 5) r2.toNatClampNeg ((G1.1 (q0 + 1 + 4 + a1.toNatClampNeg + 5) r2.toNatClampNeg) - a3) →
    vp_in r2 (ln (q0 + 4)) ∧
    vp_in r2 (ln (q0 + 4)) ∧ ∀ G9 : GS, G9 = gI G6 (q0 + 4) r2.toNatClampNeg ((G6.1 (q0 + 4) r2.toNatClampNeg) + a3) →
    vp_in a1 5 ∧
    vp_in r2 (ln (q0 + 1 + 4 + a1.toNatClampNeg + 5)) ∧
    post (G9.1 (q0 + 1 + 4 + a1.toNatClampNeg + 5) r2.toNatClampNeg) G9) 0 a2 G
set_option maxHeartbeats 4000000 in
set_option maxRecDepth 100000 in
theorem okX3_take (X : Cx) (l : Launch) (hfl : l.stackTraces = false) {post : Int32 → GS → Prop} {q0 : Nat} {a1 : Int32} {a2 : Int32} {a3 : Int32} {G : GS} (h0 : kd q0 = 0) (hw : wpX3_take post q0 a1 a2 a3 G) : CT X l yX3_take cX3_take 5 (some FieldType.int) 5 0 0 [.ref (xa X q0), .int a1, .int a2, .int a3] G (Qi X post) := by
  refine mbegin (by decide) (Nat.le_of_ble_eq_true rfl) (fun p e s m below meth c hx hb hr hml hlk hown hE hz ls hl hP hD hS => ?_)
  have hl : lv_has ls 5 [(0, .ref (xa X q0)), (1, .int a1), (2, .int a2), (3, .int a3)] := hl
  have hown : s.vm.findClass "FlyTreasury$Ledger" = some m.cls := hown
  unfold wpX3_take at hw
  refine va_ldcS hx hb hown (sr_5 hE) dX3_take_0 ?_
  refine lv_iload_n hx hb dX3_take_2 rfl (lv_at hl 2 rfl) ?_
  refine call_i (run_V (cc := cX3_take) (As := [.int a2]) (rest := []) hx hb hml hown hE hz (okJ0_indexOf_0f7a4 X l hfl (by decide) hw) qw_963 qw_964 qw_965 qw_84 qw_966 (myJ0_indexOf_0f7a4) ⟨Nat.le_of_ble_eq_true rfl, Nat.le_of_ble_eq_true rfl⟩ (vk_recv hE.S (by decide) hS) hP hD hS rfl hl.1 rfl (Nat.le_of_ble_eq_true rfl) dX3_take_3 ⟨Nat.le_of_ble_eq_true rfl, Nat.le_of_ble_eq_true rfl⟩) hS (fun r2 G1 H locs hw hP hD hS => ?_)
  refine lv_istore (lv' := [(4, .int r2), (0, .ref (xa X q0)), (1, .int a1), (2, .int a2), (3, .int a3)]) hx hb dX3_take_6 hl (by decide) rfl (fun ls hl => ?_)
  refine lv_aload_n hx hb dX3_take_8 rfl (lv_at hl 1 rfl) ?_
  refine gf_X3_0 hx hb hE hP hown h0 (hE.w qw_160 rfl _) dX3_take_9 ?_
  refine lv_iload_n hx hb dX3_take_12 rfl (lv_at hl 2 rfl) ?_
  obtain ⟨y3, hw⟩ := hw
  refine ald_1 hx hb hE hP (k0_1 h0) y3 dX3_take_13 ?_
  refine gn_X7_0 hx hb hE hP hown (k1_e (k0_1 h0) y3) (hE.w qw_131 rfl _) dX3_take_14 ?_
  refine lv_iload hx hb dX3_take_17 (lv_at hl 0 rfl) ?_
  refine lv_dup2_11 hx hb dX3_take_19 rfl rfl ?_
  obtain ⟨y4, hw⟩ := hw
  refine ald_2 hx hb hE hP (k3_5 (k1_e (k0_1 h0) y3)) y4 dX3_take_20 ?_
  refine lv_iload_n hx hb dX3_take_21 rfl (lv_at hl 4 rfl) ?_
  refine lv_isub hx hb dX3_take_22 ?_
  obtain ⟨y5, hw⟩ := hw
  refine ast_2 hx hb hE hP hD hS (k3_5 (k1_e (k0_1 h0) y3)) y5 dX3_take_23 (fun G6 H locs eG6 hP hD hS => ?_)
  replace hw := hw G6 eG6
  refine lv_aload_n hx hb dX3_take_24 rfl (lv_at hl 1 rfl) ?_
  refine gf_X3_3 hx hb hE hP hown h0 (hE.w qw_165 rfl _) dX3_take_25 ?_
  refine lv_iload hx hb dX3_take_28 (lv_at hl 0 rfl) ?_
  refine lv_dup2_11 hx hb dX3_take_30 rfl rfl ?_
  obtain ⟨y7, hw⟩ := hw
  refine ald_2 hx hb hE hP (k0_4 h0) y7 dX3_take_31 ?_
  refine lv_iload_n hx hb dX3_take_32 rfl (lv_at hl 4 rfl) ?_
  refine lv_iadd hx hb dX3_take_33 ?_
  obtain ⟨y8, hw⟩ := hw
  refine ast_2 hx hb hE hP hD hS (k0_4 h0) y8 dX3_take_34 (fun G9 H locs eG9 hP hD hS => ?_)
  replace hw := hw G9 eG9
  refine lv_aload_n hx hb dX3_take_35 rfl (lv_at hl 1 rfl) ?_
  refine gf_X3_0 hx hb hE hP hown h0 (hE.w qw_160 rfl _) dX3_take_36 ?_
  refine lv_iload_n hx hb dX3_take_39 rfl (lv_at hl 2 rfl) ?_
  obtain ⟨y10, hw⟩ := hw
  refine ald_1 hx hb hE hP (k0_1 h0) y10 dX3_take_40 ?_
  refine gn_X7_0 hx hb hE hP hown (k1_e (k0_1 h0) y10) (hE.w qw_131 rfl _) dX3_take_41 ?_
  refine lv_iload hx hb dX3_take_44 (lv_at hl 0 rfl) ?_
  obtain ⟨y11, hw⟩ := hw
  refine ald_2 hx hb hE hP (k3_5 (k1_e (k0_1 h0) y10)) y11 dX3_take_46 ?_
  exact end_i hx hb hr hlk rfl hw hP hD hS dX3_take_47
