def wpX9_thrown (post : Int32 → GS → Prop) (G : GS) : Prop :=
  post (G.1 189 0) G
set_option maxHeartbeats 4000000 in
set_option maxRecDepth 100000 in
theorem okX9_thrown (X : Cx) (l : Launch) (hfl : l.stackTraces = false) {post : Int32 → GS → Prop}  {G : GS}  (hw : wpX9_thrown post G) : CT X l yX9_thrown cX9_thrown 1 (some FieldType.int) 1 0 0 [.ref (xa X 189)] G (Qi X post) := by
  refine mbegin (by decide) (Nat.le_of_ble_eq_true rfl) (fun p e s m below meth c hx hb hr hml hlk hown hE hz ls hl hP hD hS => ?_)
  have hl : lv_has ls 1 [(0, .ref (xa X 189))] := hl
  have hown : s.vm.findClass "FlyTreasuryModel" = some m.cls := hown
  unfold wpX9_thrown at hw
  refine lv_aload_n hx hb dX9_thrown_0 rfl (lv_at hl 0 rfl) ?_
  refine gf_X9_0 hx hb hE hP hown rfl (hE.w qw_1570 rfl _) dX9_thrown_1 ?_
  exact end_i hx hb hr hlk rfl hw hP hD hS dX9_thrown_4
def wpX9_fails (post : Int32 → GS → Prop) (a1 : Int32) (G : GS) : Prop :=
  ∀ G1 : GS, G1 = gI G 189 0 a1 →
  post 0 G1
set_option maxHeartbeats 4000000 in
set_option maxRecDepth 100000 in
theorem okX9_fails (X : Cx) (l : Launch) (hfl : l.stackTraces = false) {post : Int32 → GS → Prop} {a1 : Int32} {G : GS}  (hw : wpX9_fails post a1 G) : CT X l yX9_fails cX9_fails 2 (some FieldType.int) 1 0 0 [.ref (xa X 189), .int a1] G (Qi X post) := by
  refine mbegin (by decide) (Nat.le_of_ble_eq_true rfl) (fun p e s m below meth c hx hb hr hml hlk hown hE hz ls hl hP hD hS => ?_)
  have hl : lv_has ls 2 [(0, .ref (xa X 189)), (1, .int a1)] := hl
  have hown : s.vm.findClass "FlyTreasuryModel" = some m.cls := hown
  unfold wpX9_fails at hw
  refine lv_aload_n hx hb dX9_fails_0 rfl (lv_at hl 0 rfl) ?_
  refine lv_iload_n hx hb dX9_fails_1 rfl (lv_at hl 1 rfl) ?_
  refine pf_X9_0 hx hb hE hP hD hS hown rfl (hE.w qw_1570 rfl _) dX9_fails_2 (fun G1 H locs eG1 hP hD hS => ?_)
  replace hw := hw G1 eG1
  refine lv_iconst (v := 0) hx hb dX9_fails_5 (by decide) ?_
  exact end_i hx hb hr hlk rfl hw hP hD hS dX9_fails_6
def wpX9_isBetween (post : Int32 → GS → Prop) (a1 : Int32) (a2 : Int32) (a3 : Int32) (G : GS) : Prop :=
  if a1 < a2 then
  post 0 G
else
  if a3 < a1 then
    post 0 G
  else
    post 1 G
set_option maxHeartbeats 4000000 in
set_option maxRecDepth 100000 in
theorem okX9_isBetween (X : Cx) (l : Launch) (hfl : l.stackTraces = false) {post : Int32 → GS → Prop} {a1 : Int32} {a2 : Int32} {a3 : Int32} {G : GS}  (hw : wpX9_isBetween post a1 a2 a3 G) : CT X l yX9_isBetween cX9_isBetween 3 (some FieldType.boolean) 1 0 0 [.int a1, .int a2, .int a3] G (Qi X post) := by
  refine mbegin (by decide) (Nat.le_of_ble_eq_true rfl) (fun p e s m below meth c hx hb hr hml hlk hown hE hz ls hl hP hD hS => ?_)
  have hl : lv_has ls 3 [(0, .int a1), (1, .int a2), (2, .int a3)] := hl
  have hown : s.vm.findClass "FlyTreasuryModel" = some m.cls := hown
  unfold wpX9_isBetween at hw
  refine lv_iload_n hx hb dX9_isBetween_0 rfl (lv_at hl 1 rfl) ?_
  refine lv_iload_n hx hb dX9_isBetween_1 rfl (lv_at hl 0 rfl) ?_
  refine lv_icmp_gt (tgt := 14) hx hb dX9_isBetween_2 (by decide) (fun c1 => ?_) (fun c1 => ?_)
  · replace hw := ite_t hw c1
    refine lv_iconst (v := 0) hx hb dX9_isBetween_14 (by decide) ?_
    exact end_i hx hb hr hlk (by decide) hw hP hD hS dX9_isBetween_15
  · replace hw := ite_f hw c1
    refine lv_iload_n hx hb dX9_isBetween_5 rfl (lv_at hl 0 rfl) ?_
    refine lv_iload_n hx hb dX9_isBetween_6 rfl (lv_at hl 2 rfl) ?_
    refine lv_icmp_gt (tgt := 14) hx hb dX9_isBetween_7 (by decide) (fun c2 => ?_) (fun c2 => ?_)
    · replace hw := ite_t hw c2
      refine lv_iconst (v := 0) hx hb dX9_isBetween_14 (by decide) ?_
      exact end_i hx hb hr hlk (by decide) hw hP hD hS dX9_isBetween_15
    · replace hw := ite_f hw c2
      refine lv_iconst (v := 1) hx hb dX9_isBetween_10 (by decide) ?_
      refine lv_goto (tgt := 15) hx hb dX9_isBetween_11 (by decide) ?_
      exact end_i hx hb hr hlk (by decide) hw hP hD hS dX9_isBetween_15
def wlX9_copies_2 (post : GS → Prop) : Nat → GS → Int32 → Prop
  | 0, _, _ => False
  | n + 1, G, v1 =>
    if 56 ≤ v1 then
  post G
else
  vp_in v1 (ln 190) ∧
    vp_in v1 (ln 193) ∧ ∀ G4 : GS, G4 = gI G 193 v1.toNatClampNeg (G.1 190 v1.toNatClampNeg) →
    ∀ z5 : Int32, z5 = v1 + 1 →
    wlX9_copies_2 post n G4 z5
def wpX9_copies (post : GS → Prop) (G : GS) : Prop :=
  ∃ nn, wlX9_copies_2 post nn G 0
set_option maxHeartbeats 4000000 in
set_option maxRecDepth 100000 in
theorem okX9_copies (X : Cx) (l : Launch) (hfl : l.stackTraces = false) {post : GS → Prop}  {G : GS}  (hw : wpX9_copies post G) : CT X l yX9_copies cX9_copies 2 none 1 0 0 [.ref (xa X 189)] G (Qv X post) := by
  refine mbegin (by decide) (Nat.le_of_ble_eq_true rfl) (fun p e s m below meth c hx hb hr hml hlk hown hE hz ls hl hP hD hS => ?_)
  have hl : lv_has ls 2 [(0, .ref (xa X 189))] := hl
  have hown : s.vm.findClass "FlyTreasuryModel" = some m.cls := hown
  have L2 : ∀ (n2 : Nat) (G : GS) (v1 : Int32) (H : Heap) (locs : List Loc) (ls : Array Slot), wlX9_copies_2 post n2 G v1 → va_P (xD X) vwCl (pool X G) H → va_D (xA X) (pool X G) → va_S (xA X) s.heap H locs → lv_has ls 2 [(0, .ref (xa X 189)), (1, .int v1)] → W p l e (rmL 1 0 0) s m [.ref (xa X 189)].toArray below meth c H locs 0 0 (MQ below (Qv X post) [.ref (xa X 189)].toArray s 0 0 (xA X)) (F0 m 2 ls []) := by
    intro n2
    induction n2 with
    | zero => intro G v1  H locs ls hw; exact hw.elim
    | succ n2 ih2 =>
      intro G v1  H locs ls hw hP hD hS hl
      rw [wlX9_copies_2] at hw
      refine lv_iload_n hx hb dX9_copies_2 rfl (lv_at hl 1 rfl) ?_
      refine lv_bipush (v := 56) hx hb dX9_copies_3 (by decide) ?_
      refine lv_icmp_ge (tgt := 26) hx hb dX9_copies_5 (by decide) (fun c6 => ?_) (fun c6 => ?_)
      · replace hw := ite_t hw c6
        exact end_v hx hb hr hlk hw hP hD hS dX9_copies_26
      · replace hw := ite_f hw c6
        refine lv_aload_n hx hb dX9_copies_8 rfl (lv_at hl 0 rfl) ?_
        refine gf_X9_4 hx hb hE hP hown rfl (hE.w qw_1574 rfl _) dX9_copies_9 ?_
        refine lv_iload_n hx hb dX9_copies_12 rfl (lv_at hl 1 rfl) ?_
        refine lv_aload_n hx hb dX9_copies_13 rfl (lv_at hl 0 rfl) ?_
        refine gf_X9_1 hx hb hE hP hown rfl (hE.w qw_1571 rfl _) dX9_copies_14 ?_
        refine lv_iload_n hx hb dX9_copies_17 rfl (lv_at hl 1 rfl) ?_
        obtain ⟨y7, hw⟩ := hw
        refine ald_2 hx hb hE hP rfl y7 dX9_copies_18 ?_
        obtain ⟨y8, hw⟩ := hw
        refine ast_2 hx hb hE hP hD hS rfl y8 dX9_copies_19 (fun G9 H locs eG9 hP hD hS => ?_)
        replace hw := hw G9 eG9
        obtain ⟨z10, ez10⟩ : ∃ y : Int32, y = v1 + 1 := ⟨_, rfl⟩
        replace hw := hw z10 ez10
        refine lv_iinc (v := z10) (lv' := [(1, .int z10), (0, .ref (xa X 189))]) hx hb dX9_copies_20 hl (k := 1) rfl (by rw [ez10]; rfl) (by decide) rfl (fun ls hl => ?_)
        refine lv_goto (tgt := 2) hx hb dX9_copies_23 (by decide) ?_
        exact ih2 G9 z10  _ _ _ hw hP hD hS (lv_sub hl [1, 0] rfl)
  unfold wpX9_copies at hw
  refine lv_iconst (v := 0) hx hb dX9_copies_0 (by decide) ?_
  refine lv_istore_n (lv' := [(1, .int 0), (0, .ref (xa X 189))]) hx hb dX9_copies_1 rfl hl (by decide) rfl (fun ls hl => ?_)
  obtain ⟨nn, hw⟩ := hw
  exact L2 nn G 0  _ _ _ hw hP hD hS (lv_sub hl [1, 0] rfl)
def wlX9_goesBack_2 (post : GS → Prop) : Nat → GS → Int32 → Prop
  | 0, _, _ => False
  | n + 1, G, v1 =>
    if 56 ≤ v1 then
  post G
else
  vp_in v1 (ln 193) ∧
    vp_in v1 (ln 190) ∧ ∀ G4 : GS, G4 = gI G 190 v1.toNatClampNeg (G.1 193 v1.toNatClampNeg) →
    ∀ z5 : Int32, z5 = v1 + 1 →
    wlX9_goesBack_2 post n G4 z5
def wpX9_goesBack (post : GS → Prop) (G : GS) : Prop :=
  ∃ nn, wlX9_goesBack_2 post nn G 0
set_option maxHeartbeats 4000000 in
set_option maxRecDepth 100000 in
theorem okX9_goesBack (X : Cx) (l : Launch) (hfl : l.stackTraces = false) {post : GS → Prop}  {G : GS}  (hw : wpX9_goesBack post G) : CT X l yX9_goesBack cX9_goesBack 2 none 1 0 0 [.ref (xa X 189)] G (Qv X post) := by
  refine mbegin (by decide) (Nat.le_of_ble_eq_true rfl) (fun p e s m below meth c hx hb hr hml hlk hown hE hz ls hl hP hD hS => ?_)
  have hl : lv_has ls 2 [(0, .ref (xa X 189))] := hl
  have hown : s.vm.findClass "FlyTreasuryModel" = some m.cls := hown
  have L2 : ∀ (n2 : Nat) (G : GS) (v1 : Int32) (H : Heap) (locs : List Loc) (ls : Array Slot), wlX9_goesBack_2 post n2 G v1 → va_P (xD X) vwCl (pool X G) H → va_D (xA X) (pool X G) → va_S (xA X) s.heap H locs → lv_has ls 2 [(0, .ref (xa X 189)), (1, .int v1)] → W p l e (rmL 1 0 0) s m [.ref (xa X 189)].toArray below meth c H locs 0 0 (MQ below (Qv X post) [.ref (xa X 189)].toArray s 0 0 (xA X)) (F0 m 2 ls []) := by
    intro n2
    induction n2 with
    | zero => intro G v1  H locs ls hw; exact hw.elim
    | succ n2 ih2 =>
      intro G v1  H locs ls hw hP hD hS hl
      rw [wlX9_goesBack_2] at hw
      refine lv_iload_n hx hb dX9_goesBack_2 rfl (lv_at hl 1 rfl) ?_
      refine lv_bipush (v := 56) hx hb dX9_goesBack_3 (by decide) ?_
      refine lv_icmp_ge (tgt := 26) hx hb dX9_goesBack_5 (by decide) (fun c6 => ?_) (fun c6 => ?_)
      · replace hw := ite_t hw c6
        exact end_v hx hb hr hlk hw hP hD hS dX9_goesBack_26
      · replace hw := ite_f hw c6
        refine lv_aload_n hx hb dX9_goesBack_8 rfl (lv_at hl 0 rfl) ?_
        refine gf_X9_1 hx hb hE hP hown rfl (hE.w qw_1571 rfl _) dX9_goesBack_9 ?_
        refine lv_iload_n hx hb dX9_goesBack_12 rfl (lv_at hl 1 rfl) ?_
        refine lv_aload_n hx hb dX9_goesBack_13 rfl (lv_at hl 0 rfl) ?_
        refine gf_X9_4 hx hb hE hP hown rfl (hE.w qw_1574 rfl _) dX9_goesBack_14 ?_
        refine lv_iload_n hx hb dX9_goesBack_17 rfl (lv_at hl 1 rfl) ?_
        obtain ⟨y7, hw⟩ := hw
        refine ald_2 hx hb hE hP rfl y7 dX9_goesBack_18 ?_
        obtain ⟨y8, hw⟩ := hw
        refine ast_2 hx hb hE hP hD hS rfl y8 dX9_goesBack_19 (fun G9 H locs eG9 hP hD hS => ?_)
        replace hw := hw G9 eG9
        obtain ⟨z10, ez10⟩ : ∃ y : Int32, y = v1 + 1 := ⟨_, rfl⟩
        replace hw := hw z10 ez10
        refine lv_iinc (v := z10) (lv' := [(1, .int z10), (0, .ref (xa X 189))]) hx hb dX9_goesBack_20 hl (k := 1) rfl (by rw [ez10]; rfl) (by decide) rfl (fun ls hl => ?_)
        refine lv_goto (tgt := 2) hx hb dX9_goesBack_23 (by decide) ?_
        exact ih2 G9 z10  _ _ _ hw hP hD hS (lv_sub hl [1, 0] rfl)
  unfold wpX9_goesBack at hw
  refine lv_iconst (v := 0) hx hb dX9_goesBack_0 (by decide) ?_
  refine lv_istore_n (lv' := [(1, .int 0), (0, .ref (xa X 189))]) hx hb dX9_goesBack_1 rfl hl (by decide) rfl (fun ls hl => ?_)
  obtain ⟨nn, hw⟩ := hw
  exact L2 nn G 0  _ _ _ hw hP hD hS (lv_sub hl [1, 0] rfl)
def wlX9_keeps_47 (post : GS → Prop) : Nat → GS → Int32 → Int32 → Prop
  | 0, _, _, _ => False
  | n + 1, G, v1, v2 =>
    if 56 ≤ v2 then
  ∀ G5 : GS, G5 = gI G 189 5 ((G.1 189 5) + 1) →
    post G5
else
  vp_in v2 (ln 193) ∧
    vp_in ((56 * v1) + v2) (ln 191) ∧ ∀ G8 : GS, G8 = gI G 191 (((56 * v1) + v2).toNatClampNeg) (G.1 193 v2.toNatClampNeg) →
    ∀ z9 : Int32, z9 = v2 + 1 →
    wlX9_keeps_47 post n G8 v1 z9
def wbX9_keeps_32 (post : GS → Prop) (G : GS) : Prop :=
  ∀ z3 : Int32, z3 = (((G.1 189 6) + (G.1 189 5)) - ((G.1 189 6) + (G.1 189 5)) / 8 * 8) →
  ∃ nn, wlX9_keeps_47 post nn G z3 0
def wpX9_keeps (post : GS → Prop) (G : GS) : Prop :=
  if (G.1 189 5) = 8 then
  ∀ G19 : GS, G19 = gI G 189 6 (((G.1 189 6) + 1) - ((G.1 189 6) + 1) / 8 * 8) →
    ∀ G20 : GS, G20 = gI G19 189 5 ((G19.1 189 5) - 1) →
    wbX9_keeps_32 post G20
else
  wbX9_keeps_32 post G
set_option maxHeartbeats 4000000 in
set_option maxRecDepth 100000 in
theorem okX9_keeps (X : Cx) (l : Launch) (hfl : l.stackTraces = false) {post : GS → Prop}  {G : GS}  (hw : wpX9_keeps post G) : CT X l yX9_keeps cX9_keeps 3 none 1 0 0 [.ref (xa X 189)] G (Qv X post) := by
  refine mbegin (by decide) (Nat.le_of_ble_eq_true rfl) (fun p e s m below meth c hx hb hr hml hlk hown hE hz ls hl hP hD hS => ?_)
  have hl : lv_has ls 3 [(0, .ref (xa X 189))] := hl
  have hown : s.vm.findClass "FlyTreasuryModel" = some m.cls := hown
  have L47 : ∀ (n47 : Nat) (G : GS) (v1 : Int32) (v2 : Int32) (H : Heap) (locs : List Loc) (ls : Array Slot), wlX9_keeps_47 post n47 G v1 v2 → va_P (xD X) vwCl (pool X G) H → va_D (xA X) (pool X G) → va_S (xA X) s.heap H locs → lv_has ls 3 [(0, .ref (xa X 189)), (1, .int v1), (2, .int v2)] → W p l e (rmL 1 0 0) s m [.ref (xa X 189)].toArray below meth c H locs 0 0 (MQ below (Qv X post) [.ref (xa X 189)].toArray s 0 0 (xA X)) (F0 m 47 ls []) := by
    intro n47
    induction n47 with
    | zero => intro G v1 v2  H locs ls hw; exact hw.elim
    | succ n47 ih47 =>
      intro G v1 v2  H locs ls hw hP hD hS hl
      rw [wlX9_keeps_47] at hw
      refine lv_iload_n hx hb dX9_keeps_47 rfl (lv_at hl 2 rfl) ?_
      refine lv_bipush (v := 56) hx hb dX9_keeps_48 (by decide) ?_
      refine lv_icmp_ge (tgt := 76) hx hb dX9_keeps_50 (by decide) (fun c10 => ?_) (fun c10 => ?_)
      · replace hw := ite_t hw c10
        refine lv_aload_n hx hb dX9_keeps_76 rfl (lv_at hl 0 rfl) ?_
        refine lv_dup hx hb dX9_keeps_77 rfl ?_
        refine gf_X9_5 hx hb hE hP hown rfl (hE.w qw_1575 rfl _) dX9_keeps_78 ?_
        refine lv_iconst (v := 1) hx hb dX9_keeps_81 (by decide) ?_
        refine lv_iadd hx hb dX9_keeps_82 ?_
        refine pf_X9_5 hx hb hE hP hD hS hown rfl (hE.w qw_1575 rfl _) dX9_keeps_83 (fun G11 H locs eG11 hP hD hS => ?_)
        replace hw := hw G11 eG11
        exact end_v hx hb hr hlk hw hP hD hS dX9_keeps_86
      · replace hw := ite_f hw c10
        refine lv_aload_n hx hb dX9_keeps_53 rfl (lv_at hl 0 rfl) ?_
        refine gf_X9_2 hx hb hE hP hown rfl (hE.w qw_1572 rfl _) dX9_keeps_54 ?_
        refine lv_bipush (v := 56) hx hb dX9_keeps_57 (by decide) ?_
        refine lv_iload_n hx hb dX9_keeps_59 rfl (lv_at hl 1 rfl) ?_
        refine lv_imul hx hb dX9_keeps_60 ?_
        refine lv_iload_n hx hb dX9_keeps_61 rfl (lv_at hl 2 rfl) ?_
        refine lv_iadd hx hb dX9_keeps_62 ?_
        refine lv_aload_n hx hb dX9_keeps_63 rfl (lv_at hl 0 rfl) ?_
        refine gf_X9_4 hx hb hE hP hown rfl (hE.w qw_1574 rfl _) dX9_keeps_64 ?_
        refine lv_iload_n hx hb dX9_keeps_67 rfl (lv_at hl 2 rfl) ?_
        obtain ⟨y12, hw⟩ := hw
        refine ald_2 hx hb hE hP rfl y12 dX9_keeps_68 ?_
        obtain ⟨y13, hw⟩ := hw
        refine ast_2 hx hb hE hP hD hS rfl y13 dX9_keeps_69 (fun G14 H locs eG14 hP hD hS => ?_)
        replace hw := hw G14 eG14
        obtain ⟨z15, ez15⟩ : ∃ y : Int32, y = v2 + 1 := ⟨_, rfl⟩
        replace hw := hw z15 ez15
        refine lv_iinc (v := z15) (lv' := [(2, .int z15), (0, .ref (xa X 189)), (1, .int v1)]) hx hb dX9_keeps_70 hl (k := 2) rfl (by rw [ez15]; rfl) (by decide) rfl (fun ls hl => ?_)
        refine lv_goto (tgt := 47) hx hb dX9_keeps_73 (by decide) ?_
        exact ih47 G14 v1 z15  _ _ _ hw hP hD hS (lv_sub hl [1, 2, 0] rfl)
  have B32 : ∀ (G : GS) (H : Heap) (locs : List Loc) (ls : Array Slot), wbX9_keeps_32 post G  → va_P (xD X) vwCl (pool X G) H → va_D (xA X) (pool X G) → va_S (xA X) s.heap H locs → lv_has ls 3 [(0, .ref (xa X 189))] → W p l e (rmL 1 0 0) s m [.ref (xa X 189)].toArray below meth c H locs 0 0 (MQ below (Qv X post) [.ref (xa X 189)].toArray s 0 0 (xA X)) (F0 m 32 ls []) := by
    intro G   H locs ls hw hP hD hS hl
    unfold wbX9_keeps_32 at hw
    refine lv_aload_n hx hb dX9_keeps_32 rfl (lv_at hl 0 rfl) ?_
    refine gf_X9_6 hx hb hE hP hown rfl (hE.w qw_1576 rfl _) dX9_keeps_33 ?_
    refine lv_aload_n hx hb dX9_keeps_36 rfl (lv_at hl 0 rfl) ?_
    refine gf_X9_5 hx hb hE hP hown rfl (hE.w qw_1575 rfl _) dX9_keeps_37 ?_
    refine lv_iadd hx hb dX9_keeps_40 ?_
    refine lv_bipush (v := 8) hx hb dX9_keeps_41 (by decide) ?_
    refine lv_irem hx hb dX9_keeps_43 (by decide) ?_
    refine lv_topi (fun z17 ez17 => ?_)
    replace hw := hw z17 ez17
    refine lv_istore_n (lv' := [(1, .int z17), (0, .ref (xa X 189))]) hx hb dX9_keeps_44 rfl hl (by decide) rfl (fun ls hl => ?_)
    refine lv_iconst (v := 0) hx hb dX9_keeps_45 (by decide) ?_
    refine lv_istore_n (lv' := [(2, .int 0), (1, .int z17), (0, .ref (xa X 189))]) hx hb dX9_keeps_46 rfl hl (by decide) rfl (fun ls hl => ?_)
    obtain ⟨nn, hw⟩ := hw
    exact L47 nn G z17 0  _ _ _ hw hP hD hS (lv_sub hl [2, 1, 0] rfl)
  unfold wpX9_keeps at hw
  refine lv_aload_n hx hb dX9_keeps_0 rfl (lv_at hl 0 rfl) ?_
  refine gf_X9_5 hx hb hE hP hown rfl (hE.w qw_1575 rfl _) dX9_keeps_1 ?_
  refine lv_bipush (v := 8) hx hb dX9_keeps_4 (by decide) ?_
  refine lv_icmp_ne (tgt := 32) hx hb dX9_keeps_6 (by decide) (fun c1 => ?_) (fun c1 => ?_)
  · replace hw := ite_f hw c1
    exact B32 G   _ _ _ hw hP hD hS (lv_sub hl [0] rfl)
  · replace hw := ite_t hw c1
    refine lv_aload_n hx hb dX9_keeps_9 rfl (lv_at hl 0 rfl) ?_
    refine lv_aload_n hx hb dX9_keeps_10 rfl (lv_at hl 0 rfl) ?_
    refine gf_X9_6 hx hb hE hP hown rfl (hE.w qw_1576 rfl _) dX9_keeps_11 ?_
    refine lv_iconst (v := 1) hx hb dX9_keeps_14 (by decide) ?_
    refine lv_iadd hx hb dX9_keeps_15 ?_
    refine lv_bipush (v := 8) hx hb dX9_keeps_16 (by decide) ?_
    refine lv_irem hx hb dX9_keeps_18 (by decide) ?_
    refine pf_X9_6 hx hb hE hP hD hS hown rfl (hE.w qw_1576 rfl _) dX9_keeps_19 (fun G19 H locs eG19 hP hD hS => ?_)
    replace hw := hw G19 eG19
    refine lv_aload_n hx hb dX9_keeps_22 rfl (lv_at hl 0 rfl) ?_
    refine lv_dup hx hb dX9_keeps_23 rfl ?_
    refine gf_X9_5 hx hb hE hP hown rfl (hE.w qw_1575 rfl _) dX9_keeps_24 ?_
    refine lv_iconst (v := 1) hx hb dX9_keeps_27 (by decide) ?_
    refine lv_isub hx hb dX9_keeps_28 ?_
    refine pf_X9_5 hx hb hE hP hD hS hown rfl (hE.w qw_1575 rfl _) dX9_keeps_29 (fun G20 H locs eG20 hP hD hS => ?_)
    replace hw := hw G20 eG20
    exact B32 G20   _ _ _ hw hP hD hS (lv_sub hl [0] rfl)
def wpX9_remembers (post : GS → Prop) (G : GS) : Prop :=
  wpX9_copies (fun (G1 : GS) =>
  wpX9_keeps (fun (G2 : GS) =>
    post G2)  G1)  G
set_option maxHeartbeats 4000000 in
set_option maxRecDepth 100000 in
theorem okX9_remembers (X : Cx) (l : Launch) (hfl : l.stackTraces = false) {post : GS → Prop}  {G : GS}  (hw : wpX9_remembers post G) : CT X l yX9_remembers cX9_remembers 1 none 2 0 0 [.ref (xa X 189)] G (Qv X post) := by
  refine mbegin (by decide) (Nat.le_of_ble_eq_true rfl) (fun p e s m below meth c hx hb hr hml hlk hown hE hz ls hl hP hD hS => ?_)
  have hl : lv_has ls 1 [(0, .ref (xa X 189))] := hl
  have hown : s.vm.findClass "FlyTreasuryModel" = some m.cls := hown
  unfold wpX9_remembers at hw
  refine lv_aload_n hx hb dX9_remembers_0 rfl (lv_at hl 0 rfl) ?_
  refine call_v (run_V (cc := cX9_remembers) (As := []) (rest := []) hx hb hml hown hE hz (okX9_copies X l hfl  hw) qw_1644 qw_1646 qw_22 qw_86 qw_1647 (myX9_copies) ⟨Nat.le_of_ble_eq_true rfl, Nat.le_of_ble_eq_true rfl⟩ (rv_X9 hE hP rfl) hP hD hS rfl hl.1 rfl (Nat.le_of_ble_eq_true rfl) dX9_remembers_1 ⟨Nat.le_of_ble_eq_true rfl, Nat.le_of_ble_eq_true rfl⟩) hS (fun G1 H locs hw hP hD hS => ?_)
  refine lv_aload_n hx hb dX9_remembers_4 rfl (lv_at hl 0 rfl) ?_
  refine call_v (run_V (cc := cX9_remembers) (As := []) (rest := []) hx hb hml hown hE hz (okX9_keeps X l hfl  hw) qw_1648 qw_1650 qw_23 qw_86 qw_1651 (myX9_keeps) ⟨Nat.le_of_ble_eq_true rfl, Nat.le_of_ble_eq_true rfl⟩ (rv_X9 hE hP rfl) hP hD hS rfl hl.1 rfl (Nat.le_of_ble_eq_true rfl) dX9_remembers_5 ⟨Nat.le_of_ble_eq_true rfl, Nat.le_of_ble_eq_true rfl⟩) hS (fun G2 H locs hw hP hD hS => ?_)
  exact end_v hx hb hr hlk hw hP hD hS dX9_remembers_8
def wpX9_kindOf (post : Int32 → GS → Prop) (a1 : Int32) (G : GS) : Prop :=
  if a1 = 103 then
  post 0 G
else
  if a1 = 109 then
    post 1 G
  else
    if a1 = 104 then
      post 2 G
    else
      post (-1) G
set_option maxHeartbeats 4000000 in
set_option maxRecDepth 100000 in
theorem okX9_kindOf (X : Cx) (l : Launch) (hfl : l.stackTraces = false) {post : Int32 → GS → Prop} {a1 : Int32} {G : GS}  (hw : wpX9_kindOf post a1 G) : CT X l yX9_kindOf cX9_kindOf 1 (some FieldType.int) 1 0 0 [.int a1] G (Qi X post) := by
  refine mbegin (by decide) (Nat.le_of_ble_eq_true rfl) (fun p e s m below meth c hx hb hr hml hlk hown hE hz ls hl hP hD hS => ?_)
  have hl : lv_has ls 1 [(0, .int a1)] := hl
  have hown : s.vm.findClass "FlyTreasuryModel" = some m.cls := hown
  unfold wpX9_kindOf at hw
  refine lv_iload_n hx hb dX9_kindOf_0 rfl (lv_at hl 0 rfl) ?_
  refine lv_bipush (v := 103) hx hb dX9_kindOf_1 (by decide) ?_
  refine lv_icmp_ne (tgt := 10) hx hb dX9_kindOf_3 (by decide) (fun c1 => ?_) (fun c1 => ?_)
  · replace hw := ite_f hw c1
    refine lv_iload_n hx hb dX9_kindOf_10 rfl (lv_at hl 0 rfl) ?_
    refine lv_bipush (v := 109) hx hb dX9_kindOf_11 (by decide) ?_
    refine lv_icmp_ne (tgt := 20) hx hb dX9_kindOf_13 (by decide) (fun c2 => ?_) (fun c2 => ?_)
    · replace hw := ite_f hw c2
      refine lv_iload_n hx hb dX9_kindOf_20 rfl (lv_at hl 0 rfl) ?_
      refine lv_bipush (v := 104) hx hb dX9_kindOf_21 (by decide) ?_
      refine lv_icmp_ne (tgt := 30) hx hb dX9_kindOf_23 (by decide) (fun c3 => ?_) (fun c3 => ?_)
      · replace hw := ite_f hw c3
        refine lv_iconst (v := -1) hx hb dX9_kindOf_30 (by decide) ?_
        exact end_i hx hb hr hlk rfl hw hP hD hS dX9_kindOf_31
      · replace hw := ite_t hw c3
        refine lv_iconst (v := 2) hx hb dX9_kindOf_26 (by decide) ?_
        refine lv_goto (tgt := 31) hx hb dX9_kindOf_27 (by decide) ?_
        exact end_i hx hb hr hlk rfl hw hP hD hS dX9_kindOf_31
    · replace hw := ite_t hw c2
      refine lv_iconst (v := 1) hx hb dX9_kindOf_16 (by decide) ?_
      refine lv_goto (tgt := 31) hx hb dX9_kindOf_17 (by decide) ?_
      exact end_i hx hb hr hlk rfl hw hP hD hS dX9_kindOf_31
  · replace hw := ite_t hw c1
    refine lv_iconst (v := 0) hx hb dX9_kindOf_6 (by decide) ?_
    refine lv_goto (tgt := 31) hx hb dX9_kindOf_7 (by decide) ?_
    exact end_i hx hb hr hlk rfl hw hP hD hS dX9_kindOf_31
def wpX9_letterOf (post : Int32 → GS → Prop) (a1 : Int32) (G : GS) : Prop :=
  if a1 = 0 then
  post 103 G
else
  if a1 = 1 then
    post 109 G
  else
    post 104 G
set_option maxHeartbeats 4000000 in
set_option maxRecDepth 100000 in
theorem okX9_letterOf (X : Cx) (l : Launch) (hfl : l.stackTraces = false) {post : Int32 → GS → Prop} {a1 : Int32} {G : GS}  (hw : wpX9_letterOf post a1 G) : CT X l yX9_letterOf cX9_letterOf 1 (some FieldType.char) 1 0 0 [.int a1] G (Qi X post) := by
  refine mbegin (by decide) (Nat.le_of_ble_eq_true rfl) (fun p e s m below meth c hx hb hr hml hlk hown hE hz ls hl hP hD hS => ?_)
  have hl : lv_has ls 1 [(0, .int a1)] := hl
  have hown : s.vm.findClass "FlyTreasuryModel" = some m.cls := hown
  unfold wpX9_letterOf at hw
  refine lv_iload_n hx hb dX9_letterOf_0 rfl (lv_at hl 0 rfl) ?_
  refine lv_if_ne (tgt := 9) hx hb dX9_letterOf_1 (by decide) (fun c1 => ?_) (fun c1 => ?_)
  · replace hw := ite_f hw c1
    refine lv_iload_n hx hb dX9_letterOf_9 rfl (lv_at hl 0 rfl) ?_
    refine lv_iconst (v := 1) hx hb dX9_letterOf_10 (by decide) ?_
    refine lv_icmp_ne (tgt := 19) hx hb dX9_letterOf_11 (by decide) (fun c2 => ?_) (fun c2 => ?_)
    · replace hw := ite_f hw c2
      refine lv_bipush (v := 104) hx hb dX9_letterOf_19 (by decide) ?_
      exact end_i hx hb hr hlk (by decide) hw hP hD hS dX9_letterOf_21
    · replace hw := ite_t hw c2
      refine lv_bipush (v := 109) hx hb dX9_letterOf_14 (by decide) ?_
      refine lv_goto (tgt := 21) hx hb dX9_letterOf_16 (by decide) ?_
      exact end_i hx hb hr hlk (by decide) hw hP hD hS dX9_letterOf_21
  · replace hw := ite_t hw c1
    refine lv_bipush (v := 103) hx hb dX9_letterOf_4 (by decide) ?_
    refine lv_goto (tgt := 21) hx hb dX9_letterOf_6 (by decide) ?_
    exact end_i hx hb hr hlk (by decide) hw hP hD hS dX9_letterOf_21
def wpX9_isVault (post : Int32 → GS → Prop) (a1 : Int32) (G : GS) : Prop :=
  vp_in 0 (ln 190) ∧
  wpX9_isBetween (fun (r3 : Int32) (G2 : GS) =>
  narrow .boolean (.int r3) = .int r3 ∧ post r3 G2) a1 0 ((G.1 190 (0 : Int32).toNatClampNeg) - 1) G
set_option maxHeartbeats 4000000 in
set_option maxRecDepth 100000 in
theorem okX9_isVault (X : Cx) (l : Launch) (hfl : l.stackTraces = false) {post : Int32 → GS → Prop} {a1 : Int32} {G : GS}  (hw : wpX9_isVault post a1 G) : CT X l yX9_isVault cX9_isVault 2 (some FieldType.boolean) 2 0 0 [.ref (xa X 189), .int a1] G (Qi X post) := by
  refine mbegin (by decide) (Nat.le_of_ble_eq_true rfl) (fun p e s m below meth c hx hb hr hml hlk hown hE hz ls hl hP hD hS => ?_)
  have hl : lv_has ls 2 [(0, .ref (xa X 189)), (1, .int a1)] := hl
  have hown : s.vm.findClass "FlyTreasuryModel" = some m.cls := hown
  unfold wpX9_isVault at hw
  refine lv_iload_n hx hb dX9_isVault_0 rfl (lv_at hl 1 rfl) ?_
  refine lv_iconst (v := 0) hx hb dX9_isVault_1 (by decide) ?_
  refine lv_aload_n hx hb dX9_isVault_2 rfl (lv_at hl 0 rfl) ?_
  refine gf_X9_1 hx hb hE hP hown rfl (hE.w qw_1571 rfl _) dX9_isVault_3 ?_
  refine lv_iconst (v := 0) hx hb dX9_isVault_6 (by decide) ?_
  obtain ⟨y1, hw⟩ := hw
  refine ald_2 hx hb hE hP rfl y1 dX9_isVault_7 ?_
  refine lv_iconst (v := 1) hx hb dX9_isVault_8 (by decide) ?_
  refine lv_isub hx hb dX9_isVault_9 ?_
  refine call_i (run_S (cc := cX9_isVault) (As := [.int a1, .int 0, .int ((G.1 190 (0 : Int32).toNatClampNeg) - 1)]) (rest := []) hx hb hml hown hE hz (okX9_isBetween X l hfl  hw) qw_1633 qw_1634 qw_86 qw_1635 (myX9_isBetween).2 ⟨Nat.le_of_ble_eq_true rfl, Nat.le_of_ble_eq_true rfl⟩ hP hD hS rfl hl.1 rfl (Nat.le_of_ble_eq_true rfl) dX9_isVault_10 ⟨Nat.le_of_ble_eq_true rfl, Nat.le_of_ble_eq_true rfl⟩) hS (fun r3 G2 H locs hw hP hD hS => ?_)
  obtain ⟨y4, hw⟩ := hw
  exact end_i hx hb hr hlk y4 hw hP hD hS dX9_isVault_13
def wpX9_of (post : Int32 → GS → Prop) (a1 : Int32) (a2 : Int32) (G : GS) : Prop :=
  vp_in ((16 + (8 * a1)) + a2) (ln 190) ∧
  post (G.1 190 ((16 + (8 * a1)) + a2).toNatClampNeg) G
set_option maxHeartbeats 4000000 in
set_option maxRecDepth 100000 in
theorem okX9_of (X : Cx) (l : Launch) (hfl : l.stackTraces = false) {post : Int32 → GS → Prop} {a1 : Int32} {a2 : Int32} {G : GS}  (hw : wpX9_of post a1 a2 G) : CT X l yX9_of cX9_of 3 (some FieldType.int) 1 0 0 [.ref (xa X 189), .int a1, .int a2] G (Qi X post) := by
  refine mbegin (by decide) (Nat.le_of_ble_eq_true rfl) (fun p e s m below meth c hx hb hr hml hlk hown hE hz ls hl hP hD hS => ?_)
  have hl : lv_has ls 3 [(0, .ref (xa X 189)), (1, .int a1), (2, .int a2)] := hl
  have hown : s.vm.findClass "FlyTreasuryModel" = some m.cls := hown
  unfold wpX9_of at hw
  refine lv_aload_n hx hb dX9_of_0 rfl (lv_at hl 0 rfl) ?_
  refine gf_X9_1 hx hb hE hP hown rfl (hE.w qw_1571 rfl _) dX9_of_1 ?_
  refine lv_bipush (v := 16) hx hb dX9_of_4 (by decide) ?_
  refine lv_bipush (v := 8) hx hb dX9_of_6 (by decide) ?_
  refine lv_iload_n hx hb dX9_of_8 rfl (lv_at hl 1 rfl) ?_
  refine lv_imul hx hb dX9_of_9 ?_
  refine lv_iadd hx hb dX9_of_10 ?_
  refine lv_iload_n hx hb dX9_of_11 rfl (lv_at hl 2 rfl) ?_
  refine lv_iadd hx hb dX9_of_12 ?_
  obtain ⟨y1, hw⟩ := hw
  refine ald_2 hx hb hE hP rfl y1 dX9_of_13 ?_
  exact end_i hx hb hr hlk rfl hw hP hD hS dX9_of_14
def wpX9_adds (post : GS → Prop) (a1 : Int32) (a2 : Int32) (a3 : Int32) (G : GS) : Prop :=
  vp_in ((16 + (8 * a1)) + a2) (ln 190) ∧
  vp_in ((16 + (8 * a1)) + a2) (ln 190) ∧ ∀ G3 : GS, G3 = gI G 190 (((16 + (8 * a1)) + a2).toNatClampNeg) ((G.1 190 ((16 + (8 * a1)) + a2).toNatClampNeg) + a3) →
  post G3
set_option maxHeartbeats 4000000 in
set_option maxRecDepth 100000 in
theorem okX9_adds (X : Cx) (l : Launch) (hfl : l.stackTraces = false) {post : GS → Prop} {a1 : Int32} {a2 : Int32} {a3 : Int32} {G : GS}  (hw : wpX9_adds post a1 a2 a3 G) : CT X l yX9_adds cX9_adds 4 none 1 0 0 [.ref (xa X 189), .int a1, .int a2, .int a3] G (Qv X post) := by
  refine mbegin (by decide) (Nat.le_of_ble_eq_true rfl) (fun p e s m below meth c hx hb hr hml hlk hown hE hz ls hl hP hD hS => ?_)
  have hl : lv_has ls 4 [(0, .ref (xa X 189)), (1, .int a1), (2, .int a2), (3, .int a3)] := hl
  have hown : s.vm.findClass "FlyTreasuryModel" = some m.cls := hown
  unfold wpX9_adds at hw
  refine lv_aload_n hx hb dX9_adds_0 rfl (lv_at hl 0 rfl) ?_
  refine gf_X9_1 hx hb hE hP hown rfl (hE.w qw_1571 rfl _) dX9_adds_1 ?_
  refine lv_bipush (v := 16) hx hb dX9_adds_4 (by decide) ?_
  refine lv_bipush (v := 8) hx hb dX9_adds_6 (by decide) ?_
  refine lv_iload_n hx hb dX9_adds_8 rfl (lv_at hl 1 rfl) ?_
  refine lv_imul hx hb dX9_adds_9 ?_
  refine lv_iadd hx hb dX9_adds_10 ?_
  refine lv_iload_n hx hb dX9_adds_11 rfl (lv_at hl 2 rfl) ?_
  refine lv_iadd hx hb dX9_adds_12 ?_
  refine lv_dup2_11 hx hb dX9_adds_13 rfl rfl ?_
  obtain ⟨y1, hw⟩ := hw
  refine ald_2 hx hb hE hP rfl y1 dX9_adds_14 ?_
  refine lv_iload_n hx hb dX9_adds_15 rfl (lv_at hl 3 rfl) ?_
  refine lv_iadd hx hb dX9_adds_16 ?_
  obtain ⟨y2, hw⟩ := hw
  refine ast_2 hx hb hE hP hD hS rfl y2 dX9_adds_17 (fun G3 H locs eG3 hP hD hS => ?_)
  replace hw := hw G3 eG3
  exact end_v hx hb hr hlk hw hP hD hS dX9_adds_18
def wpX9_puts (post : GS → Prop) (a1 : Int32) (a2 : Int32) (a3 : Int32) (G : GS) : Prop :=
  vp_in ((16 + (8 * a1)) + a2) (ln 190) ∧ ∀ G2 : GS, G2 = gI G 190 (((16 + (8 * a1)) + a2).toNatClampNeg) a3 →
  post G2
set_option maxHeartbeats 4000000 in
set_option maxRecDepth 100000 in
theorem okX9_puts (X : Cx) (l : Launch) (hfl : l.stackTraces = false) {post : GS → Prop} {a1 : Int32} {a2 : Int32} {a3 : Int32} {G : GS}  (hw : wpX9_puts post a1 a2 a3 G) : CT X l yX9_puts cX9_puts 4 none 1 0 0 [.ref (xa X 189), .int a1, .int a2, .int a3] G (Qv X post) := by
  refine mbegin (by decide) (Nat.le_of_ble_eq_true rfl) (fun p e s m below meth c hx hb hr hml hlk hown hE hz ls hl hP hD hS => ?_)
  have hl : lv_has ls 4 [(0, .ref (xa X 189)), (1, .int a1), (2, .int a2), (3, .int a3)] := hl
  have hown : s.vm.findClass "FlyTreasuryModel" = some m.cls := hown
  unfold wpX9_puts at hw
  refine lv_aload_n hx hb dX9_puts_0 rfl (lv_at hl 0 rfl) ?_
  refine gf_X9_1 hx hb hE hP hown rfl (hE.w qw_1571 rfl _) dX9_puts_1 ?_
  refine lv_bipush (v := 16) hx hb dX9_puts_4 (by decide) ?_
  refine lv_bipush (v := 8) hx hb dX9_puts_6 (by decide) ?_
  refine lv_iload_n hx hb dX9_puts_8 rfl (lv_at hl 1 rfl) ?_
  refine lv_imul hx hb dX9_puts_9 ?_
  refine lv_iadd hx hb dX9_puts_10 ?_
  refine lv_iload_n hx hb dX9_puts_11 rfl (lv_at hl 2 rfl) ?_
  refine lv_iadd hx hb dX9_puts_12 ?_
  refine lv_iload_n hx hb dX9_puts_13 rfl (lv_at hl 3 rfl) ?_
  obtain ⟨y1, hw⟩ := hw
  refine ast_2 hx hb hE hP hD hS rfl y1 dX9_puts_14 (fun G2 H locs eG2 hP hD hS => ?_)
  replace hw := hw G2 eG2
  exact end_v hx hb hr hlk hw hP hD hS dX9_puts_15
def wlX9_valueOf_9 (post : Int32 → GS → Prop) (a1 : Int32) : Nat → GS → Int32 → Int32 → Prop
  | 0, _, _, _ => False
  | n + 1, G, v2, v3 =>
    if 3 ≤ v3 then
  post v2 G
else
  wpX9_of (fun (r5 : Int32) (G4 : GS) =>
    vp_in (2 + v3) (ln 190) ∧
      ∀ z7 : Int32, z7 = (v2 + (r5 * (G4.1 190 (2 + v3).toNatClampNeg))) →
      ∀ z8 : Int32, z8 = v3 + 1 →
      wlX9_valueOf_9 post a1 n G4 z7 z8) a1 v3 G
def wpX9_valueOf (post : Int32 → GS → Prop) (a1 : Int32) (G : GS) : Prop :=
  wpX9_of (fun (r2 : Int32) (G1 : GS) =>
  ∃ nn, wlX9_valueOf_9 post a1 nn G1 r2 0) a1 3 G
set_option maxHeartbeats 4000000 in
set_option maxRecDepth 100000 in
theorem okX9_valueOf (X : Cx) (l : Launch) (hfl : l.stackTraces = false) {post : Int32 → GS → Prop} {a1 : Int32} {G : GS}  (hw : wpX9_valueOf post a1 G) : CT X l yX9_valueOf cX9_valueOf 4 (some FieldType.int) 2 0 0 [.ref (xa X 189), .int a1] G (Qi X post) := by
  refine mbegin (by decide) (Nat.le_of_ble_eq_true rfl) (fun p e s m below meth c hx hb hr hml hlk hown hE hz ls hl hP hD hS => ?_)
  have hl : lv_has ls 4 [(0, .ref (xa X 189)), (1, .int a1)] := hl
  have hown : s.vm.findClass "FlyTreasuryModel" = some m.cls := hown
  have L9 : ∀ (n9 : Nat) (G : GS) (v2 : Int32) (v3 : Int32) (H : Heap) (locs : List Loc) (ls : Array Slot), wlX9_valueOf_9 post a1 n9 G v2 v3 → va_P (xD X) vwCl (pool X G) H → va_D (xA X) (pool X G) → va_S (xA X) s.heap H locs → lv_has ls 4 [(0, .ref (xa X 189)), (1, .int a1), (2, .int v2), (3, .int v3)] → W p l e (rmL 2 0 0) s m [.ref (xa X 189), .int a1].toArray below meth c H locs 0 0 (MQ below (Qi X post) [.ref (xa X 189), .int a1].toArray s 0 0 (xA X)) (F0 m 9 ls []) := by
    intro n9
    induction n9 with
    | zero => intro G v2 v3  H locs ls hw; exact hw.elim
    | succ n9 ih9 =>
      intro G v2 v3  H locs ls hw hP hD hS hl
      rw [wlX9_valueOf_9] at hw
      refine lv_iload_n hx hb dX9_valueOf_9 rfl (lv_at hl 3 rfl) ?_
      refine lv_iconst (v := 3) hx hb dX9_valueOf_10 (by decide) ?_
      refine lv_icmp_ge (tgt := 38) hx hb dX9_valueOf_11 (by decide) (fun c9 => ?_) (fun c9 => ?_)
      · replace hw := ite_t hw c9
        refine lv_iload_n hx hb dX9_valueOf_38 rfl (lv_at hl 2 rfl) ?_
        exact end_i hx hb hr hlk rfl hw hP hD hS dX9_valueOf_39
      · replace hw := ite_f hw c9
        refine lv_iload_n hx hb dX9_valueOf_14 rfl (lv_at hl 2 rfl) ?_
        refine lv_aload_n hx hb dX9_valueOf_15 rfl (lv_at hl 0 rfl) ?_
        refine lv_iload_n hx hb dX9_valueOf_16 rfl (lv_at hl 1 rfl) ?_
        refine lv_iload_n hx hb dX9_valueOf_17 rfl (lv_at hl 3 rfl) ?_
        refine call_i (run_V (cc := cX9_valueOf) (As := [.int a1, .int v3]) (rest := [.int v2]) hx hb hml hown hE hz (okX9_of X l hfl  hw) qw_1675 qw_1677 qw_28 qw_86 qw_1678 (myX9_of) ⟨Nat.le_of_ble_eq_true rfl, Nat.le_of_ble_eq_true rfl⟩ (rv_X9 hE hP rfl) hP hD hS rfl hl.1 rfl (Nat.le_of_ble_eq_true rfl) dX9_valueOf_18 ⟨Nat.le_of_ble_eq_true rfl, Nat.le_of_ble_eq_true rfl⟩) hS (fun r11 G10 H locs hw hP hD hS => ?_)
        refine lv_aload_n hx hb dX9_valueOf_21 rfl (lv_at hl 0 rfl) ?_
        refine gf_X9_1 hx hb hE hP hown rfl (hE.w qw_1571 rfl _) dX9_valueOf_22 ?_
        refine lv_iconst (v := 2) hx hb dX9_valueOf_25 (by decide) ?_
        refine lv_iload_n hx hb dX9_valueOf_26 rfl (lv_at hl 3 rfl) ?_
        refine lv_iadd hx hb dX9_valueOf_27 ?_
        obtain ⟨y12, hw⟩ := hw
        refine ald_2 hx hb hE hP rfl y12 dX9_valueOf_28 ?_
        refine lv_imul hx hb dX9_valueOf_29 ?_
        refine lv_iadd hx hb dX9_valueOf_30 ?_
        refine lv_topi (fun z13 ez13 => ?_)
        replace hw := hw z13 ez13
        refine lv_istore_n (lv' := [(2, .int z13), (0, .ref (xa X 189)), (1, .int a1), (3, .int v3)]) hx hb dX9_valueOf_31 rfl hl (by decide) rfl (fun ls hl => ?_)
        obtain ⟨z14, ez14⟩ : ∃ y : Int32, y = v3 + 1 := ⟨_, rfl⟩
        replace hw := hw z14 ez14
        refine lv_iinc (v := z14) (lv' := [(3, .int z14), (2, .int z13), (0, .ref (xa X 189)), (1, .int a1)]) hx hb dX9_valueOf_32 hl (k := 3) rfl (by rw [ez14]; rfl) (by decide) rfl (fun ls hl => ?_)
        refine lv_goto (tgt := 9) hx hb dX9_valueOf_35 (by decide) ?_
        exact ih9 G10 z13 z14  _ _ _ hw hP hD hS (lv_sub hl [2, 3, 1, 0] rfl)
  unfold wpX9_valueOf at hw
  refine lv_aload_n hx hb dX9_valueOf_0 rfl (lv_at hl 0 rfl) ?_
  refine lv_iload_n hx hb dX9_valueOf_1 rfl (lv_at hl 1 rfl) ?_
  refine lv_iconst (v := 3) hx hb dX9_valueOf_2 (by decide) ?_
  refine call_i (run_V (cc := cX9_valueOf) (As := [.int a1, .int 3]) (rest := []) hx hb hml hown hE hz (okX9_of X l hfl  hw) qw_1675 qw_1677 qw_28 qw_86 qw_1678 (myX9_of) ⟨Nat.le_of_ble_eq_true rfl, Nat.le_of_ble_eq_true rfl⟩ (rv_X9 hE hP rfl) hP hD hS rfl hl.1 rfl (Nat.le_of_ble_eq_true rfl) dX9_valueOf_3 ⟨Nat.le_of_ble_eq_true rfl, Nat.le_of_ble_eq_true rfl⟩) hS (fun r2 G1 H locs hw hP hD hS => ?_)
  refine lv_istore_n (lv' := [(2, .int r2), (0, .ref (xa X 189)), (1, .int a1)]) hx hb dX9_valueOf_6 rfl hl (by decide) rfl (fun ls hl => ?_)
  refine lv_iconst (v := 0) hx hb dX9_valueOf_7 (by decide) ?_
  refine lv_istore_n (lv' := [(3, .int 0), (2, .int r2), (0, .ref (xa X 189)), (1, .int a1)]) hx hb dX9_valueOf_8 rfl hl (by decide) rfl (fun ls hl => ?_)
  obtain ⟨nn, hw⟩ := hw
  exact L9 nn G1 r2 0  _ _ _ hw hP hD hS (lv_sub hl [2, 3, 1, 0] rfl)
def wpX9_reserveOf (post : Int32 → GS → Prop) (a1 : Int32) (G : GS) : Prop :=
  wpX9_valueOf (fun (r2 : Int32) (G1 : GS) =>
  wpX9_of (fun (r4 : Int32) (G3 : GS) =>
    post ((r2 * r4) / 10) G3) a1 6 G1) a1 G
set_option maxHeartbeats 4000000 in
set_option maxRecDepth 100000 in
theorem okX9_reserveOf (X : Cx) (l : Launch) (hfl : l.stackTraces = false) {post : Int32 → GS → Prop} {a1 : Int32} {G : GS}  (hw : wpX9_reserveOf post a1 G) : CT X l yX9_reserveOf cX9_reserveOf 2 (some FieldType.int) 3 0 0 [.ref (xa X 189), .int a1] G (Qi X post) := by
  refine mbegin (by decide) (Nat.le_of_ble_eq_true rfl) (fun p e s m below meth c hx hb hr hml hlk hown hE hz ls hl hP hD hS => ?_)
  have hl : lv_has ls 2 [(0, .ref (xa X 189)), (1, .int a1)] := hl
  have hown : s.vm.findClass "FlyTreasuryModel" = some m.cls := hown
  unfold wpX9_reserveOf at hw
  refine lv_aload_n hx hb dX9_reserveOf_0 rfl (lv_at hl 0 rfl) ?_
  refine lv_iload_n hx hb dX9_reserveOf_1 rfl (lv_at hl 1 rfl) ?_
  refine call_i (run_V (cc := cX9_reserveOf) (As := [.int a1]) (rest := []) hx hb hml hown hE hz (okX9_valueOf X l hfl  hw) qw_1703 qw_1705 qw_34 qw_86 qw_1706 (myX9_valueOf) ⟨Nat.le_of_ble_eq_true rfl, Nat.le_of_ble_eq_true rfl⟩ (rv_X9 hE hP rfl) hP hD hS rfl hl.1 rfl (Nat.le_of_ble_eq_true rfl) dX9_reserveOf_2 ⟨Nat.le_of_ble_eq_true rfl, Nat.le_of_ble_eq_true rfl⟩) hS (fun r2 G1 H locs hw hP hD hS => ?_)
  refine lv_aload_n hx hb dX9_reserveOf_5 rfl (lv_at hl 0 rfl) ?_
  refine lv_iload_n hx hb dX9_reserveOf_6 rfl (lv_at hl 1 rfl) ?_
  refine lv_bipush (v := 6) hx hb dX9_reserveOf_7 (by decide) ?_
  refine call_i (run_V (cc := cX9_reserveOf) (As := [.int a1, .int 6]) (rest := [.int r2]) hx hb hml hown hE hz (okX9_of X l hfl  hw) qw_1675 qw_1677 qw_28 qw_86 qw_1678 (myX9_of) ⟨Nat.le_of_ble_eq_true rfl, Nat.le_of_ble_eq_true rfl⟩ (rv_X9 hE hP rfl) hP hD hS rfl hl.1 rfl (Nat.le_of_ble_eq_true rfl) dX9_reserveOf_9 ⟨Nat.le_of_ble_eq_true rfl, Nat.le_of_ble_eq_true rfl⟩) hS (fun r4 G3 H locs hw hP hD hS => ?_)
  refine lv_imul hx hb dX9_reserveOf_12 ?_
  refine lv_bipush (v := 10) hx hb dX9_reserveOf_13 (by decide) ?_
  refine lv_idiv hx hb dX9_reserveOf_15 (by decide) ?_
  exact end_i hx hb hr hlk rfl hw hP hD hS dX9_reserveOf_16
def wpX9_spare (post : Int32 → GS → Prop) (a1 : Int32) (G : GS) : Prop :=
  wpX9_valueOf (fun (r2 : Int32) (G1 : GS) =>
  wpX9_reserveOf (fun (r4 : Int32) (G3 : GS) =>
    wpX9_of (fun (r6 : Int32) (G5 : GS) =>
      post ((r2 - r4) - r6) G5) a1 4 G3) a1 G1) a1 G
set_option maxHeartbeats 4000000 in
set_option maxRecDepth 100000 in
theorem okX9_spare (X : Cx) (l : Launch) (hfl : l.stackTraces = false) {post : Int32 → GS → Prop} {a1 : Int32} {G : GS}  (hw : wpX9_spare post a1 G) : CT X l yX9_spare cX9_spare 2 (some FieldType.int) 4 0 0 [.ref (xa X 189), .int a1] G (Qi X post) := by
  refine mbegin (by decide) (Nat.le_of_ble_eq_true rfl) (fun p e s m below meth c hx hb hr hml hlk hown hE hz ls hl hP hD hS => ?_)
  have hl : lv_has ls 2 [(0, .ref (xa X 189)), (1, .int a1)] := hl
  have hown : s.vm.findClass "FlyTreasuryModel" = some m.cls := hown
  unfold wpX9_spare at hw
  refine lv_aload_n hx hb dX9_spare_0 rfl (lv_at hl 0 rfl) ?_
  refine lv_iload_n hx hb dX9_spare_1 rfl (lv_at hl 1 rfl) ?_
  refine call_i (run_V (cc := cX9_spare) (As := [.int a1]) (rest := []) hx hb hml hown hE hz (okX9_valueOf X l hfl  hw) qw_1703 qw_1705 qw_34 qw_86 qw_1706 (myX9_valueOf) ⟨Nat.le_of_ble_eq_true rfl, Nat.le_of_ble_eq_true rfl⟩ (rv_X9 hE hP rfl) hP hD hS rfl hl.1 rfl (Nat.le_of_ble_eq_true rfl) dX9_spare_2 ⟨Nat.le_of_ble_eq_true rfl, Nat.le_of_ble_eq_true rfl⟩) hS (fun r2 G1 H locs hw hP hD hS => ?_)
  refine lv_aload_n hx hb dX9_spare_5 rfl (lv_at hl 0 rfl) ?_
  refine lv_iload_n hx hb dX9_spare_6 rfl (lv_at hl 1 rfl) ?_
  refine call_i (run_V (cc := cX9_spare) (As := [.int a1]) (rest := [.int r2]) hx hb hml hown hE hz (okX9_reserveOf X l hfl  hw) qw_1707 qw_1709 qw_35 qw_86 qw_1710 (myX9_reserveOf) ⟨Nat.le_of_ble_eq_true rfl, Nat.le_of_ble_eq_true rfl⟩ (rv_X9 hE hP rfl) hP hD hS rfl hl.1 rfl (Nat.le_of_ble_eq_true rfl) dX9_spare_7 ⟨Nat.le_of_ble_eq_true rfl, Nat.le_of_ble_eq_true rfl⟩) hS (fun r4 G3 H locs hw hP hD hS => ?_)
  refine lv_isub hx hb dX9_spare_10 ?_
  refine lv_aload_n hx hb dX9_spare_11 rfl (lv_at hl 0 rfl) ?_
  refine lv_iload_n hx hb dX9_spare_12 rfl (lv_at hl 1 rfl) ?_
  refine lv_iconst (v := 4) hx hb dX9_spare_13 (by decide) ?_
  refine call_i (run_V (cc := cX9_spare) (As := [.int a1, .int 4]) (rest := [.int (r2 - r4)]) hx hb hml hown hE hz (okX9_of X l hfl  hw) qw_1675 qw_1677 qw_28 qw_86 qw_1678 (myX9_of) ⟨Nat.le_of_ble_eq_true rfl, Nat.le_of_ble_eq_true rfl⟩ (rv_X9 hE hP rfl) hP hD hS rfl hl.1 rfl (Nat.le_of_ble_eq_true rfl) dX9_spare_14 ⟨Nat.le_of_ble_eq_true rfl, Nat.le_of_ble_eq_true rfl⟩) hS (fun r6 G5 H locs hw hP hD hS => ?_)
  refine lv_isub hx hb dX9_spare_17 ?_
  exact end_i hx hb hr hlk rfl hw hP hD hS dX9_spare_18
def wpX9_notVault (post : Int32 → GS → Prop) (a1 : Int32) (G : GS) : Prop :=
  wpX9_isBetween (fun (r2 : Int32) (G1 : GS) =>
  if r2 = 0 then
    post 1 G1
  else
    vp_in 0 (ln 190) ∧
      if (G1.1 190 (0 : Int32).toNatClampNeg) = 5 then
      post 2 G1
    else
      post 0 G1) a1 0 9 G
set_option maxHeartbeats 4000000 in
set_option maxRecDepth 100000 in
theorem okX9_notVault (X : Cx) (l : Launch) (hfl : l.stackTraces = false) {post : Int32 → GS → Prop} {a1 : Int32} {G : GS}  (hw : wpX9_notVault post a1 G) : CT X l yX9_notVault cX9_notVault 2 (some FieldType.int) 2 0 0 [.ref (xa X 189), .int a1] G (Qi X post) := by
  refine mbegin (by decide) (Nat.le_of_ble_eq_true rfl) (fun p e s m below meth c hx hb hr hml hlk hown hE hz ls hl hP hD hS => ?_)
  have hl : lv_has ls 2 [(0, .ref (xa X 189)), (1, .int a1)] := hl
  have hown : s.vm.findClass "FlyTreasuryModel" = some m.cls := hown
  unfold wpX9_notVault at hw
  refine lv_iload_n hx hb dX9_notVault_0 rfl (lv_at hl 1 rfl) ?_
  refine lv_iconst (v := 0) hx hb dX9_notVault_1 (by decide) ?_
  refine lv_bipush (v := 9) hx hb dX9_notVault_2 (by decide) ?_
  refine call_i (run_S (cc := cX9_notVault) (As := [.int a1, .int 0, .int 9]) (rest := []) hx hb hml hown hE hz (okX9_isBetween X l hfl  hw) qw_1633 qw_1634 qw_86 qw_1635 (myX9_isBetween).2 ⟨Nat.le_of_ble_eq_true rfl, Nat.le_of_ble_eq_true rfl⟩ hP hD hS rfl hl.1 rfl (Nat.le_of_ble_eq_true rfl) dX9_notVault_4 ⟨Nat.le_of_ble_eq_true rfl, Nat.le_of_ble_eq_true rfl⟩) hS (fun r2 G1 H locs hw hP hD hS => ?_)
  refine lv_if_ne (tgt := 12) hx hb dX9_notVault_7 (by decide) (fun c3 => ?_) (fun c3 => ?_)
  · replace hw := ite_f hw c3
    refine lv_aload_n hx hb dX9_notVault_12 rfl (lv_at hl 0 rfl) ?_
    refine gf_X9_1 hx hb hE hP hown rfl (hE.w qw_1571 rfl _) dX9_notVault_13 ?_
    refine lv_iconst (v := 0) hx hb dX9_notVault_16 (by decide) ?_
    obtain ⟨y4, hw⟩ := hw
    refine ald_2 hx hb hE hP rfl y4 dX9_notVault_17 ?_
    refine lv_iconst (v := 5) hx hb dX9_notVault_18 (by decide) ?_
    refine lv_icmp_ne (tgt := 26) hx hb dX9_notVault_19 (by decide) (fun c5 => ?_) (fun c5 => ?_)
    · replace hw := ite_f hw c5
      refine lv_iconst (v := 0) hx hb dX9_notVault_26 (by decide) ?_
      exact end_i hx hb hr hlk rfl hw hP hD hS dX9_notVault_27
    · replace hw := ite_t hw c5
      refine lv_iconst (v := 2) hx hb dX9_notVault_22 (by decide) ?_
      refine lv_goto (tgt := 27) hx hb dX9_notVault_23 (by decide) ?_
      exact end_i hx hb hr hlk rfl hw hP hD hS dX9_notVault_27
  · replace hw := ite_t hw c3
    refine lv_iconst (v := 1) hx hb dX9_notVault_10 (by decide) ?_
    exact end_i hx hb hr hlk rfl hw hP hD hS dX9_notVault_11
def wlX9_addsVault_19 (post : Int32 → GS → Prop) (a1 : Int32) : Nat → GS → Int32 → Int32 → Prop
  | 0, _, _, _ => False
  | n + 1, G, v2, v3 =>
    if 8 ≤ v3 then
  wpX9_puts (fun (G7 : GS) =>
    wpX9_puts (fun (G8 : GS) =>
      post v2 G8) v2 6 a1 G7) v2 5 1 G
else
  wpX9_puts (fun (G9 : GS) =>
    ∀ z10 : Int32, z10 = v3 + 1 →
      wlX9_addsVault_19 post a1 n G9 v2 z10) v2 v3 0 G
def wpX9_addsVault (post : Int32 → GS → Prop) (a1 : Int32) (G : GS) : Prop :=
  vp_in 0 (ln 190) ∧
  ∀ z2 : Int32, z2 = (G.1 190 (0 : Int32).toNatClampNeg) →
  vp_in 0 (ln 190) ∧
  vp_in 0 (ln 190) ∧ ∀ G5 : GS, G5 = gI G 190 ((0 : Int32).toNatClampNeg) ((G.1 190 (0 : Int32).toNatClampNeg) + 1) →
  ∃ nn, wlX9_addsVault_19 post a1 nn G5 z2 0
set_option maxHeartbeats 4000000 in
set_option maxRecDepth 100000 in
theorem okX9_addsVault (X : Cx) (l : Launch) (hfl : l.stackTraces = false) {post : Int32 → GS → Prop} {a1 : Int32} {G : GS}  (hw : wpX9_addsVault post a1 G) : CT X l yX9_addsVault cX9_addsVault 4 (some FieldType.int) 2 0 0 [.ref (xa X 189), .int a1] G (Qi X post) := by
  refine mbegin (by decide) (Nat.le_of_ble_eq_true rfl) (fun p e s m below meth c hx hb hr hml hlk hown hE hz ls hl hP hD hS => ?_)
  have hl : lv_has ls 4 [(0, .ref (xa X 189)), (1, .int a1)] := hl
  have hown : s.vm.findClass "FlyTreasuryModel" = some m.cls := hown
  have L19 : ∀ (n19 : Nat) (G : GS) (v2 : Int32) (v3 : Int32) (H : Heap) (locs : List Loc) (ls : Array Slot), wlX9_addsVault_19 post a1 n19 G v2 v3 → va_P (xD X) vwCl (pool X G) H → va_D (xA X) (pool X G) → va_S (xA X) s.heap H locs → lv_has ls 4 [(0, .ref (xa X 189)), (1, .int a1), (2, .int v2), (3, .int v3)] → W p l e (rmL 2 0 0) s m [.ref (xa X 189), .int a1].toArray below meth c H locs 0 0 (MQ below (Qi X post) [.ref (xa X 189), .int a1].toArray s 0 0 (xA X)) (F0 m 19 ls []) := by
    intro n19
    induction n19 with
    | zero => intro G v2 v3  H locs ls hw; exact hw.elim
    | succ n19 ih19 =>
      intro G v2 v3  H locs ls hw hP hD hS hl
      rw [wlX9_addsVault_19] at hw
      refine lv_iload_n hx hb dX9_addsVault_19 rfl (lv_at hl 3 rfl) ?_
      refine lv_bipush (v := 8) hx hb dX9_addsVault_20 (by decide) ?_
      refine lv_icmp_ge (tgt := 38) hx hb dX9_addsVault_22 (by decide) (fun c11 => ?_) (fun c11 => ?_)
      · replace hw := ite_t hw c11
        refine lv_aload_n hx hb dX9_addsVault_38 rfl (lv_at hl 0 rfl) ?_
        refine lv_iload_n hx hb dX9_addsVault_39 rfl (lv_at hl 2 rfl) ?_
        refine lv_iconst (v := 5) hx hb dX9_addsVault_40 (by decide) ?_
        refine lv_iconst (v := 1) hx hb dX9_addsVault_41 (by decide) ?_
        refine call_v (run_V (cc := cX9_addsVault) (As := [.int v2, .int 5, .int 1]) (rest := []) hx hb hml hown hE hz (okX9_puts X l hfl  hw) qw_1656 qw_1658 qw_25 qw_86 qw_1659 (myX9_puts) ⟨Nat.le_of_ble_eq_true rfl, Nat.le_of_ble_eq_true rfl⟩ (rv_X9 hE hP rfl) hP hD hS rfl hl.1 rfl (Nat.le_of_ble_eq_true rfl) dX9_addsVault_42 ⟨Nat.le_of_ble_eq_true rfl, Nat.le_of_ble_eq_true rfl⟩) hS (fun G12 H locs hw hP hD hS => ?_)
        refine lv_aload_n hx hb dX9_addsVault_45 rfl (lv_at hl 0 rfl) ?_
        refine lv_iload_n hx hb dX9_addsVault_46 rfl (lv_at hl 2 rfl) ?_
        refine lv_bipush (v := 6) hx hb dX9_addsVault_47 (by decide) ?_
        refine lv_iload_n hx hb dX9_addsVault_49 rfl (lv_at hl 1 rfl) ?_
        refine call_v (run_V (cc := cX9_addsVault) (As := [.int v2, .int 6, .int a1]) (rest := []) hx hb hml hown hE hz (okX9_puts X l hfl  hw) qw_1656 qw_1658 qw_25 qw_86 qw_1659 (myX9_puts) ⟨Nat.le_of_ble_eq_true rfl, Nat.le_of_ble_eq_true rfl⟩ (rv_X9 hE hP rfl) hP hD hS rfl hl.1 rfl (Nat.le_of_ble_eq_true rfl) dX9_addsVault_50 ⟨Nat.le_of_ble_eq_true rfl, Nat.le_of_ble_eq_true rfl⟩) hS (fun G13 H locs hw hP hD hS => ?_)
        refine lv_iload_n hx hb dX9_addsVault_53 rfl (lv_at hl 2 rfl) ?_
        exact end_i hx hb hr hlk rfl hw hP hD hS dX9_addsVault_54
      · replace hw := ite_f hw c11
        refine lv_aload_n hx hb dX9_addsVault_25 rfl (lv_at hl 0 rfl) ?_
        refine lv_iload_n hx hb dX9_addsVault_26 rfl (lv_at hl 2 rfl) ?_
        refine lv_iload_n hx hb dX9_addsVault_27 rfl (lv_at hl 3 rfl) ?_
        refine lv_iconst (v := 0) hx hb dX9_addsVault_28 (by decide) ?_
        refine call_v (run_V (cc := cX9_addsVault) (As := [.int v2, .int v3, .int 0]) (rest := []) hx hb hml hown hE hz (okX9_puts X l hfl  hw) qw_1656 qw_1658 qw_25 qw_86 qw_1659 (myX9_puts) ⟨Nat.le_of_ble_eq_true rfl, Nat.le_of_ble_eq_true rfl⟩ (rv_X9 hE hP rfl) hP hD hS rfl hl.1 rfl (Nat.le_of_ble_eq_true rfl) dX9_addsVault_29 ⟨Nat.le_of_ble_eq_true rfl, Nat.le_of_ble_eq_true rfl⟩) hS (fun G14 H locs hw hP hD hS => ?_)
        obtain ⟨z15, ez15⟩ : ∃ y : Int32, y = v3 + 1 := ⟨_, rfl⟩
        replace hw := hw z15 ez15
        refine lv_iinc (v := z15) (lv' := [(3, .int z15), (0, .ref (xa X 189)), (1, .int a1), (2, .int v2)]) hx hb dX9_addsVault_32 hl (k := 3) rfl (by rw [ez15]; rfl) (by decide) rfl (fun ls hl => ?_)
        refine lv_goto (tgt := 19) hx hb dX9_addsVault_35 (by decide) ?_
        exact ih19 G14 v2 z15  _ _ _ hw hP hD hS (lv_sub hl [1, 2, 3, 0] rfl)
  unfold wpX9_addsVault at hw
  refine lv_aload_n hx hb dX9_addsVault_0 rfl (lv_at hl 0 rfl) ?_
  refine gf_X9_1 hx hb hE hP hown rfl (hE.w qw_1571 rfl _) dX9_addsVault_1 ?_
  refine lv_iconst (v := 0) hx hb dX9_addsVault_4 (by decide) ?_
  obtain ⟨y1, hw⟩ := hw
  refine ald_2 hx hb hE hP rfl y1 dX9_addsVault_5 ?_
  refine lv_topi (fun z2 ez2 => ?_)
  replace hw := hw z2 ez2
  refine lv_istore_n (lv' := [(2, .int z2), (0, .ref (xa X 189)), (1, .int a1)]) hx hb dX9_addsVault_6 rfl hl (by decide) rfl (fun ls hl => ?_)
  refine lv_aload_n hx hb dX9_addsVault_7 rfl (lv_at hl 1 rfl) ?_
  refine gf_X9_1 hx hb hE hP hown rfl (hE.w qw_1571 rfl _) dX9_addsVault_8 ?_
  refine lv_iconst (v := 0) hx hb dX9_addsVault_11 (by decide) ?_
  refine lv_dup2_11 hx hb dX9_addsVault_12 rfl rfl ?_
  obtain ⟨y3, hw⟩ := hw
  refine ald_2 hx hb hE hP rfl y3 dX9_addsVault_13 ?_
  refine lv_iconst (v := 1) hx hb dX9_addsVault_14 (by decide) ?_
  refine lv_iadd hx hb dX9_addsVault_15 ?_
  obtain ⟨y4, hw⟩ := hw
  refine ast_2 hx hb hE hP hD hS rfl y4 dX9_addsVault_16 (fun G5 H locs eG5 hP hD hS => ?_)
  replace hw := hw G5 eG5
  refine lv_iconst (v := 0) hx hb dX9_addsVault_17 (by decide) ?_
  refine lv_istore_n (lv' := [(3, .int 0), (2, .int z2), (0, .ref (xa X 189)), (1, .int a1)]) hx hb dX9_addsVault_18 rfl hl (by decide) rfl (fun ls hl => ?_)
  obtain ⟨nn, hw⟩ := hw
  exact L19 nn G5 z2 0  _ _ _ hw hP hD hS (lv_sub hl [2, 3, 1, 0] rfl)
