def wpX3_kindRanksBefore (post : Int32 → GS → Prop) (q0 : Nat) (a1 : Int32) (a2 : Int32) (G : GS) : Prop :=
  wpX3_valueOfKind (fun (r2 : Int32) (G1 : GS) =>
  wpX3_valueOfKind (fun (r4 : Int32) (G3 : GS) =>
    if r4 < r2 then
      post 1 G3
    else
      if r2 = r4 then
        if a2 ≤ a1 then
          post 0 G3
        else
          post 1 G3
      else
        post 0 G3) q0 a2 G1) q0 a1 G
set_option maxHeartbeats 4000000 in
set_option maxRecDepth 100000 in
theorem okX3_kindRanksBefore (X : Cx) (l : Launch) (hfl : l.stackTraces = false) {post : Int32 → GS → Prop} {q0 : Nat} {a1 : Int32} {a2 : Int32} {G : GS} (h0 : kd q0 = 0) (hw : wpX3_kindRanksBefore post q0 a1 a2 G) : CT X l yX3_kindRanksBefore cX3_kindRanksBefore 5 (some FieldType.boolean) 3 0 0 [.ref (xa X q0), .int a1, .int a2] G (Qi X post) := by
  refine mbegin (by decide) (Nat.le_of_ble_eq_true rfl) (fun p e s m below meth c hx hb hr hml hlk hown hE hz ls hl hP hD hS => ?_)
  have hl : lv_has ls 5 [(0, .ref (xa X q0)), (1, .int a1), (2, .int a2)] := hl
  have hown : s.vm.findClass "FlyTreasury$Ledger" = some m.cls := hown
  unfold wpX3_kindRanksBefore at hw
  refine lv_aload_n hx hb dX3_kindRanksBefore_0 rfl (lv_at hl 0 rfl) ?_
  refine lv_iload_n hx hb dX3_kindRanksBefore_1 rfl (lv_at hl 1 rfl) ?_
  refine call_i (run_V (cc := cX3_kindRanksBefore) (As := [.int a1]) (rest := []) hx hb hml hown hE hz (okX3_valueOfKind X l hfl h0 hw) qw_370 qw_372 qw_0 qw_75 qw_373 (myX3_valueOfKind) ⟨Nat.le_of_ble_eq_true rfl, Nat.le_of_ble_eq_true rfl⟩ (rv_X3 hE hP h0) hP hD hS rfl hl.1 rfl (Nat.le_of_ble_eq_true rfl) dX3_kindRanksBefore_2 ⟨Nat.le_of_ble_eq_true rfl, Nat.le_of_ble_eq_true rfl⟩) hS (fun r2 G1 H locs hw hP hD hS => ?_)
  refine lv_istore_n (lv' := [(3, .int r2), (0, .ref (xa X q0)), (1, .int a1), (2, .int a2)]) hx hb dX3_kindRanksBefore_5 rfl hl (by decide) rfl (fun ls hl => ?_)
  refine lv_aload_n hx hb dX3_kindRanksBefore_6 rfl (lv_at hl 1 rfl) ?_
  refine lv_iload_n hx hb dX3_kindRanksBefore_7 rfl (lv_at hl 3 rfl) ?_
  refine call_i (run_V (cc := cX3_kindRanksBefore) (As := [.int a2]) (rest := []) hx hb hml hown hE hz (okX3_valueOfKind X l hfl h0 hw) qw_370 qw_372 qw_0 qw_75 qw_373 (myX3_valueOfKind) ⟨Nat.le_of_ble_eq_true rfl, Nat.le_of_ble_eq_true rfl⟩ (rv_X3 hE hP h0) hP hD hS rfl hl.1 rfl (Nat.le_of_ble_eq_true rfl) dX3_kindRanksBefore_8 ⟨Nat.le_of_ble_eq_true rfl, Nat.le_of_ble_eq_true rfl⟩) hS (fun r4 G3 H locs hw hP hD hS => ?_)
  refine lv_istore (lv' := [(4, .int r4), (3, .int r2), (0, .ref (xa X q0)), (1, .int a1), (2, .int a2)]) hx hb dX3_kindRanksBefore_11 hl (by decide) rfl (fun ls hl => ?_)
  refine lv_iload_n hx hb dX3_kindRanksBefore_13 rfl (lv_at hl 1 rfl) ?_
  refine lv_iload hx hb dX3_kindRanksBefore_14 (lv_at hl 0 rfl) ?_
  refine lv_icmp_gt (tgt := 30) hx hb dX3_kindRanksBefore_16 (by decide) (fun c5 => ?_) (fun c5 => ?_)
  · replace hw := ite_t hw c5
    refine lv_iconst (v := 1) hx hb dX3_kindRanksBefore_30 (by decide) ?_
    refine lv_goto (tgt := 35) hx hb dX3_kindRanksBefore_31 (by decide) ?_
    exact end_i hx hb hr hlk (by decide) hw hP hD hS dX3_kindRanksBefore_35
  · replace hw := ite_f hw c5
    refine lv_iload_n hx hb dX3_kindRanksBefore_19 rfl (lv_at hl 1 rfl) ?_
    refine lv_iload hx hb dX3_kindRanksBefore_20 (lv_at hl 0 rfl) ?_
    refine lv_icmp_ne (tgt := 34) hx hb dX3_kindRanksBefore_22 (by decide) (fun c6 => ?_) (fun c6 => ?_)
    · replace hw := ite_f hw c6
      refine lv_iconst (v := 0) hx hb dX3_kindRanksBefore_34 (by decide) ?_
      exact end_i hx hb hr hlk (by decide) hw hP hD hS dX3_kindRanksBefore_35
    · replace hw := ite_t hw c6
      refine lv_iload_n hx hb dX3_kindRanksBefore_25 rfl (lv_at hl 3 rfl) ?_
      refine lv_iload_n hx hb dX3_kindRanksBefore_26 rfl (lv_at hl 4 rfl) ?_
      refine lv_icmp_ge (tgt := 34) hx hb dX3_kindRanksBefore_27 (by decide) (fun c7 => ?_) (fun c7 => ?_)
      · replace hw := ite_t hw c7
        refine lv_iconst (v := 0) hx hb dX3_kindRanksBefore_34 (by decide) ?_
        exact end_i hx hb hr hlk (by decide) hw hP hD hS dX3_kindRanksBefore_35
      · replace hw := ite_f hw c7
        refine lv_iconst (v := 1) hx hb dX3_kindRanksBefore_30 (by decide) ?_
        refine lv_goto (tgt := 35) hx hb dX3_kindRanksBefore_31 (by decide) ?_
        exact end_i hx hb hr hlk (by decide) hw hP hD hS dX3_kindRanksBefore_35
def wlX3_kindAtRank_12 (post : Int32 → GS → Prop) (q0 : Nat) (a1 : Int32) (K2 : GS → Int32 → Prop) : Nat → GS → Int32 → Int32 → Int32 → Prop
  | 0, _, _, _, _ => False
  | n + 1, G, v2, v3, v4 =>
    if 3 ≤ v4 then
  if v3 = a1 then
    post v2 G
  else
    ∀ z4 : Int32, z4 = v2 + 1 →
      K2 G z4
else
  wpX3_kindRanksBefore (fun (r6 : Int32) (G5 : GS) =>
    if r6 = 0 then
      ∀ z8 : Int32, z8 = (v3 + 0) →
        ∀ z9 : Int32, z9 = v4 + 1 →
        wlX3_kindAtRank_12 post q0 a1 K2 n G5 v2 z8 z9
    else
      ∀ z10 : Int32, z10 = (v3 + 1) →
        ∀ z11 : Int32, z11 = v4 + 1 →
        wlX3_kindAtRank_12 post q0 a1 K2 n G5 v2 z10 z11) q0 v4 v2 G
def wlX3_kindAtRank_2 (post : Int32 → GS → Prop) (q0 : Nat) (a1 : Int32) : Nat → GS → Int32 → Prop
  | 0, _, _ => False
  | n + 1, G, v2 =>
    if 3 ≤ v2 then
  post (-1) G
else
  ∃ nn, wlX3_kindAtRank_12 post q0 a1 (fun (G : GS) (v2 : Int32) => wlX3_kindAtRank_2 post q0 a1 n G v2) nn G v2 0 0
def wpX3_kindAtRank (post : Int32 → GS → Prop) (q0 : Nat) (a1 : Int32) (G : GS) : Prop :=
  ∃ nn, wlX3_kindAtRank_2 post q0 a1 nn G 0
set_option maxHeartbeats 4000000 in
set_option maxRecDepth 100000 in
theorem okX3_kindAtRank (X : Cx) (l : Launch) (hfl : l.stackTraces = false) {post : Int32 → GS → Prop} {q0 : Nat} {a1 : Int32} {G : GS} (h0 : kd q0 = 0) (hw : wpX3_kindAtRank post q0 a1 G) : CT X l yX3_kindAtRank cX3_kindAtRank 5 (some FieldType.int) 4 0 0 [.ref (xa X q0), .int a1] G (Qi X post) := by
  refine mbegin (by decide) (Nat.le_of_ble_eq_true rfl) (fun p e s m below meth c hx hb hr hml hlk hown hE hz ls hl hP hD hS => ?_)
  have hl : lv_has ls 5 [(0, .ref (xa X q0)), (1, .int a1)] := hl
  have hown : s.vm.findClass "FlyTreasury$Ledger" = some m.cls := hown
  have L2 : ∀ (n2 : Nat) (G : GS) (v2 : Int32) (H : Heap) (locs : List Loc) (ls : Array Slot), wlX3_kindAtRank_2 post q0 a1 n2 G v2 → va_P (xD X) vwCl (pool X G) H → va_D (xA X) (pool X G) → va_S (xA X) s.heap H locs → lv_has ls 5 [(0, .ref (xa X q0)), (1, .int a1), (2, .int v2)] → W p l e (rmL 4 0 0) s m [.ref (xa X q0), .int a1].toArray below meth c H locs 0 0 (MQ below (Qi X post) [.ref (xa X q0), .int a1].toArray s 0 0 (xA X)) (F0 m 2 ls []) := by
    intro n2
    induction n2 with
    | zero => intro G v2  H locs ls hw; exact hw.elim
    | succ n2 ih2 =>
      have L12 : ∀ (n12 : Nat) (G : GS) (v2 : Int32) (v3 : Int32) (v4 : Int32) (H : Heap) (locs : List Loc) (ls : Array Slot), wlX3_kindAtRank_12 post q0 a1 (fun (G : GS) (v2 : Int32) => wlX3_kindAtRank_2 post q0 a1 n2 G v2) n12 G v2 v3 v4 → va_P (xD X) vwCl (pool X G) H → va_D (xA X) (pool X G) → va_S (xA X) s.heap H locs → lv_has ls 5 [(0, .ref (xa X q0)), (1, .int a1), (2, .int v2), (3, .int v3), (4, .int v4)] → W p l e (rmL 4 0 0) s m [.ref (xa X q0), .int a1].toArray below meth c H locs 0 0 (MQ below (Qi X post) [.ref (xa X q0), .int a1].toArray s 0 0 (xA X)) (F0 m 12 ls []) := by
        intro n12
        induction n12 with
        | zero => intro G v2 v3 v4  H locs ls hw; exact hw.elim
        | succ n12 ih12 =>
          intro G v2 v3 v4  H locs ls hw hP hD hS hl
          rw [wlX3_kindAtRank_12] at hw
          refine lv_iload hx hb dX3_kindAtRank_12 (lv_at hl 4 rfl) ?_
          refine lv_iconst (v := 3) hx hb dX3_kindAtRank_14 (by decide) ?_
          refine lv_icmp_ge (tgt := 42) hx hb dX3_kindAtRank_15 (by decide) (fun c12 => ?_) (fun c12 => ?_)
          · replace hw := ite_t hw c12
            refine lv_iload_n hx hb dX3_kindAtRank_42 rfl (lv_at hl 3 rfl) ?_
            refine lv_iload_n hx hb dX3_kindAtRank_43 rfl (lv_at hl 1 rfl) ?_
            refine lv_icmp_ne (tgt := 49) hx hb dX3_kindAtRank_44 (by decide) (fun c13 => ?_) (fun c13 => ?_)
            · replace hw := ite_f hw c13
              obtain ⟨z14, ez14⟩ : ∃ y : Int32, y = v2 + 1 := ⟨_, rfl⟩
              replace hw := hw z14 ez14
              refine lv_iinc (v := z14) (lv' := [(2, .int z14), (0, .ref (xa X q0)), (1, .int a1), (3, .int v3), (4, .int v4)]) hx hb dX3_kindAtRank_49 hl (k := 2) rfl (by rw [ez14]; rfl) (by decide) rfl (fun ls hl => ?_)
              refine lv_goto (tgt := 2) hx hb dX3_kindAtRank_52 (by decide) ?_
              exact ih2 G z14  _ _ _ hw hP hD hS (lv_sub hl [1, 2, 0] rfl)
            · replace hw := ite_t hw c13
              refine lv_iload_n hx hb dX3_kindAtRank_47 rfl (lv_at hl 2 rfl) ?_
              exact end_i hx hb hr hlk rfl hw hP hD hS dX3_kindAtRank_48
          · replace hw := ite_f hw c12
            refine lv_iload_n hx hb dX3_kindAtRank_18 rfl (lv_at hl 3 rfl) ?_
            refine lv_aload_n hx hb dX3_kindAtRank_19 rfl (lv_at hl 0 rfl) ?_
            refine lv_iload hx hb dX3_kindAtRank_20 (lv_at hl 4 rfl) ?_
            refine lv_iload_n hx hb dX3_kindAtRank_22 rfl (lv_at hl 2 rfl) ?_
            refine call_i (run_V (cc := cX3_kindAtRank) (As := [.int v4, .int v2]) (rest := [.int v3]) hx hb hml hown hE hz (okX3_kindRanksBefore X l hfl h0 hw) qw_1371 qw_1373 qw_5 qw_75 qw_1374 (myX3_kindRanksBefore) ⟨Nat.le_of_ble_eq_true rfl, Nat.le_of_ble_eq_true rfl⟩ (rv_X3 hE hP h0) hP hD hS rfl hl.1 rfl (Nat.le_of_ble_eq_true rfl) dX3_kindAtRank_23 ⟨Nat.le_of_ble_eq_true rfl, Nat.le_of_ble_eq_true rfl⟩) hS (fun r16 G15 H locs hw hP hD hS => ?_)
            refine lv_if_eq (tgt := 33) hx hb dX3_kindAtRank_26 (by decide) (fun c17 => ?_) (fun c17 => ?_)
            · replace hw := ite_t hw c17
              refine lv_iconst (v := 0) hx hb dX3_kindAtRank_33 (by decide) ?_
              refine lv_iadd hx hb dX3_kindAtRank_34 ?_
              refine lv_topi (fun z18 ez18 => ?_)
              replace hw := hw z18 ez18
              refine lv_istore_n (lv' := [(3, .int z18), (0, .ref (xa X q0)), (1, .int a1), (2, .int v2), (4, .int v4)]) hx hb dX3_kindAtRank_35 rfl hl (by decide) rfl (fun ls hl => ?_)
              obtain ⟨z19, ez19⟩ : ∃ y : Int32, y = v4 + 1 := ⟨_, rfl⟩
              replace hw := hw z19 ez19
              refine lv_iinc (v := z19) (lv' := [(4, .int z19), (3, .int z18), (0, .ref (xa X q0)), (1, .int a1), (2, .int v2)]) hx hb dX3_kindAtRank_36 hl (k := 4) rfl (by rw [ez19]; rfl) (by decide) rfl (fun ls hl => ?_)
              refine lv_goto (tgt := 12) hx hb dX3_kindAtRank_39 (by decide) ?_
              exact ih12 G15 v2 z18 z19  _ _ _ hw hP hD hS (lv_sub hl [2, 3, 4, 1, 0] rfl)
            · replace hw := ite_f hw c17
              refine lv_iconst (v := 1) hx hb dX3_kindAtRank_29 (by decide) ?_
              refine lv_goto (tgt := 34) hx hb dX3_kindAtRank_30 (by decide) ?_
              refine lv_iadd hx hb dX3_kindAtRank_34 ?_
              refine lv_topi (fun z20 ez20 => ?_)
              replace hw := hw z20 ez20
              refine lv_istore_n (lv' := [(3, .int z20), (0, .ref (xa X q0)), (1, .int a1), (2, .int v2), (4, .int v4)]) hx hb dX3_kindAtRank_35 rfl hl (by decide) rfl (fun ls hl => ?_)
              obtain ⟨z21, ez21⟩ : ∃ y : Int32, y = v4 + 1 := ⟨_, rfl⟩
              replace hw := hw z21 ez21
              refine lv_iinc (v := z21) (lv' := [(4, .int z21), (3, .int z20), (0, .ref (xa X q0)), (1, .int a1), (2, .int v2)]) hx hb dX3_kindAtRank_36 hl (k := 4) rfl (by rw [ez21]; rfl) (by decide) rfl (fun ls hl => ?_)
              refine lv_goto (tgt := 12) hx hb dX3_kindAtRank_39 (by decide) ?_
              exact ih12 G15 v2 z20 z21  _ _ _ hw hP hD hS (lv_sub hl [2, 3, 4, 1, 0] rfl)
      intro G v2  H locs ls hw hP hD hS hl
      rw [wlX3_kindAtRank_2] at hw
      refine lv_iload_n hx hb dX3_kindAtRank_2 rfl (lv_at hl 2 rfl) ?_
      refine lv_iconst (v := 3) hx hb dX3_kindAtRank_3 (by decide) ?_
      refine lv_icmp_ge (tgt := 55) hx hb dX3_kindAtRank_4 (by decide) (fun c22 => ?_) (fun c22 => ?_)
      · replace hw := ite_t hw c22
        refine lv_iconst (v := -1) hx hb dX3_kindAtRank_55 (by decide) ?_
        exact end_i hx hb hr hlk rfl hw hP hD hS dX3_kindAtRank_56
      · replace hw := ite_f hw c22
        refine lv_iconst (v := 0) hx hb dX3_kindAtRank_7 (by decide) ?_
        refine lv_istore_n (lv' := [(3, .int 0), (0, .ref (xa X q0)), (1, .int a1), (2, .int v2)]) hx hb dX3_kindAtRank_8 rfl hl (by decide) rfl (fun ls hl => ?_)
        refine lv_iconst (v := 0) hx hb dX3_kindAtRank_9 (by decide) ?_
        refine lv_istore (lv' := [(4, .int 0), (3, .int 0), (0, .ref (xa X q0)), (1, .int a1), (2, .int v2)]) hx hb dX3_kindAtRank_10 hl (by decide) rfl (fun ls hl => ?_)
        obtain ⟨nn, hw⟩ := hw
        exact L12 nn G v2 0 0  _ _ _ hw hP hD hS (lv_sub hl [2, 3, 4, 1, 0] rfl)
  unfold wpX3_kindAtRank at hw
  refine lv_iconst (v := 0) hx hb dX3_kindAtRank_0 (by decide) ?_
  refine lv_istore_n (lv' := [(2, .int 0), (0, .ref (xa X q0)), (1, .int a1)]) hx hb dX3_kindAtRank_1 rfl hl (by decide) rfl (fun ls hl => ?_)
  obtain ⟨nn, hw⟩ := hw
  exact L2 nn G 0  _ _ _ hw hP hD hS (lv_sub hl [1, 2, 0] rfl)
def wlX3_fliesAgree_2 (post : Int32 → GS → Prop) (q0 : Nat) : Nat → GS → Int32 → Prop
  | 0, _, _ => False
  | n + 1, G, v1 =>
    if 3 ≤ v1 then
  post 1 G
else
  wpX3_fliesByVaults (fun (r3 : Int32) (G2 : GS) =>
    wpX3_fliesByAccounts (fun (r5 : Int32) (G4 : GS) =>
      if r3 = r5 then
        ∀ z7 : Int32, z7 = v1 + 1 →
          wlX3_fliesAgree_2 post q0 n G4 z7
      else
        post 0 G4) q0 v1 G2) q0 v1 G
def wpX3_fliesAgree (post : Int32 → GS → Prop) (q0 : Nat) (G : GS) : Prop :=
  ∃ nn, wlX3_fliesAgree_2 post q0 nn G 0
set_option maxHeartbeats 4000000 in
set_option maxRecDepth 100000 in
theorem okX3_fliesAgree (X : Cx) (l : Launch) (hfl : l.stackTraces = false) {post : Int32 → GS → Prop} {q0 : Nat} {G : GS} (h0 : kd q0 = 0) (hw : wpX3_fliesAgree post q0 G) : CT X l yX3_fliesAgree cX3_fliesAgree 2 (some FieldType.boolean) 2 0 0 [.ref (xa X q0)] G (Qi X post) := by
  refine mbegin (by decide) (Nat.le_of_ble_eq_true rfl) (fun p e s m below meth c hx hb hr hml hlk hown hE hz ls hl hP hD hS => ?_)
  have hl : lv_has ls 2 [(0, .ref (xa X q0))] := hl
  have hown : s.vm.findClass "FlyTreasury$Ledger" = some m.cls := hown
  have L2 : ∀ (n2 : Nat) (G : GS) (v1 : Int32) (H : Heap) (locs : List Loc) (ls : Array Slot), wlX3_fliesAgree_2 post q0 n2 G v1 → va_P (xD X) vwCl (pool X G) H → va_D (xA X) (pool X G) → va_S (xA X) s.heap H locs → lv_has ls 2 [(0, .ref (xa X q0)), (1, .int v1)] → W p l e (rmL 2 0 0) s m [.ref (xa X q0)].toArray below meth c H locs 0 0 (MQ below (Qi X post) [.ref (xa X q0)].toArray s 0 0 (xA X)) (F0 m 2 ls []) := by
    intro n2
    induction n2 with
    | zero => intro G v1  H locs ls hw; exact hw.elim
    | succ n2 ih2 =>
      intro G v1  H locs ls hw hP hD hS hl
      rw [wlX3_fliesAgree_2] at hw
      refine lv_iload_n hx hb dX3_fliesAgree_2 rfl (lv_at hl 1 rfl) ?_
      refine lv_iconst (v := 3) hx hb dX3_fliesAgree_3 (by decide) ?_
      refine lv_icmp_ge (tgt := 28) hx hb dX3_fliesAgree_4 (by decide) (fun c8 => ?_) (fun c8 => ?_)
      · replace hw := ite_t hw c8
        refine lv_iconst (v := 1) hx hb dX3_fliesAgree_28 (by decide) ?_
        exact end_i hx hb hr hlk (by decide) hw hP hD hS dX3_fliesAgree_29
      · replace hw := ite_f hw c8
        refine lv_aload_n hx hb dX3_fliesAgree_7 rfl (lv_at hl 0 rfl) ?_
        refine lv_iload_n hx hb dX3_fliesAgree_8 rfl (lv_at hl 1 rfl) ?_
        refine call_i (run_V (cc := cX3_fliesAgree) (As := [.int v1]) (rest := []) hx hb hml hown hE hz (okX3_fliesByVaults X l hfl h0 hw) qw_374 qw_375 qw_376 qw_75 qw_377 (myX3_fliesByVaults) ⟨Nat.le_of_ble_eq_true rfl, Nat.le_of_ble_eq_true rfl⟩ (rv_X3 hE hP h0) hP hD hS rfl hl.1 rfl (Nat.le_of_ble_eq_true rfl) dX3_fliesAgree_9 ⟨Nat.le_of_ble_eq_true rfl, Nat.le_of_ble_eq_true rfl⟩) hS (fun r10 G9 H locs hw hP hD hS => ?_)
        refine lv_aload_n hx hb dX3_fliesAgree_12 rfl (lv_at hl 0 rfl) ?_
        refine lv_iload_n hx hb dX3_fliesAgree_13 rfl (lv_at hl 1 rfl) ?_
        refine call_i (run_V (cc := cX3_fliesAgree) (As := [.int v1]) (rest := [.int r10]) hx hb hml hown hE hz (okX3_fliesByAccounts X l hfl h0 hw) qw_410 qw_411 qw_412 qw_75 qw_413 (myX3_fliesByAccounts) ⟨Nat.le_of_ble_eq_true rfl, Nat.le_of_ble_eq_true rfl⟩ (rv_X3 hE hP h0) hP hD hS rfl hl.1 rfl (Nat.le_of_ble_eq_true rfl) dX3_fliesAgree_14 ⟨Nat.le_of_ble_eq_true rfl, Nat.le_of_ble_eq_true rfl⟩) hS (fun r12 G11 H locs hw hP hD hS => ?_)
        refine lv_icmp_eq (tgt := 22) hx hb dX3_fliesAgree_17 (by decide) (fun c13 => ?_) (fun c13 => ?_)
        · replace hw := ite_t hw c13
          obtain ⟨z14, ez14⟩ : ∃ y : Int32, y = v1 + 1 := ⟨_, rfl⟩
          replace hw := hw z14 ez14
          refine lv_iinc (v := z14) (lv' := [(1, .int z14), (0, .ref (xa X q0))]) hx hb dX3_fliesAgree_22 hl (k := 1) rfl (by rw [ez14]; rfl) (by decide) rfl (fun ls hl => ?_)
          refine lv_goto (tgt := 2) hx hb dX3_fliesAgree_25 (by decide) ?_
          exact ih2 G11 z14  _ _ _ hw hP hD hS (lv_sub hl [1, 0] rfl)
        · replace hw := ite_f hw c13
          refine lv_iconst (v := 0) hx hb dX3_fliesAgree_20 (by decide) ?_
          exact end_i hx hb hr hlk (by decide) hw hP hD hS dX3_fliesAgree_21
  unfold wpX3_fliesAgree at hw
  refine lv_iconst (v := 0) hx hb dX3_fliesAgree_0 (by decide) ?_
  refine lv_istore_n (lv' := [(1, .int 0), (0, .ref (xa X q0))]) hx hb dX3_fliesAgree_1 rfl hl (by decide) rfl (fun ls hl => ?_)
  obtain ⟨nn, hw⟩ := hw
  exact L2 nn G 0  _ _ _ hw hP hD hS (lv_sub hl [1, 0] rfl)
def wpX3_valuesAgree (post : Int32 → GS → Prop) (q0 : Nat) (G : GS) : Prop :=
  wpX3_valueByVaults (fun (r2 : Int32) (G1 : GS) =>
  wpX3_valueByKinds (fun (r4 : Int32) (G3 : GS) =>
    if r2 = r4 then
      post 1 G3
    else
      post 0 G3) q0 G1) q0 G
set_option maxHeartbeats 4000000 in
set_option maxRecDepth 100000 in
theorem okX3_valuesAgree (X : Cx) (l : Launch) (hfl : l.stackTraces = false) {post : Int32 → GS → Prop} {q0 : Nat} {G : GS} (h0 : kd q0 = 0) (hw : wpX3_valuesAgree post q0 G) : CT X l yX3_valuesAgree cX3_valuesAgree 1 (some FieldType.boolean) 4 0 0 [.ref (xa X q0)] G (Qi X post) := by
  refine mbegin (by decide) (Nat.le_of_ble_eq_true rfl) (fun p e s m below meth c hx hb hr hml hlk hown hE hz ls hl hP hD hS => ?_)
  have hl : lv_has ls 1 [(0, .ref (xa X q0))] := hl
  have hown : s.vm.findClass "FlyTreasury$Ledger" = some m.cls := hown
  unfold wpX3_valuesAgree at hw
  refine lv_aload_n hx hb dX3_valuesAgree_0 rfl (lv_at hl 0 rfl) ?_
  refine call_i (run_V (cc := cX3_valuesAgree) (As := []) (rest := []) hx hb hml hown hE hz (okX3_valueByVaults X l hfl h0 hw) qw_418 qw_355 qw_356 qw_75 qw_357 (myX3_valueByVaults) ⟨Nat.le_of_ble_eq_true rfl, Nat.le_of_ble_eq_true rfl⟩ (rv_X3 hE hP h0) hP hD hS rfl hl.1 rfl (Nat.le_of_ble_eq_true rfl) dX3_valuesAgree_1 ⟨Nat.le_of_ble_eq_true rfl, Nat.le_of_ble_eq_true rfl⟩) hS (fun r2 G1 H locs hw hP hD hS => ?_)
  refine lv_aload_n hx hb dX3_valuesAgree_4 rfl (lv_at hl 0 rfl) ?_
  refine call_i (run_V (cc := cX3_valuesAgree) (As := []) (rest := [.int r2]) hx hb hml hown hE hz (okX3_valueByKinds X l hfl h0 hw) qw_419 qw_367 qw_368 qw_75 qw_369 (myX3_valueByKinds) ⟨Nat.le_of_ble_eq_true rfl, Nat.le_of_ble_eq_true rfl⟩ (rv_X3 hE hP h0) hP hD hS rfl hl.1 rfl (Nat.le_of_ble_eq_true rfl) dX3_valuesAgree_5 ⟨Nat.le_of_ble_eq_true rfl, Nat.le_of_ble_eq_true rfl⟩) hS (fun r4 G3 H locs hw hP hD hS => ?_)
  refine lv_icmp_ne (tgt := 15) hx hb dX3_valuesAgree_8 (by decide) (fun c5 => ?_) (fun c5 => ?_)
  · replace hw := ite_f hw c5
    refine lv_iconst (v := 0) hx hb dX3_valuesAgree_15 (by decide) ?_
    exact end_i hx hb hr hlk (by decide) hw hP hD hS dX3_valuesAgree_16
  · replace hw := ite_t hw c5
    refine lv_iconst (v := 1) hx hb dX3_valuesAgree_11 (by decide) ?_
    refine lv_goto (tgt := 16) hx hb dX3_valuesAgree_12 (by decide) ?_
    exact end_i hx hb hr hlk (by decide) hw hP hD hS dX3_valuesAgree_16
def wlX3_predictionsAgree_2 (post : Int32 → GS → Prop) (q0 : Nat) : Nat → GS → Int32 → Prop
  | 0, _, _ => False
  | n + 1, G, v1 =>
    if 5 ≤ v1 then
  post 1 G
else
  vp_in v1 5 ∧
    wpX7_daysBySubtraction (fun (r4 : Int32) (G3 : GS) =>
    vp_in v1 5 ∧
      wpX7_daysByCounting (fun (r7 : Int32) (G6 : GS) =>
      if r4 = r7 then
        ∀ z9 : Int32, z9 = v1 + 1 →
          wlX3_predictionsAgree_2 post q0 n G6 z9
      else
        post 0 G6) (q0 + 1 + 4 + v1.toNatClampNeg) (q0 + 2) G3) (q0 + 1 + 4 + v1.toNatClampNeg) (q0 + 2) G
def wpX3_predictionsAgree (post : Int32 → GS → Prop) (q0 : Nat) (G : GS) : Prop :=
  ∃ nn, wlX3_predictionsAgree_2 post q0 nn G 0
set_option maxHeartbeats 4000000 in
set_option maxRecDepth 100000 in
theorem okX3_predictionsAgree (X : Cx) (l : Launch) (hfl : l.stackTraces = false) {post : Int32 → GS → Prop} {q0 : Nat} {G : GS} (h0 : kd q0 = 0) (hw : wpX3_predictionsAgree post q0 G) : CT X l yX3_predictionsAgree cX3_predictionsAgree 2 (some FieldType.boolean) 4 0 0 [.ref (xa X q0)] G (Qi X post) := by
  refine mbegin (by decide) (Nat.le_of_ble_eq_true rfl) (fun p e s m below meth c hx hb hr hml hlk hown hE hz ls hl hP hD hS => ?_)
  have hl : lv_has ls 2 [(0, .ref (xa X q0))] := hl
  have hown : s.vm.findClass "FlyTreasury$Ledger" = some m.cls := hown
  have L2 : ∀ (n2 : Nat) (G : GS) (v1 : Int32) (H : Heap) (locs : List Loc) (ls : Array Slot), wlX3_predictionsAgree_2 post q0 n2 G v1 → va_P (xD X) vwCl (pool X G) H → va_D (xA X) (pool X G) → va_S (xA X) s.heap H locs → lv_has ls 2 [(0, .ref (xa X q0)), (1, .int v1)] → W p l e (rmL 4 0 0) s m [.ref (xa X q0)].toArray below meth c H locs 0 0 (MQ below (Qi X post) [.ref (xa X q0)].toArray s 0 0 (xA X)) (F0 m 2 ls []) := by
    intro n2
    induction n2 with
    | zero => intro G v1  H locs ls hw; exact hw.elim
    | succ n2 ih2 =>
      intro G v1  H locs ls hw hP hD hS hl
      rw [wlX3_predictionsAgree_2] at hw
      refine lv_iload_n hx hb dX3_predictionsAgree_2 rfl (lv_at hl 1 rfl) ?_
      refine lv_iconst (v := 5) hx hb dX3_predictionsAgree_3 (by decide) ?_
      refine lv_icmp_ge (tgt := 44) hx hb dX3_predictionsAgree_4 (by decide) (fun c10 => ?_) (fun c10 => ?_)
      · replace hw := ite_t hw c10
        refine lv_iconst (v := 1) hx hb dX3_predictionsAgree_44 (by decide) ?_
        exact end_i hx hb hr hlk (by decide) hw hP hD hS dX3_predictionsAgree_45
      · replace hw := ite_f hw c10
        refine lv_aload_n hx hb dX3_predictionsAgree_7 rfl (lv_at hl 0 rfl) ?_
        refine gf_X3_0 hx hb hE hP hown h0 (hE.w qw_160 rfl _) dX3_predictionsAgree_8 ?_
        refine lv_iload_n hx hb dX3_predictionsAgree_11 rfl (lv_at hl 1 rfl) ?_
        obtain ⟨y11, hw⟩ := hw
        refine ald_1 hx hb hE hP (k0_1 h0) y11 dX3_predictionsAgree_12 ?_
        refine lv_aload_n hx hb dX3_predictionsAgree_13 rfl (lv_at hl 0 rfl) ?_
        refine gf_X3_1 hx hb hE hP hown h0 (hE.w qw_162 rfl _) dX3_predictionsAgree_14 ?_
        refine call_i (run_V (cc := cX3_predictionsAgree) (As := [.ref (xa X (q0 + 2))]) (rest := []) hx hb hml hown hE hz (okX7_daysBySubtraction X l hfl (k1_e (k0_1 h0) y11) (k0_2 h0) hw) qw_424 qw_425 qw_426 qw_76 qw_427 (myX7_daysBySubtraction) ⟨Nat.le_of_ble_eq_true rfl, Nat.le_of_ble_eq_true rfl⟩ (rv_X7 hE hP (k1_e (k0_1 h0) y11)) hP hD hS rfl hl.1 rfl (Nat.le_of_ble_eq_true rfl) dX3_predictionsAgree_17 ⟨Nat.le_of_ble_eq_true rfl, Nat.le_of_ble_eq_true rfl⟩) hS (fun r13 G12 H locs hw hP hD hS => ?_)
        refine lv_aload_n hx hb dX3_predictionsAgree_20 rfl (lv_at hl 0 rfl) ?_
        refine gf_X3_0 hx hb hE hP hown h0 (hE.w qw_160 rfl _) dX3_predictionsAgree_21 ?_
        refine lv_iload_n hx hb dX3_predictionsAgree_24 rfl (lv_at hl 1 rfl) ?_
        obtain ⟨y14, hw⟩ := hw
        refine ald_1 hx hb hE hP (k0_1 h0) y14 dX3_predictionsAgree_25 ?_
        refine lv_aload_n hx hb dX3_predictionsAgree_26 rfl (lv_at hl 0 rfl) ?_
        refine gf_X3_1 hx hb hE hP hown h0 (hE.w qw_162 rfl _) dX3_predictionsAgree_27 ?_
        refine call_i (run_V (cc := cX3_predictionsAgree) (As := [.ref (xa X (q0 + 2))]) (rest := [.int r13]) hx hb hml hown hE hz (okX7_daysByCounting X l hfl (k1_e (k0_1 h0) y14) (k0_2 h0) hw) qw_440 qw_441 qw_442 qw_76 qw_443 (myX7_daysByCounting) ⟨Nat.le_of_ble_eq_true rfl, Nat.le_of_ble_eq_true rfl⟩ (rv_X7 hE hP (k1_e (k0_1 h0) y14)) hP hD hS rfl hl.1 rfl (Nat.le_of_ble_eq_true rfl) dX3_predictionsAgree_30 ⟨Nat.le_of_ble_eq_true rfl, Nat.le_of_ble_eq_true rfl⟩) hS (fun r16 G15 H locs hw hP hD hS => ?_)
        refine lv_icmp_eq (tgt := 38) hx hb dX3_predictionsAgree_33 (by decide) (fun c17 => ?_) (fun c17 => ?_)
        · replace hw := ite_t hw c17
          obtain ⟨z18, ez18⟩ : ∃ y : Int32, y = v1 + 1 := ⟨_, rfl⟩
          replace hw := hw z18 ez18
          refine lv_iinc (v := z18) (lv' := [(1, .int z18), (0, .ref (xa X q0))]) hx hb dX3_predictionsAgree_38 hl (k := 1) rfl (by rw [ez18]; rfl) (by decide) rfl (fun ls hl => ?_)
          refine lv_goto (tgt := 2) hx hb dX3_predictionsAgree_41 (by decide) ?_
          exact ih2 G15 z18  _ _ _ hw hP hD hS (lv_sub hl [1, 0] rfl)
        · replace hw := ite_f hw c17
          refine lv_iconst (v := 0) hx hb dX3_predictionsAgree_36 (by decide) ?_
          exact end_i hx hb hr hlk (by decide) hw hP hD hS dX3_predictionsAgree_37
  unfold wpX3_predictionsAgree at hw
  refine lv_iconst (v := 0) hx hb dX3_predictionsAgree_0 (by decide) ?_
  refine lv_istore_n (lv' := [(1, .int 0), (0, .ref (xa X q0))]) hx hb dX3_predictionsAgree_1 rfl hl (by decide) rfl (fun ls hl => ?_)
  obtain ⟨nn, hw⟩ := hw
  exact L2 nn G 0  _ _ _ hw hP hD hS (lv_sub hl [1, 0] rfl)
def wlX3_dewAgrees_4 (post : Int32 → GS → Prop) (q0 : Nat) : Nat → GS → Int32 → Int32 → Prop
  | 0, _, _, _ => False
  | n + 1, G, v1, v2 =>
    if 5 ≤ v2 then
  if (G.1 q0 6) = (((G.1 q0 7) + (G.1 q0 8)) + v1) then
    post 1 G
  else
    post 0 G
else
  vp_in v2 5 ∧
    ∀ z4 : Int32, z4 = (v1 + (G.1 (q0 + 1 + 4 + v2.toNatClampNeg) 2)) →
    ∀ z5 : Int32, z5 = v2 + 1 →
    wlX3_dewAgrees_4 post q0 n G z4 z5
def wpX3_dewAgrees (post : Int32 → GS → Prop) (q0 : Nat) (G : GS) : Prop :=
  ∃ nn, wlX3_dewAgrees_4 post q0 nn G 0 0
set_option maxHeartbeats 4000000 in
set_option maxRecDepth 100000 in
theorem okX3_dewAgrees (X : Cx) (l : Launch) (hfl : l.stackTraces = false) {post : Int32 → GS → Prop} {q0 : Nat} {G : GS} (h0 : kd q0 = 0) (hw : wpX3_dewAgrees post q0 G) : CT X l yX3_dewAgrees cX3_dewAgrees 3 (some FieldType.boolean) 1 0 0 [.ref (xa X q0)] G (Qi X post) := by
  refine mbegin (by decide) (Nat.le_of_ble_eq_true rfl) (fun p e s m below meth c hx hb hr hml hlk hown hE hz ls hl hP hD hS => ?_)
  have hl : lv_has ls 3 [(0, .ref (xa X q0))] := hl
  have hown : s.vm.findClass "FlyTreasury$Ledger" = some m.cls := hown
  have L4 : ∀ (n4 : Nat) (G : GS) (v1 : Int32) (v2 : Int32) (H : Heap) (locs : List Loc) (ls : Array Slot), wlX3_dewAgrees_4 post q0 n4 G v1 v2 → va_P (xD X) vwCl (pool X G) H → va_D (xA X) (pool X G) → va_S (xA X) s.heap H locs → lv_has ls 3 [(0, .ref (xa X q0)), (1, .int v1), (2, .int v2)] → W p l e (rmL 1 0 0) s m [.ref (xa X q0)].toArray below meth c H locs 0 0 (MQ below (Qi X post) [.ref (xa X q0)].toArray s 0 0 (xA X)) (F0 m 4 ls []) := by
    intro n4
    induction n4 with
    | zero => intro G v1 v2  H locs ls hw; exact hw.elim
    | succ n4 ih4 =>
      intro G v1 v2  H locs ls hw hP hD hS hl
      rw [wlX3_dewAgrees_4] at hw
      refine lv_iload_n hx hb dX3_dewAgrees_4 rfl (lv_at hl 2 rfl) ?_
      refine lv_iconst (v := 5) hx hb dX3_dewAgrees_5 (by decide) ?_
      refine lv_icmp_ge (tgt := 27) hx hb dX3_dewAgrees_6 (by decide) (fun c6 => ?_) (fun c6 => ?_)
      · replace hw := ite_t hw c6
        refine lv_aload_n hx hb dX3_dewAgrees_27 rfl (lv_at hl 0 rfl) ?_
        refine gf_X3_6 hx hb hE hP hown h0 (hE.w qw_170 rfl _) dX3_dewAgrees_28 ?_
        refine lv_aload_n hx hb dX3_dewAgrees_31 rfl (lv_at hl 0 rfl) ?_
        refine gf_X3_7 hx hb hE hP hown h0 (hE.w qw_172 rfl _) dX3_dewAgrees_32 ?_
        refine lv_aload_n hx hb dX3_dewAgrees_35 rfl (lv_at hl 0 rfl) ?_
        refine gf_X3_8 hx hb hE hP hown h0 (hE.w qw_174 rfl _) dX3_dewAgrees_36 ?_
        refine lv_iadd hx hb dX3_dewAgrees_39 ?_
        refine lv_iload_n hx hb dX3_dewAgrees_40 rfl (lv_at hl 1 rfl) ?_
        refine lv_iadd hx hb dX3_dewAgrees_41 ?_
        refine lv_icmp_ne (tgt := 49) hx hb dX3_dewAgrees_42 (by decide) (fun c7 => ?_) (fun c7 => ?_)
        · replace hw := ite_f hw c7
          refine lv_iconst (v := 0) hx hb dX3_dewAgrees_49 (by decide) ?_
          exact end_i hx hb hr hlk (by decide) hw hP hD hS dX3_dewAgrees_50
        · replace hw := ite_t hw c7
          refine lv_iconst (v := 1) hx hb dX3_dewAgrees_45 (by decide) ?_
          refine lv_goto (tgt := 50) hx hb dX3_dewAgrees_46 (by decide) ?_
          exact end_i hx hb hr hlk (by decide) hw hP hD hS dX3_dewAgrees_50
      · replace hw := ite_f hw c6
        refine lv_iload_n hx hb dX3_dewAgrees_9 rfl (lv_at hl 1 rfl) ?_
        refine lv_aload_n hx hb dX3_dewAgrees_10 rfl (lv_at hl 0 rfl) ?_
        refine gf_X3_0 hx hb hE hP hown h0 (hE.w qw_160 rfl _) dX3_dewAgrees_11 ?_
        refine lv_iload_n hx hb dX3_dewAgrees_14 rfl (lv_at hl 2 rfl) ?_
        obtain ⟨y8, hw⟩ := hw
        refine ald_1 hx hb hE hP (k0_1 h0) y8 dX3_dewAgrees_15 ?_
        refine gn_X7_2 hx hb hE hP hown (k1_e (k0_1 h0) y8) (hE.w qw_137 rfl _) dX3_dewAgrees_16 ?_
        refine lv_iadd hx hb dX3_dewAgrees_19 ?_
        refine lv_topi (fun z9 ez9 => ?_)
        replace hw := hw z9 ez9
        refine lv_istore_n (lv' := [(1, .int z9), (0, .ref (xa X q0)), (2, .int v2)]) hx hb dX3_dewAgrees_20 rfl hl (by decide) rfl (fun ls hl => ?_)
        obtain ⟨z10, ez10⟩ : ∃ y : Int32, y = v2 + 1 := ⟨_, rfl⟩
        replace hw := hw z10 ez10
        refine lv_iinc (v := z10) (lv' := [(2, .int z10), (1, .int z9), (0, .ref (xa X q0))]) hx hb dX3_dewAgrees_21 hl (k := 2) rfl (by rw [ez10]; rfl) (by decide) rfl (fun ls hl => ?_)
        refine lv_goto (tgt := 4) hx hb dX3_dewAgrees_24 (by decide) ?_
        exact ih4 G z9 z10  _ _ _ hw hP hD hS (lv_sub hl [2, 1, 0] rfl)
  unfold wpX3_dewAgrees at hw
  refine lv_iconst (v := 0) hx hb dX3_dewAgrees_0 (by decide) ?_
  refine lv_istore_n (lv' := [(1, .int 0), (0, .ref (xa X q0))]) hx hb dX3_dewAgrees_1 rfl hl (by decide) rfl (fun ls hl => ?_)
  refine lv_iconst (v := 0) hx hb dX3_dewAgrees_2 (by decide) ?_
  refine lv_istore_n (lv' := [(2, .int 0), (1, .int 0), (0, .ref (xa X q0))]) hx hb dX3_dewAgrees_3 rfl hl (by decide) rfl (fun ls hl => ?_)
  obtain ⟨nn, hw⟩ := hw
  exact L4 nn G 0 0  _ _ _ hw hP hD hS (lv_sub hl [2, 1, 0] rfl)
