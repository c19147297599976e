def wlX9_kindByValue_17 (post : Int32 → GS → Prop) (a1 : Int32) (K7 : GS → Int32 → Prop) : Nat → GS → Int32 → Int32 → Int32 → Prop
  | 0, _, _, _, _ => False
  | n + 1, G, v2, v3, v4 =>
    if 3 ≤ v4 then
  if v3 = a1 then
    wpX9_letterOf (fun (r10 : Int32) (G9 : GS) =>
      narrow .char (.int r10) = .int r10 ∧ post r10 G9) v2 G
  else
    ∀ z8 : Int32, z8 = v2 + 1 →
      K7 G z8
else
  wpX9_fliesOf (fun (r13 : Int32) (G12 : GS) =>
    vp_in (2 + v4) (ln 190) ∧
      wpX9_fliesOf (fun (r16 : Int32) (G15 : GS) =>
      vp_in (2 + v2) (ln 190) ∧
        ∀ z18 : Int32, z18 = ((r13 * (G12.1 190 (2 + v4).toNatClampNeg)) - (r16 * (G15.1 190 (2 + v2).toNatClampNeg))) →
        if 0 < z18 then
        ∀ z20 : Int32, z20 = (v3 + 1) →
          ∀ z21 : Int32, z21 = v4 + 1 →
          wlX9_kindByValue_17 post a1 K7 n G15 v2 z20 z21
      else
        if z18 = 0 then
          if v2 ≤ v4 then
            ∀ z26 : Int32, z26 = (v3 + 0) →
              ∀ z27 : Int32, z27 = v4 + 1 →
              wlX9_kindByValue_17 post a1 K7 n G15 v2 z26 z27
          else
            ∀ z28 : Int32, z28 = (v3 + 1) →
              ∀ z29 : Int32, z29 = v4 + 1 →
              wlX9_kindByValue_17 post a1 K7 n G15 v2 z28 z29
        else
          ∀ z23 : Int32, z23 = (v3 + 0) →
            ∀ z24 : Int32, z24 = v4 + 1 →
            wlX9_kindByValue_17 post a1 K7 n G15 v2 z23 z24) v2 G12) v4 G
def wlX9_kindByValue_7 (post : Int32 → GS → Prop) (a1 : Int32) : Nat → GS → Int32 → Prop
  | 0, _, _ => False
  | n + 1, G, v2 =>
    if 3 ≤ v2 then
  wpX9_fails (fun (r4 : Int32) (G3 : GS) =>
    narrow .char (.int ((r4.toUInt32 % 65536).toInt32)) = .int ((r4.toUInt32 % 65536).toInt32) ∧ post ((r4.toUInt32 % 65536).toInt32) G3) 1 G
else
  ∃ nn, wlX9_kindByValue_17 post a1 (fun (G : GS) (v2 : Int32) => wlX9_kindByValue_7 post a1 n G v2) nn G v2 0 0
def wpX9_kindByValue (post : Int32 → GS → Prop) (a1 : Int32) (G : GS) : Prop :=
  ∀ G1 : GS, G1 = gI G 189 0 0 →
  ∃ nn, wlX9_kindByValue_7 post a1 nn G1 0
set_option maxHeartbeats 4000000 in
set_option maxRecDepth 100000 in
theorem okX9_kindByValue (X : Cx) (l : Launch) (hfl : l.stackTraces = false) {post : Int32 → GS → Prop} {a1 : Int32} {G : GS}  (hw : wpX9_kindByValue post a1 G) : CT X l yX9_kindByValue cX9_kindByValue 6 (some FieldType.char) 3 0 0 [.ref (xa X 189), .int a1] G (Qi X post) := by
  refine mbegin (by decide) (Nat.le_of_ble_eq_true rfl) (fun p e s m below meth c hx hb hr hml hlk hown hE hz ls hl hP hD hS => ?_)
  have hl : lv_has ls 6 [(0, .ref (xa X 189)), (1, .int a1)] := hl
  have hown : s.vm.findClass "FlyTreasuryModel" = some m.cls := hown
  have L7 : ∀ (n7 : Nat) (G : GS) (v2 : Int32) (H : Heap) (locs : List Loc) (ls : Array Slot), wlX9_kindByValue_7 post a1 n7 G v2 → va_P (xD X) vwCl (pool X G) H → va_D (xA X) (pool X G) → va_S (xA X) s.heap H locs → lv_has ls 6 [(0, .ref (xa X 189)), (1, .int a1), (2, .int v2)] → W p l e (rmL 3 0 0) s m [.ref (xa X 189), .int a1].toArray below meth c H locs 0 0 (MQ below (Qi X post) [.ref (xa X 189), .int a1].toArray s 0 0 (xA X)) (F0 m 7 ls []) := by
    intro n7
    induction n7 with
    | zero => intro G v2  H locs ls hw; exact hw.elim
    | succ n7 ih7 =>
      have L17 : ∀ (n17 : Nat) (G : GS) (v2 : Int32) (v3 : Int32) (v4 : Int32) (H : Heap) (locs : List Loc) (ls : Array Slot), wlX9_kindByValue_17 post a1 (fun (G : GS) (v2 : Int32) => wlX9_kindByValue_7 post a1 n7 G v2) n17 G v2 v3 v4 → va_P (xD X) vwCl (pool X G) H → va_D (xA X) (pool X G) → va_S (xA X) s.heap H locs → lv_has ls 6 [(0, .ref (xa X 189)), (1, .int a1), (2, .int v2), (3, .int v3), (4, .int v4)] → W p l e (rmL 3 0 0) s m [.ref (xa X 189), .int a1].toArray below meth c H locs 0 0 (MQ below (Qi X post) [.ref (xa X 189), .int a1].toArray s 0 0 (xA X)) (F0 m 17 ls []) := by
        intro n17
        induction n17 with
        | zero => intro G v2 v3 v4  H locs ls hw; exact hw.elim
        | succ n17 ih17 =>
          intro G v2 v3 v4  H locs ls hw hP hD hS hl
          rw [wlX9_kindByValue_17] at hw
          refine lv_iload hx hb dX9_kindByValue_17 (lv_at hl 4 rfl) ?_
          refine lv_iconst (v := 3) hx hb dX9_kindByValue_19 (by decide) ?_
          refine lv_icmp_ge (tgt := 86) hx hb dX9_kindByValue_20 (by decide) (fun c30 => ?_) (fun c30 => ?_)
          · replace hw := ite_t hw c30
            refine lv_iload_n hx hb dX9_kindByValue_86 rfl (lv_at hl 3 rfl) ?_
            refine lv_iload_n hx hb dX9_kindByValue_87 rfl (lv_at hl 1 rfl) ?_
            refine lv_icmp_ne (tgt := 96) hx hb dX9_kindByValue_88 (by decide) (fun c31 => ?_) (fun c31 => ?_)
            · replace hw := ite_f hw c31
              obtain ⟨z32, ez32⟩ : ∃ y : Int32, y = v2 + 1 := ⟨_, rfl⟩
              replace hw := hw z32 ez32
              refine lv_iinc (v := z32) (lv' := [(2, .int z32), (0, .ref (xa X 189)), (1, .int a1), (3, .int v3), (4, .int v4)]) hx hb dX9_kindByValue_96 hl (k := 2) rfl (by rw [ez32]; rfl) (by decide) rfl (fun ls hl => ?_)
              refine lv_goto (tgt := 7) hx hb dX9_kindByValue_99 (by decide) ?_
              exact ih7 G z32  _ _ _ hw hP hD hS (lv_sub hl [1, 2, 0] rfl)
            · replace hw := ite_t hw c31
              refine lv_iload_n hx hb dX9_kindByValue_91 rfl (lv_at hl 2 rfl) ?_
              refine call_i (run_S (cc := cX9_kindByValue) (As := [.int v2]) (rest := []) hx hb hml hown hE hz (okX9_letterOf X l hfl  hw) qw_1920 qw_1921 qw_86 qw_1922 (myX9_letterOf).2 ⟨Nat.le_of_ble_eq_true rfl, Nat.le_of_ble_eq_true rfl⟩ hP hD hS rfl hl.1 rfl (Nat.le_of_ble_eq_true rfl) dX9_kindByValue_92 ⟨Nat.le_of_ble_eq_true rfl, Nat.le_of_ble_eq_true rfl⟩) hS (fun r34 G33 H locs hw hP hD hS => ?_)
              obtain ⟨y35, hw⟩ := hw
              exact end_i hx hb hr hlk y35 hw hP hD hS dX9_kindByValue_95
          · replace hw := ite_f hw c30
            refine lv_aload_n hx hb dX9_kindByValue_23 rfl (lv_at hl 0 rfl) ?_
            refine lv_iload hx hb dX9_kindByValue_24 (lv_at hl 4 rfl) ?_
            refine call_i (run_V (cc := cX9_kindByValue) (As := [.int v4]) (rest := []) hx hb hml hown hE hz (okX9_fliesOf X l hfl  hw) qw_1887 qw_1889 qw_53 qw_86 qw_1890 (myX9_fliesOf) ⟨Nat.le_of_ble_eq_true rfl, Nat.le_of_ble_eq_true rfl⟩ (rv_X9 hE hP rfl) hP hD hS rfl hl.1 rfl (Nat.le_of_ble_eq_true rfl) dX9_kindByValue_26 ⟨Nat.le_of_ble_eq_true rfl, Nat.le_of_ble_eq_true rfl⟩) hS (fun r37 G36 H locs hw hP hD hS => ?_)
            refine lv_aload_n hx hb dX9_kindByValue_29 rfl (lv_at hl 0 rfl) ?_
            refine gf_X9_1 hx hb hE hP hown rfl (hE.w qw_1571 rfl _) dX9_kindByValue_30 ?_
            refine lv_iconst (v := 2) hx hb dX9_kindByValue_33 (by decide) ?_
            refine lv_iload hx hb dX9_kindByValue_34 (lv_at hl 4 rfl) ?_
            refine lv_iadd hx hb dX9_kindByValue_36 ?_
            obtain ⟨y38, hw⟩ := hw
            refine ald_2 hx hb hE hP rfl y38 dX9_kindByValue_37 ?_
            refine lv_imul hx hb dX9_kindByValue_38 ?_
            refine lv_aload_n hx hb dX9_kindByValue_39 rfl (lv_at hl 0 rfl) ?_
            refine lv_iload_n hx hb dX9_kindByValue_40 rfl (lv_at hl 2 rfl) ?_
            refine call_i (run_V (cc := cX9_kindByValue) (As := [.int v2]) (rest := [.int (r37 * (G36.1 190 (2 + v4).toNatClampNeg))]) hx hb hml hown hE hz (okX9_fliesOf X l hfl  hw) qw_1887 qw_1889 qw_53 qw_86 qw_1890 (myX9_fliesOf) ⟨Nat.le_of_ble_eq_true rfl, Nat.le_of_ble_eq_true rfl⟩ (rv_X9 hE hP rfl) hP hD hS rfl hl.1 rfl (Nat.le_of_ble_eq_true rfl) dX9_kindByValue_41 ⟨Nat.le_of_ble_eq_true rfl, Nat.le_of_ble_eq_true rfl⟩) hS (fun r40 G39 H locs hw hP hD hS => ?_)
            refine lv_aload_n hx hb dX9_kindByValue_44 rfl (lv_at hl 0 rfl) ?_
            refine gf_X9_1 hx hb hE hP hown rfl (hE.w qw_1571 rfl _) dX9_kindByValue_45 ?_
            refine lv_iconst (v := 2) hx hb dX9_kindByValue_48 (by decide) ?_
            refine lv_iload_n hx hb dX9_kindByValue_49 rfl (lv_at hl 2 rfl) ?_
            refine lv_iadd hx hb dX9_kindByValue_50 ?_
            obtain ⟨y41, hw⟩ := hw
            refine ald_2 hx hb hE hP rfl y41 dX9_kindByValue_51 ?_
            refine lv_imul hx hb dX9_kindByValue_52 ?_
            refine lv_isub hx hb dX9_kindByValue_53 ?_
            refine lv_topi (fun z42 ez42 => ?_)
            replace hw := hw z42 ez42
            refine lv_istore (lv' := [(5, .int z42), (0, .ref (xa X 189)), (1, .int a1), (2, .int v2), (3, .int v3), (4, .int v4)]) hx hb dX9_kindByValue_54 hl (by decide) rfl (fun ls hl => ?_)
            refine lv_iload_n hx hb dX9_kindByValue_56 rfl (lv_at hl 4 rfl) ?_
            refine lv_iload hx hb dX9_kindByValue_57 (lv_at hl 0 rfl) ?_
            refine lv_if_gt (tgt := 73) hx hb dX9_kindByValue_59 (by decide) (fun c43 => ?_) (fun c43 => ?_)
            · replace hw := ite_t hw c43
              refine lv_iconst (v := 1) hx hb dX9_kindByValue_73 (by decide) ?_
              refine lv_goto (tgt := 78) hx hb dX9_kindByValue_74 (by decide) ?_
              refine lv_iadd hx hb dX9_kindByValue_78 ?_
              refine lv_topi (fun z44 ez44 => ?_)
              replace hw := hw z44 ez44
              refine lv_istore_n (lv' := [(3, .int z44), (5, .int z42), (0, .ref (xa X 189)), (1, .int a1), (2, .int v2), (4, .int v4)]) hx hb dX9_kindByValue_79 rfl hl (by decide) rfl (fun ls hl => ?_)
              obtain ⟨z45, ez45⟩ : ∃ y : Int32, y = v4 + 1 := ⟨_, rfl⟩
              replace hw := hw z45 ez45
              refine lv_iinc (v := z45) (lv' := [(4, .int z45), (3, .int z44), (5, .int z42), (0, .ref (xa X 189)), (1, .int a1), (2, .int v2)]) hx hb dX9_kindByValue_80 hl (k := 5) rfl (by rw [ez45]; rfl) (by decide) rfl (fun ls hl => ?_)
              refine lv_goto (tgt := 17) hx hb dX9_kindByValue_83 (by decide) ?_
              exact ih17 G39 v2 z44 z45  _ _ _ hw hP hD hS (lv_sub hl [3, 4, 5, 1, 0] rfl)
            · replace hw := ite_f hw c43
              refine lv_iload hx hb dX9_kindByValue_62 (lv_at hl 0 rfl) ?_
              refine lv_if_ne (tgt := 77) hx hb dX9_kindByValue_64 (by decide) (fun c46 => ?_) (fun c46 => ?_)
              · replace hw := ite_f hw c46
                refine lv_iconst (v := 0) hx hb dX9_kindByValue_77 (by decide) ?_
                refine lv_iadd hx hb dX9_kindByValue_78 ?_
                refine lv_topi (fun z47 ez47 => ?_)
                replace hw := hw z47 ez47
                refine lv_istore_n (lv' := [(3, .int z47), (5, .int z42), (0, .ref (xa X 189)), (1, .int a1), (2, .int v2), (4, .int v4)]) hx hb dX9_kindByValue_79 rfl hl (by decide) rfl (fun ls hl => ?_)
                obtain ⟨z48, ez48⟩ : ∃ y : Int32, y = v4 + 1 := ⟨_, rfl⟩
                replace hw := hw z48 ez48
                refine lv_iinc (v := z48) (lv' := [(4, .int z48), (3, .int z47), (5, .int z42), (0, .ref (xa X 189)), (1, .int a1), (2, .int v2)]) hx hb dX9_kindByValue_80 hl (k := 5) rfl (by rw [ez48]; rfl) (by decide) rfl (fun ls hl => ?_)
                refine lv_goto (tgt := 17) hx hb dX9_kindByValue_83 (by decide) ?_
                exact ih17 G39 v2 z47 z48  _ _ _ hw hP hD hS (lv_sub hl [3, 4, 5, 1, 0] rfl)
              · replace hw := ite_t hw c46
                refine lv_iload hx hb dX9_kindByValue_67 (lv_at hl 5 rfl) ?_
                refine lv_iload_n hx hb dX9_kindByValue_69 rfl (lv_at hl 3 rfl) ?_
                refine lv_icmp_ge (tgt := 77) hx hb dX9_kindByValue_70 (by decide) (fun c49 => ?_) (fun c49 => ?_)
                · replace hw := ite_t hw c49
                  refine lv_iconst (v := 0) hx hb dX9_kindByValue_77 (by decide) ?_
                  refine lv_iadd hx hb dX9_kindByValue_78 ?_
                  refine lv_topi (fun z50 ez50 => ?_)
                  replace hw := hw z50 ez50
                  refine lv_istore_n (lv' := [(3, .int z50), (5, .int z42), (0, .ref (xa X 189)), (1, .int a1), (2, .int v2), (4, .int v4)]) hx hb dX9_kindByValue_79 rfl hl (by decide) rfl (fun ls hl => ?_)
                  obtain ⟨z51, ez51⟩ : ∃ y : Int32, y = v4 + 1 := ⟨_, rfl⟩
                  replace hw := hw z51 ez51
                  refine lv_iinc (v := z51) (lv' := [(4, .int z51), (3, .int z50), (5, .int z42), (0, .ref (xa X 189)), (1, .int a1), (2, .int v2)]) hx hb dX9_kindByValue_80 hl (k := 5) rfl (by rw [ez51]; rfl) (by decide) rfl (fun ls hl => ?_)
                  refine lv_goto (tgt := 17) hx hb dX9_kindByValue_83 (by decide) ?_
                  exact ih17 G39 v2 z50 z51  _ _ _ hw hP hD hS (lv_sub hl [3, 4, 5, 1, 0] rfl)
                · replace hw := ite_f hw c49
                  refine lv_iconst (v := 1) hx hb dX9_kindByValue_73 (by decide) ?_
                  refine lv_goto (tgt := 78) hx hb dX9_kindByValue_74 (by decide) ?_
                  refine lv_iadd hx hb dX9_kindByValue_78 ?_
                  refine lv_topi (fun z52 ez52 => ?_)
                  replace hw := hw z52 ez52
                  refine lv_istore_n (lv' := [(3, .int z52), (5, .int z42), (0, .ref (xa X 189)), (1, .int a1), (2, .int v2), (4, .int v4)]) hx hb dX9_kindByValue_79 rfl hl (by decide) rfl (fun ls hl => ?_)
                  obtain ⟨z53, ez53⟩ : ∃ y : Int32, y = v4 + 1 := ⟨_, rfl⟩
                  replace hw := hw z53 ez53
                  refine lv_iinc (v := z53) (lv' := [(4, .int z53), (3, .int z52), (5, .int z42), (0, .ref (xa X 189)), (1, .int a1), (2, .int v2)]) hx hb dX9_kindByValue_80 hl (k := 5) rfl (by rw [ez53]; rfl) (by decide) rfl (fun ls hl => ?_)
                  refine lv_goto (tgt := 17) hx hb dX9_kindByValue_83 (by decide) ?_
                  exact ih17 G39 v2 z52 z53  _ _ _ hw hP hD hS (lv_sub hl [3, 4, 5, 1, 0] rfl)
      intro G v2  H locs ls hw hP hD hS hl
      rw [wlX9_kindByValue_7] at hw
      refine lv_iload_n hx hb dX9_kindByValue_7 rfl (lv_at hl 2 rfl) ?_
      refine lv_iconst (v := 3) hx hb dX9_kindByValue_8 (by decide) ?_
      refine lv_icmp_ge (tgt := 102) hx hb dX9_kindByValue_9 (by decide) (fun c54 => ?_) (fun c54 => ?_)
      · replace hw := ite_t hw c54
        refine lv_aload_n hx hb dX9_kindByValue_102 rfl (lv_at hl 0 rfl) ?_
        refine lv_iconst (v := 1) hx hb dX9_kindByValue_103 (by decide) ?_
        refine call_i (run_V (cc := cX9_kindByValue) (As := [.int 1]) (rest := []) hx hb hml hown hE hz (okX9_fails X l hfl  hw) qw_1636 qw_1638 qw_20 qw_86 qw_1639 (myX9_fails) ⟨Nat.le_of_ble_eq_true rfl, Nat.le_of_ble_eq_true rfl⟩ (rv_X9 hE hP rfl) hP hD hS rfl hl.1 rfl (Nat.le_of_ble_eq_true rfl) dX9_kindByValue_104 ⟨Nat.le_of_ble_eq_true rfl, Nat.le_of_ble_eq_true rfl⟩) hS (fun r56 G55 H locs hw hP hD hS => ?_)
        refine lv_i2c hx hb dX9_kindByValue_107 rfl ?_
        obtain ⟨y57, hw⟩ := hw
        exact end_i hx hb hr hlk y57 hw hP hD hS dX9_kindByValue_108
      · replace hw := ite_f hw c54
        refine lv_iconst (v := 0) hx hb dX9_kindByValue_12 (by decide) ?_
        refine lv_istore_n (lv' := [(3, .int 0), (0, .ref (xa X 189)), (1, .int a1), (2, .int v2)]) hx hb dX9_kindByValue_13 rfl hl (by decide) rfl (fun ls hl => ?_)
        refine lv_iconst (v := 0) hx hb dX9_kindByValue_14 (by decide) ?_
        refine lv_istore (lv' := [(4, .int 0), (3, .int 0), (0, .ref (xa X 189)), (1, .int a1), (2, .int v2)]) hx hb dX9_kindByValue_15 hl (by decide) rfl (fun ls hl => ?_)
        obtain ⟨nn, hw⟩ := hw
        exact L17 nn G v2 0 0  _ _ _ hw hP hD hS (lv_sub hl [2, 3, 4, 1, 0] rfl)
  unfold wpX9_kindByValue at hw
  refine lv_aload_n hx hb dX9_kindByValue_0 rfl (lv_at hl 0 rfl) ?_
  refine lv_iconst (v := 0) hx hb dX9_kindByValue_1 (by decide) ?_
  refine pf_X9_0 hx hb hE hP hD hS hown rfl (hE.w qw_1570 rfl _) dX9_kindByValue_2 (fun G1 H locs eG1 hP hD hS => ?_)
  replace hw := hw G1 eG1
  refine lv_iconst (v := 0) hx hb dX9_kindByValue_5 (by decide) ?_
  refine lv_istore_n (lv' := [(2, .int 0), (0, .ref (xa X 189)), (1, .int a1)]) hx hb dX9_kindByValue_6 rfl hl (by decide) rfl (fun ls hl => ?_)
  obtain ⟨nn, hw⟩ := hw
  exact L7 nn G1 0  _ _ _ hw hP hD hS (lv_sub hl [1, 2, 0] rfl)
def wpX9_day (post : Int32 → GS → Prop) (G : GS) : Prop :=
  wpX9_asks (fun (r2 : Int32) (G1 : GS) =>
  post r2 G1) 1 G
set_option maxHeartbeats 4000000 in
set_option maxRecDepth 100000 in
theorem okX9_day (X : Cx) (l : Launch) (hfl : l.stackTraces = false) {post : Int32 → GS → Prop}  {G : GS}  (hw : wpX9_day post G) : CT X l yX9_day cX9_day 1 (some FieldType.int) 2 0 0 [.ref (xa X 189)] G (Qi X post) := by
  refine mbegin (by decide) (Nat.le_of_ble_eq_true rfl) (fun p e s m below meth c hx hb hr hml hlk hown hE hz ls hl hP hD hS => ?_)
  have hl : lv_has ls 1 [(0, .ref (xa X 189))] := hl
  have hown : s.vm.findClass "FlyTreasuryModel" = some m.cls := hown
  unfold wpX9_day at hw
  refine lv_aload_n hx hb dX9_day_0 rfl (lv_at hl 0 rfl) ?_
  refine lv_iconst (v := 1) hx hb dX9_day_1 (by decide) ?_
  refine call_i (run_V (cc := cX9_day) (As := [.int 1]) (rest := []) hx hb hml hown hE hz (okX9_asks X l hfl  hw) qw_1809 qw_1811 qw_51 qw_86 qw_1812 (myX9_asks) ⟨Nat.le_of_ble_eq_true rfl, Nat.le_of_ble_eq_true rfl⟩ (rv_X9 hE hP rfl) hP hD hS rfl hl.1 rfl (Nat.le_of_ble_eq_true rfl) dX9_day_2 ⟨Nat.le_of_ble_eq_true rfl, Nat.le_of_ble_eq_true rfl⟩) hS (fun r2 G1 H locs hw hP hD hS => ?_)
  exact end_i hx hb hr hlk rfl hw hP hD hS dX9_day_5
def wpX9_mintedTotal (post : Int32 → GS → Prop) (G : GS) : Prop :=
  wpX9_asks (fun (r2 : Int32) (G1 : GS) =>
  post r2 G1) 11 G
set_option maxHeartbeats 4000000 in
set_option maxRecDepth 100000 in
theorem okX9_mintedTotal (X : Cx) (l : Launch) (hfl : l.stackTraces = false) {post : Int32 → GS → Prop}  {G : GS}  (hw : wpX9_mintedTotal post G) : CT X l yX9_mintedTotal cX9_mintedTotal 1 (some FieldType.int) 2 0 0 [.ref (xa X 189)] G (Qi X post) := by
  refine mbegin (by decide) (Nat.le_of_ble_eq_true rfl) (fun p e s m below meth c hx hb hr hml hlk hown hE hz ls hl hP hD hS => ?_)
  have hl : lv_has ls 1 [(0, .ref (xa X 189))] := hl
  have hown : s.vm.findClass "FlyTreasuryModel" = some m.cls := hown
  unfold wpX9_mintedTotal at hw
  refine lv_aload_n hx hb dX9_mintedTotal_0 rfl (lv_at hl 0 rfl) ?_
  refine lv_bipush (v := 11) hx hb dX9_mintedTotal_1 (by decide) ?_
  refine call_i (run_V (cc := cX9_mintedTotal) (As := [.int 11]) (rest := []) hx hb hml hown hE hz (okX9_asks X l hfl  hw) qw_1809 qw_1811 qw_51 qw_86 qw_1812 (myX9_asks) ⟨Nat.le_of_ble_eq_true rfl, Nat.le_of_ble_eq_true rfl⟩ (rv_X9 hE hP rfl) hP hD hS rfl hl.1 rfl (Nat.le_of_ble_eq_true rfl) dX9_mintedTotal_3 ⟨Nat.le_of_ble_eq_true rfl, Nat.le_of_ble_eq_true rfl⟩) hS (fun r2 G1 H locs hw hP hD hS => ?_)
  exact end_i hx hb hr hlk rfl hw hP hD hS dX9_mintedTotal_6
def wpX9_redeemedTotal (post : Int32 → GS → Prop) (G : GS) : Prop :=
  wpX9_asks (fun (r2 : Int32) (G1 : GS) =>
  post r2 G1) 12 G
set_option maxHeartbeats 4000000 in
set_option maxRecDepth 100000 in
theorem okX9_redeemedTotal (X : Cx) (l : Launch) (hfl : l.stackTraces = false) {post : Int32 → GS → Prop}  {G : GS}  (hw : wpX9_redeemedTotal post G) : CT X l yX9_redeemedTotal cX9_redeemedTotal 1 (some FieldType.int) 2 0 0 [.ref (xa X 189)] G (Qi X post) := by
  refine mbegin (by decide) (Nat.le_of_ble_eq_true rfl) (fun p e s m below meth c hx hb hr hml hlk hown hE hz ls hl hP hD hS => ?_)
  have hl : lv_has ls 1 [(0, .ref (xa X 189))] := hl
  have hown : s.vm.findClass "FlyTreasuryModel" = some m.cls := hown
  unfold wpX9_redeemedTotal at hw
  refine lv_aload_n hx hb dX9_redeemedTotal_0 rfl (lv_at hl 0 rfl) ?_
  refine lv_bipush (v := 12) hx hb dX9_redeemedTotal_1 (by decide) ?_
  refine call_i (run_V (cc := cX9_redeemedTotal) (As := [.int 12]) (rest := []) hx hb hml hown hE hz (okX9_asks X l hfl  hw) qw_1809 qw_1811 qw_51 qw_86 qw_1812 (myX9_asks) ⟨Nat.le_of_ble_eq_true rfl, Nat.le_of_ble_eq_true rfl⟩ (rv_X9 hE hP rfl) hP hD hS rfl hl.1 rfl (Nat.le_of_ble_eq_true rfl) dX9_redeemedTotal_3 ⟨Nat.le_of_ble_eq_true rfl, Nat.le_of_ble_eq_true rfl⟩) hS (fun r2 G1 H locs hw hP hD hS => ?_)
  exact end_i hx hb hr hlk rfl hw hP hD hS dX9_redeemedTotal_6
def wpX9_evaporatedTotal (post : Int32 → GS → Prop) (G : GS) : Prop :=
  wpX9_asks (fun (r2 : Int32) (G1 : GS) =>
  post r2 G1) 13 G
set_option maxHeartbeats 4000000 in
set_option maxRecDepth 100000 in
theorem okX9_evaporatedTotal (X : Cx) (l : Launch) (hfl : l.stackTraces = false) {post : Int32 → GS → Prop}  {G : GS}  (hw : wpX9_evaporatedTotal post G) : CT X l yX9_evaporatedTotal cX9_evaporatedTotal 1 (some FieldType.int) 2 0 0 [.ref (xa X 189)] G (Qi X post) := by
  refine mbegin (by decide) (Nat.le_of_ble_eq_true rfl) (fun p e s m below meth c hx hb hr hml hlk hown hE hz ls hl hP hD hS => ?_)
  have hl : lv_has ls 1 [(0, .ref (xa X 189))] := hl
  have hown : s.vm.findClass "FlyTreasuryModel" = some m.cls := hown
  unfold wpX9_evaporatedTotal at hw
  refine lv_aload_n hx hb dX9_evaporatedTotal_0 rfl (lv_at hl 0 rfl) ?_
  refine lv_bipush (v := 13) hx hb dX9_evaporatedTotal_1 (by decide) ?_
  refine call_i (run_V (cc := cX9_evaporatedTotal) (As := [.int 13]) (rest := []) hx hb hml hown hE hz (okX9_asks X l hfl  hw) qw_1809 qw_1811 qw_51 qw_86 qw_1812 (myX9_asks) ⟨Nat.le_of_ble_eq_true rfl, Nat.le_of_ble_eq_true rfl⟩ (rv_X9 hE hP rfl) hP hD hS rfl hl.1 rfl (Nat.le_of_ble_eq_true rfl) dX9_evaporatedTotal_3 ⟨Nat.le_of_ble_eq_true rfl, Nat.le_of_ble_eq_true rfl⟩) hS (fun r2 G1 H locs hw hP hD hS => ?_)
  exact end_i hx hb hr hlk rfl hw hP hD hS dX9_evaporatedTotal_6
def wpX9_auditTotal (post : Int32 → GS → Prop) (G : GS) : Prop :=
  wpX9_asks (fun (r2 : Int32) (G1 : GS) =>
  post r2 G1) 14 G
set_option maxHeartbeats 4000000 in
set_option maxRecDepth 100000 in
theorem okX9_auditTotal (X : Cx) (l : Launch) (hfl : l.stackTraces = false) {post : Int32 → GS → Prop}  {G : GS}  (hw : wpX9_auditTotal post G) : CT X l yX9_auditTotal cX9_auditTotal 1 (some FieldType.int) 2 0 0 [.ref (xa X 189)] G (Qi X post) := by
  refine mbegin (by decide) (Nat.le_of_ble_eq_true rfl) (fun p e s m below meth c hx hb hr hml hlk hown hE hz ls hl hP hD hS => ?_)
  have hl : lv_has ls 1 [(0, .ref (xa X 189))] := hl
  have hown : s.vm.findClass "FlyTreasuryModel" = some m.cls := hown
  unfold wpX9_auditTotal at hw
  refine lv_aload_n hx hb dX9_auditTotal_0 rfl (lv_at hl 0 rfl) ?_
  refine lv_bipush (v := 14) hx hb dX9_auditTotal_1 (by decide) ?_
  refine call_i (run_V (cc := cX9_auditTotal) (As := [.int 14]) (rest := []) hx hb hml hown hE hz (okX9_asks X l hfl  hw) qw_1809 qw_1811 qw_51 qw_86 qw_1812 (myX9_asks) ⟨Nat.le_of_ble_eq_true rfl, Nat.le_of_ble_eq_true rfl⟩ (rv_X9 hE hP rfl) hP hD hS rfl hl.1 rfl (Nat.le_of_ble_eq_true rfl) dX9_auditTotal_3 ⟨Nat.le_of_ble_eq_true rfl, Nat.le_of_ble_eq_true rfl⟩) hS (fun r2 G1 H locs hw hP hD hS => ?_)
  exact end_i hx hb hr hlk rfl hw hP hD hS dX9_auditTotal_6
def wpX9_soundAuditTotal (post : Int32 → GS → Prop) (G : GS) : Prop :=
  wpX9_asks (fun (r2 : Int32) (G1 : GS) =>
  post r2 G1) 15 G
set_option maxHeartbeats 4000000 in
set_option maxRecDepth 100000 in
theorem okX9_soundAuditTotal (X : Cx) (l : Launch) (hfl : l.stackTraces = false) {post : Int32 → GS → Prop}  {G : GS}  (hw : wpX9_soundAuditTotal post G) : CT X l yX9_soundAuditTotal cX9_soundAuditTotal 1 (some FieldType.int) 2 0 0 [.ref (xa X 189)] G (Qi X post) := by
  refine mbegin (by decide) (Nat.le_of_ble_eq_true rfl) (fun p e s m below meth c hx hb hr hml hlk hown hE hz ls hl hP hD hS => ?_)
  have hl : lv_has ls 1 [(0, .ref (xa X 189))] := hl
  have hown : s.vm.findClass "FlyTreasuryModel" = some m.cls := hown
  unfold wpX9_soundAuditTotal at hw
  refine lv_aload_n hx hb dX9_soundAuditTotal_0 rfl (lv_at hl 0 rfl) ?_
  refine lv_bipush (v := 15) hx hb dX9_soundAuditTotal_1 (by decide) ?_
  refine call_i (run_V (cc := cX9_soundAuditTotal) (As := [.int 15]) (rest := []) hx hb hml hown hE hz (okX9_asks X l hfl  hw) qw_1809 qw_1811 qw_51 qw_86 qw_1812 (myX9_asks) ⟨Nat.le_of_ble_eq_true rfl, Nat.le_of_ble_eq_true rfl⟩ (rv_X9 hE hP rfl) hP hD hS rfl hl.1 rfl (Nat.le_of_ble_eq_true rfl) dX9_soundAuditTotal_3 ⟨Nat.le_of_ble_eq_true rfl, Nat.le_of_ble_eq_true rfl⟩) hS (fun r2 G1 H locs hw hP hD hS => ?_)
  exact end_i hx hb hr hlk rfl hw hP hD hS dX9_soundAuditTotal_6
def wpX9_meanValue (post : UInt64 → GS → Prop) (G : GS) : Prop :=
  ∀ G1 : GS, G1 = gI G 189 0 0 →
  vp_in 0 (ln 190) ∧
  if (G1.1 190 (0 : Int32).toNatClampNeg) = 0 then
  wpX9_fails (fun (r9 : Int32) (G8 : GS) =>
    post (FP.i2d r9) G8) 1 G1
else
  wpX9_valueAll (fun (r5 : Int32) (G4 : GS) =>
    vp_in 0 (ln 190) ∧
      vf_n64 (FP.ddiv (FP.i2d r5) (FP.i2d (G4.1 190 (0 : Int32).toNatClampNeg))) ∧
      post (FP.ddiv (FP.i2d r5) (FP.i2d (G4.1 190 (0 : Int32).toNatClampNeg))) G4)  G1
set_option maxHeartbeats 4000000 in
set_option maxRecDepth 100000 in
theorem okX9_meanValue (X : Cx) (l : Launch) (hfl : l.stackTraces = false) {post : UInt64 → GS → Prop}  {G : GS}  (hw : wpX9_meanValue post G) : CT X l yX9_meanValue cX9_meanValue 1 (some FieldType.double) 4 0 0 [.ref (xa X 189)] G (Qd X post) := by
  refine mbegin (by decide) (Nat.le_of_ble_eq_true rfl) (fun p e s m below meth c hx hb hr hml hlk hown hE hz ls hl hP hD hS => ?_)
  have hl : lv_has ls 1 [(0, .ref (xa X 189))] := hl
  have hown : s.vm.findClass "FlyTreasuryModel" = some m.cls := hown
  unfold wpX9_meanValue at hw
  refine lv_aload_n hx hb dX9_meanValue_0 rfl (lv_at hl 0 rfl) ?_
  refine lv_iconst (v := 0) hx hb dX9_meanValue_1 (by decide) ?_
  refine pf_X9_0 hx hb hE hP hD hS hown rfl (hE.w qw_1570 rfl _) dX9_meanValue_2 (fun G1 H locs eG1 hP hD hS => ?_)
  replace hw := hw G1 eG1
  refine lv_aload_n hx hb dX9_meanValue_5 rfl (lv_at hl 0 rfl) ?_
  refine gf_X9_1 hx hb hE hP hown rfl (hE.w qw_1571 rfl _) dX9_meanValue_6 ?_
  refine lv_iconst (v := 0) hx hb dX9_meanValue_9 (by decide) ?_
  obtain ⟨y2, hw⟩ := hw
  refine ald_2 hx hb hE hP rfl y2 dX9_meanValue_10 ?_
  refine lv_if_ne (tgt := 23) hx hb dX9_meanValue_11 (by decide) (fun c3 => ?_) (fun c3 => ?_)
  · replace hw := ite_f hw c3
    refine lv_aload_n hx hb dX9_meanValue_23 rfl (lv_at hl 0 rfl) ?_
    refine call_i (run_V (cc := cX9_meanValue) (As := []) (rest := []) hx hb hml hown hE hz (okX9_valueAll X l hfl  hw) qw_1899 qw_1901 qw_54 qw_86 qw_1902 (myX9_valueAll) ⟨Nat.le_of_ble_eq_true rfl, Nat.le_of_ble_eq_true rfl⟩ (rv_X9 hE hP rfl) hP hD hS rfl hl.1 rfl (Nat.le_of_ble_eq_true rfl) dX9_meanValue_24 ⟨Nat.le_of_ble_eq_true rfl, Nat.le_of_ble_eq_true rfl⟩) hS (fun r5 G4 H locs hw hP hD hS => ?_)
    refine lv_i2d hx hb dX9_meanValue_27 ?_
    refine lv_aload_n hx hb dX9_meanValue_28 rfl (lv_at hl 0 rfl) ?_
    refine gf_X9_1 hx hb hE hP hown rfl (hE.w qw_1571 rfl _) dX9_meanValue_29 ?_
    refine lv_iconst (v := 0) hx hb dX9_meanValue_32 (by decide) ?_
    obtain ⟨y6, hw⟩ := hw
    refine ald_2 hx hb hE hP rfl y6 dX9_meanValue_33 ?_
    refine lv_i2d hx hb dX9_meanValue_34 ?_
    obtain ⟨y7, hw⟩ := hw
    refine lv_ddiv hx hb dX9_meanValue_35 y7 ?_
    exact end_d hx hb hr hlk hw hP hD hS dX9_meanValue_36
  · replace hw := ite_t hw c3
    refine lv_aload_n hx hb dX9_meanValue_14 rfl (lv_at hl 0 rfl) ?_
    refine lv_iconst (v := 1) hx hb dX9_meanValue_15 (by decide) ?_
    refine call_i (run_V (cc := cX9_meanValue) (As := [.int 1]) (rest := []) hx hb hml hown hE hz (okX9_fails X l hfl  hw) qw_1636 qw_1638 qw_20 qw_86 qw_1639 (myX9_fails) ⟨Nat.le_of_ble_eq_true rfl, Nat.le_of_ble_eq_true rfl⟩ (rv_X9 hE hP rfl) hP hD hS rfl hl.1 rfl (Nat.le_of_ble_eq_true rfl) dX9_meanValue_16 ⟨Nat.le_of_ble_eq_true rfl, Nat.le_of_ble_eq_true rfl⟩) hS (fun r9 G8 H locs hw hP hD hS => ?_)
    refine lv_i2d hx hb dX9_meanValue_19 ?_
    refine lv_goto (tgt := 36) hx hb dX9_meanValue_20 (by decide) ?_
    exact end_d hx hb hr hlk hw hP hD hS dX9_meanValue_36
def wpX9_soundShare (post : UInt32 → GS → Prop) (G : GS) : Prop :=
  ∀ G1 : GS, G1 = gI G 189 0 0 →
  vp_in 14 (ln 190) ∧
  if (G1.1 190 (14 : Int32).toNatClampNeg) = 0 then
  wpX9_fails (fun (r8 : Int32) (G7 : GS) =>
    post (FP.i2f r8) G7) 1 G1
else
  vp_in 15 (ln 190) ∧
    vp_in 14 (ln 190) ∧
    vf_n32 (FP.fdiv (FP.i2f (G1.1 190 (15 : Int32).toNatClampNeg)) (FP.i2f (G1.1 190 (14 : Int32).toNatClampNeg))) ∧
    post (FP.fdiv (FP.i2f (G1.1 190 (15 : Int32).toNatClampNeg)) (FP.i2f (G1.1 190 (14 : Int32).toNatClampNeg))) G1
set_option maxHeartbeats 4000000 in
set_option maxRecDepth 100000 in
theorem okX9_soundShare (X : Cx) (l : Launch) (hfl : l.stackTraces = false) {post : UInt32 → GS → Prop}  {G : GS}  (hw : wpX9_soundShare post G) : CT X l yX9_soundShare cX9_soundShare 1 (some FieldType.float) 2 0 0 [.ref (xa X 189)] G (Qf X post) := by
  refine mbegin (by decide) (Nat.le_of_ble_eq_true rfl) (fun p e s m below meth c hx hb hr hml hlk hown hE hz ls hl hP hD hS => ?_)
  have hl : lv_has ls 1 [(0, .ref (xa X 189))] := hl
  have hown : s.vm.findClass "FlyTreasuryModel" = some m.cls := hown
  unfold wpX9_soundShare at hw
  refine lv_aload_n hx hb dX9_soundShare_0 rfl (lv_at hl 0 rfl) ?_
  refine lv_iconst (v := 0) hx hb dX9_soundShare_1 (by decide) ?_
  refine pf_X9_0 hx hb hE hP hD hS hown rfl (hE.w qw_1570 rfl _) dX9_soundShare_2 (fun G1 H locs eG1 hP hD hS => ?_)
  replace hw := hw G1 eG1
  refine lv_aload_n hx hb dX9_soundShare_5 rfl (lv_at hl 0 rfl) ?_
  refine gf_X9_1 hx hb hE hP hown rfl (hE.w qw_1571 rfl _) dX9_soundShare_6 ?_
  refine lv_bipush (v := 14) hx hb dX9_soundShare_9 (by decide) ?_
  obtain ⟨y2, hw⟩ := hw
  refine ald_2 hx hb hE hP rfl y2 dX9_soundShare_11 ?_
  refine lv_if_ne (tgt := 24) hx hb dX9_soundShare_12 (by decide) (fun c3 => ?_) (fun c3 => ?_)
  · replace hw := ite_f hw c3
    refine lv_aload_n hx hb dX9_soundShare_24 rfl (lv_at hl 0 rfl) ?_
    refine gf_X9_1 hx hb hE hP hown rfl (hE.w qw_1571 rfl _) dX9_soundShare_25 ?_
    refine lv_bipush (v := 15) hx hb dX9_soundShare_28 (by decide) ?_
    obtain ⟨y4, hw⟩ := hw
    refine ald_2 hx hb hE hP rfl y4 dX9_soundShare_30 ?_
    refine lv_i2f hx hb dX9_soundShare_31 ?_
    refine lv_aload_n hx hb dX9_soundShare_32 rfl (lv_at hl 0 rfl) ?_
    refine gf_X9_1 hx hb hE hP hown rfl (hE.w qw_1571 rfl _) dX9_soundShare_33 ?_
    refine lv_bipush (v := 14) hx hb dX9_soundShare_36 (by decide) ?_
    obtain ⟨y5, hw⟩ := hw
    refine ald_2 hx hb hE hP rfl y5 dX9_soundShare_38 ?_
    refine lv_i2f hx hb dX9_soundShare_39 ?_
    obtain ⟨y6, hw⟩ := hw
    refine lv_fdiv hx hb dX9_soundShare_40 y6 ?_
    exact end_f hx hb hr hlk hw hP hD hS dX9_soundShare_41
  · replace hw := ite_t hw c3
    refine lv_aload_n hx hb dX9_soundShare_15 rfl (lv_at hl 0 rfl) ?_
    refine lv_iconst (v := 1) hx hb dX9_soundShare_16 (by decide) ?_
    refine call_i (run_V (cc := cX9_soundShare) (As := [.int 1]) (rest := []) hx hb hml hown hE hz (okX9_fails X l hfl  hw) qw_1636 qw_1638 qw_20 qw_86 qw_1639 (myX9_fails) ⟨Nat.le_of_ble_eq_true rfl, Nat.le_of_ble_eq_true rfl⟩ (rv_X9 hE hP rfl) hP hD hS rfl hl.1 rfl (Nat.le_of_ble_eq_true rfl) dX9_soundShare_17 ⟨Nat.le_of_ble_eq_true rfl, Nat.le_of_ble_eq_true rfl⟩) hS (fun r8 G7 H locs hw hP hD hS => ?_)
    refine lv_i2f hx hb dX9_soundShare_20 ?_
    refine lv_goto (tgt := 41) hx hb dX9_soundShare_21 (by decide) ?_
    exact end_f hx hb hr hlk hw hP hD hS dX9_soundShare_41
def wlX9_isConsistent_36 (post : Int32 → GS → Prop) : Nat → GS → Int32 → Int32 → Prop
  | 0, _, _, _ => False
  | n + 1, G, v1, v2 =>
    if 3 ≤ v2 then
  vp_in 11 (ln 190) ∧
    vp_in 12 (ln 190) ∧
    vp_in 13 (ln 190) ∧
    if (G.1 190 (11 : Int32).toNatClampNeg) = (((G.1 190 (12 : Int32).toNatClampNeg) + (G.1 190 (13 : Int32).toNatClampNeg)) + v1) then
    post 1 G
  else
    post 0 G
else
  wpX9_fliesOf (fun (r10 : Int32) (G9 : GS) =>
    vp_in (5 + v2) (ln 190) ∧
      vp_in (8 + v2) (ln 190) ∧
      if r10 = ((G9.1 190 (5 + v2).toNatClampNeg) - (G9.1 190 (8 + v2).toNatClampNeg)) then
      ∀ z14 : Int32, z14 = v2 + 1 →
        wlX9_isConsistent_36 post n G9 v1 z14
    else
      post 0 G9) v2 G
def wlX9_isConsistent_9 (post : Int32 → GS → Prop) : Nat → GS → Int32 → Int32 → Prop
  | 0, _, _, _ => False
  | n + 1, G, v1, v2 =>
    vp_in 0 (ln 190) ∧
  if (G.1 190 (0 : Int32).toNatClampNeg) ≤ v2 then
  ∃ nn, wlX9_isConsistent_36 post nn G v1 0
else
  wpX9_of (fun (r27 : Int32) (G26 : GS) =>
    ∀ z28 : Int32, z28 = (v1 + r27) →
      ∀ z29 : Int32, z29 = v2 + 1 →
      wlX9_isConsistent_9 post n G26 z28 z29) v2 4 G
def wpX9_isConsistent (post : Int32 → GS → Prop) (G : GS) : Prop :=
  ∀ G1 : GS, G1 = gI G 189 0 0 →
  ∃ nn, wlX9_isConsistent_9 post nn G1 0 0
set_option maxHeartbeats 4000000 in
set_option maxRecDepth 100000 in
theorem okX9_isConsistent (X : Cx) (l : Launch) (hfl : l.stackTraces = false) {post : Int32 → GS → Prop}  {G : GS}  (hw : wpX9_isConsistent post G) : CT X l yX9_isConsistent cX9_isConsistent 3 (some FieldType.boolean) 3 0 0 [.ref (xa X 189)] G (Qi X post) := by
  refine mbegin (by decide) (Nat.le_of_ble_eq_true rfl) (fun p e s m below meth c hx hb hr hml hlk hown hE hz ls hl hP hD hS => ?_)
  have hl : lv_has ls 3 [(0, .ref (xa X 189))] := hl
  have hown : s.vm.findClass "FlyTreasuryModel" = some m.cls := hown
  have L36 : ∀ (n36 : Nat) (G : GS) (v1 : Int32) (v2 : Int32) (H : Heap) (locs : List Loc) (ls : Array Slot), wlX9_isConsistent_36 post n36 G v1 v2 → va_P (xD X) vwCl (pool X G) H → va_D (xA X) (pool X G) → va_S (xA X) s.heap H locs → lv_has ls 3 [(0, .ref (xa X 189)), (1, .int v1), (2, .int v2)] → W p l e (rmL 3 0 0) s m [.ref (xa X 189)].toArray below meth c H locs 0 0 (MQ below (Qi X post) [.ref (xa X 189)].toArray s 0 0 (xA X)) (F0 m 36 ls []) := by
    intro n36
    induction n36 with
    | zero => intro G v1 v2  H locs ls hw; exact hw.elim
    | succ n36 ih36 =>
      intro G v1 v2  H locs ls hw hP hD hS hl
      rw [wlX9_isConsistent_36] at hw
      refine lv_iload_n hx hb dX9_isConsistent_36 rfl (lv_at hl 2 rfl) ?_
      refine lv_iconst (v := 3) hx hb dX9_isConsistent_37 (by decide) ?_
      refine lv_icmp_ge (tgt := 75) hx hb dX9_isConsistent_38 (by decide) (fun c15 => ?_) (fun c15 => ?_)
      · replace hw := ite_t hw c15
        refine lv_aload_n hx hb dX9_isConsistent_75 rfl (lv_at hl 0 rfl) ?_
        refine gf_X9_1 hx hb hE hP hown rfl (hE.w qw_1571 rfl _) dX9_isConsistent_76 ?_
        refine lv_bipush (v := 11) hx hb dX9_isConsistent_79 (by decide) ?_
        obtain ⟨y16, hw⟩ := hw
        refine ald_2 hx hb hE hP rfl y16 dX9_isConsistent_81 ?_
        refine lv_aload_n hx hb dX9_isConsistent_82 rfl (lv_at hl 0 rfl) ?_
        refine gf_X9_1 hx hb hE hP hown rfl (hE.w qw_1571 rfl _) dX9_isConsistent_83 ?_
        refine lv_bipush (v := 12) hx hb dX9_isConsistent_86 (by decide) ?_
        obtain ⟨y17, hw⟩ := hw
        refine ald_2 hx hb hE hP rfl y17 dX9_isConsistent_88 ?_
        refine lv_aload_n hx hb dX9_isConsistent_89 rfl (lv_at hl 0 rfl) ?_
        refine gf_X9_1 hx hb hE hP hown rfl (hE.w qw_1571 rfl _) dX9_isConsistent_90 ?_
        refine lv_bipush (v := 13) hx hb dX9_isConsistent_93 (by decide) ?_
        obtain ⟨y18, hw⟩ := hw
        refine ald_2 hx hb hE hP rfl y18 dX9_isConsistent_95 ?_
        refine lv_iadd hx hb dX9_isConsistent_96 ?_
        refine lv_iload_n hx hb dX9_isConsistent_97 rfl (lv_at hl 1 rfl) ?_
        refine lv_iadd hx hb dX9_isConsistent_98 ?_
        refine lv_icmp_ne (tgt := 106) hx hb dX9_isConsistent_99 (by decide) (fun c19 => ?_) (fun c19 => ?_)
        · replace hw := ite_f hw c19
          refine lv_iconst (v := 0) hx hb dX9_isConsistent_106 (by decide) ?_
          exact end_i hx hb hr hlk (by decide) hw hP hD hS dX9_isConsistent_107
        · replace hw := ite_t hw c19
          refine lv_iconst (v := 1) hx hb dX9_isConsistent_102 (by decide) ?_
          refine lv_goto (tgt := 107) hx hb dX9_isConsistent_103 (by decide) ?_
          exact end_i hx hb hr hlk (by decide) hw hP hD hS dX9_isConsistent_107
      · replace hw := ite_f hw c15
        refine lv_aload_n hx hb dX9_isConsistent_41 rfl (lv_at hl 0 rfl) ?_
        refine lv_iload_n hx hb dX9_isConsistent_42 rfl (lv_at hl 2 rfl) ?_
        refine call_i (run_V (cc := cX9_isConsistent) (As := [.int v2]) (rest := []) hx hb hml hown hE hz (okX9_fliesOf X l hfl  hw) qw_1887 qw_1889 qw_53 qw_86 qw_1890 (myX9_fliesOf) ⟨Nat.le_of_ble_eq_true rfl, Nat.le_of_ble_eq_true rfl⟩ (rv_X9 hE hP rfl) hP hD hS rfl hl.1 rfl (Nat.le_of_ble_eq_true rfl) dX9_isConsistent_43 ⟨Nat.le_of_ble_eq_true rfl, Nat.le_of_ble_eq_true rfl⟩) hS (fun r21 G20 H locs hw hP hD hS => ?_)
        refine lv_aload_n hx hb dX9_isConsistent_46 rfl (lv_at hl 0 rfl) ?_
        refine gf_X9_1 hx hb hE hP hown rfl (hE.w qw_1571 rfl _) dX9_isConsistent_47 ?_
        refine lv_iconst (v := 5) hx hb dX9_isConsistent_50 (by decide) ?_
        refine lv_iload_n hx hb dX9_isConsistent_51 rfl (lv_at hl 2 rfl) ?_
        refine lv_iadd hx hb dX9_isConsistent_52 ?_
        obtain ⟨y22, hw⟩ := hw
        refine ald_2 hx hb hE hP rfl y22 dX9_isConsistent_53 ?_
        refine lv_aload_n hx hb dX9_isConsistent_54 rfl (lv_at hl 0 rfl) ?_
        refine gf_X9_1 hx hb hE hP hown rfl (hE.w qw_1571 rfl _) dX9_isConsistent_55 ?_
        refine lv_bipush (v := 8) hx hb dX9_isConsistent_58 (by decide) ?_
        refine lv_iload_n hx hb dX9_isConsistent_60 rfl (lv_at hl 2 rfl) ?_
        refine lv_iadd hx hb dX9_isConsistent_61 ?_
        obtain ⟨y23, hw⟩ := hw
        refine ald_2 hx hb hE hP rfl y23 dX9_isConsistent_62 ?_
        refine lv_isub hx hb dX9_isConsistent_63 ?_
        refine lv_icmp_eq (tgt := 69) hx hb dX9_isConsistent_64 (by decide) (fun c24 => ?_) (fun c24 => ?_)
        · replace hw := ite_t hw c24
          obtain ⟨z25, ez25⟩ : ∃ y : Int32, y = v2 + 1 := ⟨_, rfl⟩
          replace hw := hw z25 ez25
          refine lv_iinc (v := z25) (lv' := [(2, .int z25), (0, .ref (xa X 189)), (1, .int v1)]) hx hb dX9_isConsistent_69 hl (k := 2) rfl (by rw [ez25]; rfl) (by decide) rfl (fun ls hl => ?_)
          refine lv_goto (tgt := 36) hx hb dX9_isConsistent_72 (by decide) ?_
          exact ih36 G20 v1 z25  _ _ _ hw hP hD hS (lv_sub hl [1, 2, 0] rfl)
        · replace hw := ite_f hw c24
          refine lv_iconst (v := 0) hx hb dX9_isConsistent_67 (by decide) ?_
          exact end_i hx hb hr hlk (by decide) hw hP hD hS dX9_isConsistent_68
  have L9 : ∀ (n9 : Nat) (G : GS) (v1 : Int32) (v2 : Int32) (H : Heap) (locs : List Loc) (ls : Array Slot), wlX9_isConsistent_9 post n9 G v1 v2 → va_P (xD X) vwCl (pool X G) H → va_D (xA X) (pool X G) → va_S (xA X) s.heap H locs → lv_has ls 3 [(0, .ref (xa X 189)), (1, .int v1), (2, .int v2)] → W p l e (rmL 3 0 0) s m [.ref (xa X 189)].toArray below meth c H locs 0 0 (MQ below (Qi X post) [.ref (xa X 189)].toArray s 0 0 (xA X)) (F0 m 9 ls []) := by
    intro n9
    induction n9 with
    | zero => intro G v1 v2  H locs ls hw; exact hw.elim
    | succ n9 ih9 =>
      intro G v1 v2  H locs ls hw hP hD hS hl
      rw [wlX9_isConsistent_9] at hw
      refine lv_iload_n hx hb dX9_isConsistent_9 rfl (lv_at hl 2 rfl) ?_
      refine lv_aload_n hx hb dX9_isConsistent_10 rfl (lv_at hl 0 rfl) ?_
      refine gf_X9_1 hx hb hE hP hown rfl (hE.w qw_1571 rfl _) dX9_isConsistent_11 ?_
      refine lv_iconst (v := 0) hx hb dX9_isConsistent_14 (by decide) ?_
      obtain ⟨y30, hw⟩ := hw
      refine ald_2 hx hb hE hP rfl y30 dX9_isConsistent_15 ?_
      refine lv_icmp_ge (tgt := 34) hx hb dX9_isConsistent_16 (by decide) (fun c31 => ?_) (fun c31 => ?_)
      · replace hw := ite_t hw c31
        refine lv_iconst (v := 0) hx hb dX9_isConsistent_34 (by decide) ?_
        refine lv_istore_n (lv' := [(2, .int 0), (0, .ref (xa X 189)), (1, .int v1)]) hx hb dX9_isConsistent_35 rfl hl (by decide) rfl (fun ls hl => ?_)
        obtain ⟨nn, hw⟩ := hw
        exact L36 nn G v1 0  _ _ _ hw hP hD hS (lv_sub hl [1, 2, 0] rfl)
      · replace hw := ite_f hw c31
        refine lv_iload_n hx hb dX9_isConsistent_19 rfl (lv_at hl 1 rfl) ?_
        refine lv_aload_n hx hb dX9_isConsistent_20 rfl (lv_at hl 0 rfl) ?_
        refine lv_iload_n hx hb dX9_isConsistent_21 rfl (lv_at hl 2 rfl) ?_
        refine lv_iconst (v := 4) hx hb dX9_isConsistent_22 (by decide) ?_
        refine call_i (run_V (cc := cX9_isConsistent) (As := [.int v2, .int 4]) (rest := [.int v1]) hx hb hml hown hE hz (okX9_of X l hfl  hw) qw_1675 qw_1677 qw_28 qw_86 qw_1678 (myX9_of) ⟨Nat.le_of_ble_eq_true rfl, Nat.le_of_ble_eq_true rfl⟩ (rv_X9 hE hP rfl) hP hD hS rfl hl.1 rfl (Nat.le_of_ble_eq_true rfl) dX9_isConsistent_23 ⟨Nat.le_of_ble_eq_true rfl, Nat.le_of_ble_eq_true rfl⟩) hS (fun r33 G32 H locs hw hP hD hS => ?_)
        refine lv_iadd hx hb dX9_isConsistent_26 ?_
        refine lv_topi (fun z34 ez34 => ?_)
        replace hw := hw z34 ez34
        refine lv_istore_n (lv' := [(1, .int z34), (0, .ref (xa X 189)), (2, .int v2)]) hx hb dX9_isConsistent_27 rfl hl (by decide) rfl (fun ls hl => ?_)
        obtain ⟨z35, ez35⟩ : ∃ y : Int32, y = v2 + 1 := ⟨_, rfl⟩
        replace hw := hw z35 ez35
        refine lv_iinc (v := z35) (lv' := [(2, .int z35), (1, .int z34), (0, .ref (xa X 189))]) hx hb dX9_isConsistent_28 hl (k := 2) rfl (by rw [ez35]; rfl) (by decide) rfl (fun ls hl => ?_)
        refine lv_goto (tgt := 9) hx hb dX9_isConsistent_31 (by decide) ?_
        exact ih9 G32 z34 z35  _ _ _ hw hP hD hS (lv_sub hl [2, 1, 0] rfl)
  unfold wpX9_isConsistent at hw
  refine lv_aload_n hx hb dX9_isConsistent_0 rfl (lv_at hl 0 rfl) ?_
  refine lv_iconst (v := 0) hx hb dX9_isConsistent_1 (by decide) ?_
  refine pf_X9_0 hx hb hE hP hD hS hown rfl (hE.w qw_1570 rfl _) dX9_isConsistent_2 (fun G1 H locs eG1 hP hD hS => ?_)
  replace hw := hw G1 eG1
  refine lv_iconst (v := 0) hx hb dX9_isConsistent_5 (by decide) ?_
  refine lv_istore_n (lv' := [(1, .int 0), (0, .ref (xa X 189))]) hx hb dX9_isConsistent_6 rfl hl (by decide) rfl (fun ls hl => ?_)
  refine lv_iconst (v := 0) hx hb dX9_isConsistent_7 (by decide) ?_
  refine lv_istore_n (lv' := [(2, .int 0), (1, .int 0), (0, .ref (xa X 189))]) hx hb dX9_isConsistent_8 rfl hl (by decide) rfl (fun ls hl => ?_)
  obtain ⟨nn, hw⟩ := hw
  exact L9 nn G1 0 0  _ _ _ hw hP hD hS (lv_sub hl [2, 1, 0] rfl)
def wpX9_writes (post : GS → Prop) (a1 : Int32) (G : GS) : Prop :=
  vp_in (G.1 189 9) 60 ∧ ∀ G2 : GS, G2 = gI G 194 ((G.1 189 9).toNatClampNeg) (vp_nar .char ((a1.toUInt32 % 65536).toInt32)) →
  ∀ G3 : GS, G3 = gI G2 189 9 ((G2.1 189 9) + 1) →
  post G3
set_option maxHeartbeats 4000000 in
set_option maxRecDepth 100000 in
theorem okX9_writes (X : Cx) (l : Launch) (hfl : l.stackTraces = false) {post : GS → Prop} {a1 : Int32} {G : GS}  (hw : wpX9_writes post a1 G) : CT X l yX9_writes cX9_writes 2 none 1 0 0 [.ref (xa X 189), .int a1] G (Qv X post) := by
  refine mbegin (by decide) (Nat.le_of_ble_eq_true rfl) (fun p e s m below meth c hx hb hr hml hlk hown hE hz ls hl hP hD hS => ?_)
  have hl : lv_has ls 2 [(0, .ref (xa X 189)), (1, .int a1)] := hl
  have hown : s.vm.findClass "FlyTreasuryModel" = some m.cls := hown
  unfold wpX9_writes at hw
  refine lv_aload_n hx hb dX9_writes_0 rfl (lv_at hl 0 rfl) ?_
  refine gf_X9_8 hx hb hE hP hown rfl (hE.w qw_1578 rfl _) dX9_writes_1 ?_
  refine lv_aload_n hx hb dX9_writes_4 rfl (lv_at hl 0 rfl) ?_
  refine gf_X9_9 hx hb hE hP hown rfl (hE.w qw_1579 rfl _) dX9_writes_5 ?_
  refine lv_iload_n hx hb dX9_writes_8 rfl (lv_at hl 1 rfl) ?_
  refine lv_i2c hx hb dX9_writes_9 rfl ?_
  obtain ⟨y1, hw⟩ := hw
  refine ast_8 hx hb hE hP hD hS rfl y1 dX9_writes_10 (fun G2 H locs eG2 hP hD hS => ?_)
  replace hw := hw G2 eG2
  refine lv_aload_n hx hb dX9_writes_11 rfl (lv_at hl 0 rfl) ?_
  refine lv_dup hx hb dX9_writes_12 rfl ?_
  refine gf_X9_9 hx hb hE hP hown rfl (hE.w qw_1579 rfl _) dX9_writes_13 ?_
  refine lv_iconst (v := 1) hx hb dX9_writes_16 (by decide) ?_
  refine lv_iadd hx hb dX9_writes_17 ?_
  refine pf_X9_9 hx hb hE hP hD hS hown rfl (hE.w qw_1579 rfl _) dX9_writes_18 (fun G3 H locs eG3 hP hD hS => ?_)
  replace hw := hw G3 eG3
  exact end_v hx hb hr hlk hw hP hD hS dX9_writes_21
def wlX9_writesNumber_20 (post : GS → Prop) (a1 : Int32) : Nat → GS → Int32 → Prop
  | 0, _, _ => False
  | n + 1, G, v3 =>
    if v3 ≤ 0 then
  post G
else
  ¬ v3 = 0 ∧
    wpX9_writes (fun (G6 : GS) =>
    ∀ z8 : Int32, z8 = (v3 / 10) →
      wlX9_writesNumber_20 post a1 n G6 z8) (48 + ((a1 / v3) - (a1 / v3) / 10 * 10)) G
def wlX9_writesNumber_2 (post : GS → Prop) (a1 : Int32) : Nat → GS → Int32 → Prop
  | 0, _, _ => False
  | n + 1, G, v2 =>
    ¬ v2 = 0 ∧
  if (a1 / v2) ≤ 9 then
  ∃ nn, wlX9_writesNumber_20 post a1 nn G v2
else
  ∀ z15 : Int32, z15 = (v2 * 10) →
    wlX9_writesNumber_2 post a1 n G z15
def wpX9_writesNumber (post : GS → Prop) (a1 : Int32) (G : GS) : Prop :=
  ∃ nn, wlX9_writesNumber_2 post a1 nn G 1
set_option maxHeartbeats 4000000 in
set_option maxRecDepth 100000 in
theorem okX9_writesNumber (X : Cx) (l : Launch) (hfl : l.stackTraces = false) {post : GS → Prop} {a1 : Int32} {G : GS}  (hw : wpX9_writesNumber post a1 G) : CT X l yX9_writesNumber cX9_writesNumber 4 none 2 0 0 [.ref (xa X 189), .int a1] G (Qv X post) := by
  refine mbegin (by decide) (Nat.le_of_ble_eq_true rfl) (fun p e s m below meth c hx hb hr hml hlk hown hE hz ls hl hP hD hS => ?_)
  have hl : lv_has ls 4 [(0, .ref (xa X 189)), (1, .int a1)] := hl
  have hown : s.vm.findClass "FlyTreasuryModel" = some m.cls := hown
  have L20 : ∀ (n20 : Nat) (G : GS) (v3 : Int32) (H : Heap) (locs : List Loc) (ls : Array Slot), wlX9_writesNumber_20 post a1 n20 G v3 → va_P (xD X) vwCl (pool X G) H → va_D (xA X) (pool X G) → va_S (xA X) s.heap H locs → lv_has ls 4 [(0, .ref (xa X 189)), (1, .int a1), (3, .int v3)] → W p l e (rmL 2 0 0) s m [.ref (xa X 189), .int a1].toArray below meth c H locs 0 0 (MQ below (Qv X post) [.ref (xa X 189), .int a1].toArray s 0 0 (xA X)) (F0 m 20 ls []) := by
    intro n20
    induction n20 with
    | zero => intro G v3  H locs ls hw; exact hw.elim
    | succ n20 ih20 =>
      intro G v3  H locs ls hw hP hD hS hl
      rw [wlX9_writesNumber_20] at hw
      refine lv_iload_n hx hb dX9_writesNumber_20 rfl (lv_at hl 2 rfl) ?_
      refine lv_if_le (tgt := 45) hx hb dX9_writesNumber_21 (by decide) (fun c9 => ?_) (fun c9 => ?_)
      · replace hw := ite_t hw c9
        exact end_v hx hb hr hlk hw hP hD hS dX9_writesNumber_45
      · replace hw := ite_f hw c9
        refine lv_aload_n hx hb dX9_writesNumber_24 rfl (lv_at hl 0 rfl) ?_
        refine lv_bipush (v := 48) hx hb dX9_writesNumber_25 (by decide) ?_
        refine lv_iload_n hx hb dX9_writesNumber_27 rfl (lv_at hl 1 rfl) ?_
        refine lv_iload_n hx hb dX9_writesNumber_28 rfl (lv_at hl 2 rfl) ?_
        obtain ⟨y10, hw⟩ := hw
        refine lv_idiv hx hb dX9_writesNumber_29 y10 ?_
        refine lv_bipush (v := 10) hx hb dX9_writesNumber_30 (by decide) ?_
        refine lv_irem hx hb dX9_writesNumber_32 (by decide) ?_
        refine lv_iadd hx hb dX9_writesNumber_33 ?_
        refine call_v (run_V (cc := cX9_writesNumber) (As := [.int (48 + ((a1 / v3) - (a1 / v3) / 10 * 10))]) (rest := []) hx hb hml hown hE hz (okX9_writes X l hfl  hw) qw_1963 qw_1965 qw_56 qw_86 qw_1966 (myX9_writes) ⟨Nat.le_of_ble_eq_true rfl, Nat.le_of_ble_eq_true rfl⟩ (rv_X9 hE hP rfl) hP hD hS rfl hl.1 rfl (Nat.le_of_ble_eq_true rfl) dX9_writesNumber_34 ⟨Nat.le_of_ble_eq_true rfl, Nat.le_of_ble_eq_true rfl⟩) hS (fun G12 H locs hw hP hD hS => ?_)
        refine lv_iload_n hx hb dX9_writesNumber_37 rfl (lv_at hl 2 rfl) ?_
        refine lv_bipush (v := 10) hx hb dX9_writesNumber_38 (by decide) ?_
        refine lv_idiv hx hb dX9_writesNumber_40 (by decide) ?_
        refine lv_topi (fun z14 ez14 => ?_)
        replace hw := hw z14 ez14
        refine lv_istore_n (lv' := [(3, .int z14), (0, .ref (xa X 189)), (1, .int a1)]) hx hb dX9_writesNumber_41 rfl hl (by decide) rfl (fun ls hl => ?_)
        refine lv_goto (tgt := 20) hx hb dX9_writesNumber_42 (by decide) ?_
        exact ih20 G12 z14  _ _ _ hw hP hD hS (lv_sub hl [1, 2, 0] rfl)
  have L2 : ∀ (n2 : Nat) (G : GS) (v2 : Int32) (H : Heap) (locs : List Loc) (ls : Array Slot), wlX9_writesNumber_2 post a1 n2 G v2 → va_P (xD X) vwCl (pool X G) H → va_D (xA X) (pool X G) → va_S (xA X) s.heap H locs → lv_has ls 4 [(0, .ref (xa X 189)), (1, .int a1), (2, .int v2)] → W p l e (rmL 2 0 0) s m [.ref (xa X 189), .int a1].toArray below meth c H locs 0 0 (MQ below (Qv X post) [.ref (xa X 189), .int a1].toArray s 0 0 (xA X)) (F0 m 2 ls []) := by
    intro n2
    induction n2 with
    | zero => intro G v2  H locs ls hw; exact hw.elim
    | succ n2 ih2 =>
      intro G v2  H locs ls hw hP hD hS hl
      rw [wlX9_writesNumber_2] at hw
      refine lv_iload_n hx hb dX9_writesNumber_2 rfl (lv_at hl 1 rfl) ?_
      refine lv_iload_n hx hb dX9_writesNumber_3 rfl (lv_at hl 2 rfl) ?_
      obtain ⟨y16, hw⟩ := hw
      refine lv_idiv hx hb dX9_writesNumber_4 y16 ?_
      refine lv_bipush (v := 9) hx hb dX9_writesNumber_5 (by decide) ?_
      refine lv_icmp_le (tgt := 18) hx hb dX9_writesNumber_7 (by decide) (fun c17 => ?_) (fun c17 => ?_)
      · replace hw := ite_t hw c17
        refine lv_iload_n hx hb dX9_writesNumber_18 rfl (lv_at hl 2 rfl) ?_
        refine lv_istore_n (lv' := [(3, .int v2), (0, .ref (xa X 189)), (1, .int a1), (2, .int v2)]) hx hb dX9_writesNumber_19 rfl hl (by decide) rfl (fun ls hl => ?_)
        obtain ⟨nn, hw⟩ := hw
        exact L20 nn G v2  _ _ _ hw hP hD hS (lv_sub hl [1, 2, 0] rfl)
      · replace hw := ite_f hw c17
        refine lv_iload_n hx hb dX9_writesNumber_10 rfl (lv_at hl 2 rfl) ?_
        refine lv_bipush (v := 10) hx hb dX9_writesNumber_11 (by decide) ?_
        refine lv_imul hx hb dX9_writesNumber_13 ?_
        refine lv_topi (fun z18 ez18 => ?_)
        replace hw := hw z18 ez18
        refine lv_istore_n (lv' := [(2, .int z18), (0, .ref (xa X 189)), (1, .int a1)]) hx hb dX9_writesNumber_14 rfl hl (by decide) rfl (fun ls hl => ?_)
        refine lv_goto (tgt := 2) hx hb dX9_writesNumber_15 (by decide) ?_
        exact ih2 G z18  _ _ _ hw hP hD hS (lv_sub hl [1, 2, 0] rfl)
  unfold wpX9_writesNumber at hw
  refine lv_iconst (v := 1) hx hb dX9_writesNumber_0 (by decide) ?_
  refine lv_istore_n (lv' := [(2, .int 1), (0, .ref (xa X 189)), (1, .int a1)]) hx hb dX9_writesNumber_1 rfl hl (by decide) rfl (fun ls hl => ?_)
  obtain ⟨nn, hw⟩ := hw
  exact L2 nn G 1  _ _ _ hw hP hD hS (lv_sub hl [1, 2, 0] rfl)
