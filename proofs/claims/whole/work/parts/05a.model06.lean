def wbX9_renderVault_130 (post : Int32 → GS → Prop) (a1 : Int32) (G : GS) : Prop :=
  post (G.1 189 9) G
def wlX9_renderVault_26 (post : Int32 → GS → Prop) (a1 : Int32) : Nat → GS → Int32 → Prop
  | 0, _, _ => False
  | n + 1, G, v2 =>
    if 3 ≤ v2 then
  wpX9_writes (fun (G7 : GS) =>
    wpX9_of (fun (r9 : Int32) (G8 : GS) =>
      wpX9_writesNumber (fun (G10 : GS) =>
        wpX9_writes (fun (G11 : GS) =>
          wpX9_of (fun (r13 : Int32) (G12 : GS) =>
            wpX9_writesNumber (fun (G14 : GS) =>
              wpX9_writes (fun (G15 : GS) =>
                wpX9_of (fun (r17 : Int32) (G16 : GS) =>
                  wpX9_writesNumber (fun (G18 : GS) =>
                    wpX9_of (fun (r20 : Int32) (G19 : GS) =>
                      if r20 ≤ 0 then
                        wbX9_renderVault_130 post a1 G19
                      else
                        wpX9_writes (fun (G22 : GS) =>
                          wpX9_of (fun (r24 : Int32) (G23 : GS) =>
                            wpX9_writesNumber (fun (G25 : GS) =>
                              wbX9_renderVault_130 post a1 G25) r24 G23) a1 7 G22) 42 G19) a1 7 G18) r17 G16) a1 5 G15) 119 G14) r13 G12) a1 4 G11) 126 G10) r9 G8) a1 3 G7) 43 G
else
  wpX9_letterOf (fun (r27 : Int32) (G26 : GS) =>
    wpX9_writes (fun (G28 : GS) =>
      wpX9_of (fun (r30 : Int32) (G29 : GS) =>
        wpX9_writesNumber (fun (G31 : GS) =>
          ∀ z32 : Int32, z32 = v2 + 1 →
            wlX9_renderVault_26 post a1 n G31 z32) r30 G29) a1 v2 G28) r27 G26) v2 G
def wpX9_renderVault (post : Int32 → GS → Prop) (a1 : Int32) (G : GS) : Prop :=
  ∀ G1 : GS, G1 = gI G 189 0 0 →
  wpX9_isVault (fun (r3 : Int32) (G2 : GS) =>
  if r3 = 0 then
    wpX9_fails (fun (r61 : Int32) (G60 : GS) =>
      post r61 G60) 1 G2
  else
    ∀ G5 : GS, G5 = gI G2 189 9 0 →
      ∃ nn, wlX9_renderVault_26 post a1 nn G5 0) a1 G1
set_option maxHeartbeats 4000000 in
set_option maxRecDepth 100000 in
theorem okX9_renderVault (X : Cx) (l : Launch) (hfl : l.stackTraces = false) {post : Int32 → GS → Prop} {a1 : Int32} {G : GS}  (hw : wpX9_renderVault post a1 G) : CT X l yX9_renderVault cX9_renderVault 3 (some FieldType.int) 3 0 0 [.ref (xa X 189), .int a1] G (Qi X post) := by
  refine mbegin (by decide) (Nat.le_of_ble_eq_true rfl) (fun p e s m below meth c hx hb hr hml hlk hown hE hz ls hl hP hD hS => ?_)
  have hl : lv_has ls 3 [(0, .ref (xa X 189)), (1, .int a1)] := hl
  have hown : s.vm.findClass "FlyTreasuryModel" = some m.cls := hown
  have B130 : ∀ (G : GS) (H : Heap) (locs : List Loc) (ls : Array Slot), wbX9_renderVault_130 post a1 G  → va_P (xD X) vwCl (pool X G) H → va_D (xA X) (pool X G) → va_S (xA X) s.heap H locs → lv_has ls 3 [(0, .ref (xa X 189))] → W p l e (rmL 3 0 0) s m [.ref (xa X 189), .int a1].toArray below meth c H locs 0 0 (MQ below (Qi X post) [.ref (xa X 189), .int a1].toArray s 0 0 (xA X)) (F0 m 130 ls []) := by
    intro G   H locs ls hw hP hD hS hl
    unfold wbX9_renderVault_130 at hw
    refine lv_aload_n hx hb dX9_renderVault_130 rfl (lv_at hl 0 rfl) ?_
    refine gf_X9_9 hx hb hE hP hown rfl (hE.w qw_1579 rfl _) dX9_renderVault_131 ?_
    exact end_i hx hb hr hlk rfl hw hP hD hS dX9_renderVault_134
  have L26 : ∀ (n26 : Nat) (G : GS) (v2 : Int32) (H : Heap) (locs : List Loc) (ls : Array Slot), wlX9_renderVault_26 post a1 n26 G v2 → va_P (xD X) vwCl (pool X G) H → va_D (xA X) (pool X G) → va_S (xA X) s.heap H locs → lv_has ls 3 [(0, .ref (xa X 189)), (1, .int a1), (2, .int v2)] → W p l e (rmL 3 0 0) s m [.ref (xa X 189), .int a1].toArray below meth c H locs 0 0 (MQ below (Qi X post) [.ref (xa X 189), .int a1].toArray s 0 0 (xA X)) (F0 m 26 ls []) := by
    intro n26
    induction n26 with
    | zero => intro G v2  H locs ls hw; exact hw.elim
    | succ n26 ih26 =>
      intro G v2  H locs ls hw hP hD hS hl
      rw [wlX9_renderVault_26] at hw
      refine lv_iload_n hx hb dX9_renderVault_26 rfl (lv_at hl 2 rfl) ?_
      refine lv_iconst (v := 3) hx hb dX9_renderVault_27 (by decide) ?_
      refine lv_icmp_ge (tgt := 55) hx hb dX9_renderVault_28 (by decide) (fun c33 => ?_) (fun c33 => ?_)
      · replace hw := ite_t hw c33
        refine lv_aload_n hx hb dX9_renderVault_55 rfl (lv_at hl 0 rfl) ?_
        refine lv_bipush (v := 43) hx hb dX9_renderVault_56 (by decide) ?_
        refine call_v (run_V (cc := cX9_renderVault) (As := [.int 43]) (rest := []) hx hb hml hown hE hz (okX9_writes X l hfl  hw) qw_1963 qw_1965 qw_56 qw_86 qw_1966 (myX9_writes) ⟨Nat.le_of_ble_eq_true rfl, Nat.le_of_ble_eq_true rfl⟩ (rv_X9 hE hP rfl) hP hD hS rfl hl.1 rfl (Nat.le_of_ble_eq_true rfl) dX9_renderVault_58 ⟨Nat.le_of_ble_eq_true rfl, Nat.le_of_ble_eq_true rfl⟩) hS (fun G34 H locs hw hP hD hS => ?_)
        refine lv_aload_n hx hb dX9_renderVault_61 rfl (lv_at hl 0 rfl) ?_
        refine lv_aload_n hx hb dX9_renderVault_62 rfl (lv_at hl 0 rfl) ?_
        refine lv_iload_n hx hb dX9_renderVault_63 rfl (lv_at hl 1 rfl) ?_
        refine lv_iconst (v := 3) hx hb dX9_renderVault_64 (by decide) ?_
        refine call_i (run_V (cc := cX9_renderVault) (As := [.int a1, .int 3]) (rest := [.ref (xa X 189)]) hx hb hml hown hE hz (okX9_of X l hfl  hw) qw_1675 qw_1677 qw_28 qw_86 qw_1678 (myX9_of) ⟨Nat.le_of_ble_eq_true rfl, Nat.le_of_ble_eq_true rfl⟩ (rv_X9 hE hP rfl) hP hD hS rfl hl.1 rfl (Nat.le_of_ble_eq_true rfl) dX9_renderVault_65 ⟨Nat.le_of_ble_eq_true rfl, Nat.le_of_ble_eq_true rfl⟩) hS (fun r36 G35 H locs hw hP hD hS => ?_)
        refine call_v (run_V (cc := cX9_renderVault) (As := [.int r36]) (rest := []) hx hb hml hown hE hz (okX9_writesNumber X l hfl  hw) qw_1967 qw_1969 qw_57 qw_86 qw_1970 (myX9_writesNumber) ⟨Nat.le_of_ble_eq_true rfl, Nat.le_of_ble_eq_true rfl⟩ (rv_X9 hE hP rfl) hP hD hS rfl hl.1 rfl (Nat.le_of_ble_eq_true rfl) dX9_renderVault_68 ⟨Nat.le_of_ble_eq_true rfl, Nat.le_of_ble_eq_true rfl⟩) hS (fun G37 H locs hw hP hD hS => ?_)
        refine lv_aload_n hx hb dX9_renderVault_71 rfl (lv_at hl 0 rfl) ?_
        refine lv_bipush (v := 126) hx hb dX9_renderVault_72 (by decide) ?_
        refine call_v (run_V (cc := cX9_renderVault) (As := [.int 126]) (rest := []) hx hb hml hown hE hz (okX9_writes X l hfl  hw) qw_1963 qw_1965 qw_56 qw_86 qw_1966 (myX9_writes) ⟨Nat.le_of_ble_eq_true rfl, Nat.le_of_ble_eq_true rfl⟩ (rv_X9 hE hP rfl) hP hD hS rfl hl.1 rfl (Nat.le_of_ble_eq_true rfl) dX9_renderVault_74 ⟨Nat.le_of_ble_eq_true rfl, Nat.le_of_ble_eq_true rfl⟩) hS (fun G38 H locs hw hP hD hS => ?_)
        refine lv_aload_n hx hb dX9_renderVault_77 rfl (lv_at hl 0 rfl) ?_
        refine lv_aload_n hx hb dX9_renderVault_78 rfl (lv_at hl 0 rfl) ?_
        refine lv_iload_n hx hb dX9_renderVault_79 rfl (lv_at hl 1 rfl) ?_
        refine lv_iconst (v := 4) hx hb dX9_renderVault_80 (by decide) ?_
        refine call_i (run_V (cc := cX9_renderVault) (As := [.int a1, .int 4]) (rest := [.ref (xa X 189)]) hx hb hml hown hE hz (okX9_of X l hfl  hw) qw_1675 qw_1677 qw_28 qw_86 qw_1678 (myX9_of) ⟨Nat.le_of_ble_eq_true rfl, Nat.le_of_ble_eq_true rfl⟩ (rv_X9 hE hP rfl) hP hD hS rfl hl.1 rfl (Nat.le_of_ble_eq_true rfl) dX9_renderVault_81 ⟨Nat.le_of_ble_eq_true rfl, Nat.le_of_ble_eq_true rfl⟩) hS (fun r40 G39 H locs hw hP hD hS => ?_)
        refine call_v (run_V (cc := cX9_renderVault) (As := [.int r40]) (rest := []) hx hb hml hown hE hz (okX9_writesNumber X l hfl  hw) qw_1967 qw_1969 qw_57 qw_86 qw_1970 (myX9_writesNumber) ⟨Nat.le_of_ble_eq_true rfl, Nat.le_of_ble_eq_true rfl⟩ (rv_X9 hE hP rfl) hP hD hS rfl hl.1 rfl (Nat.le_of_ble_eq_true rfl) dX9_renderVault_84 ⟨Nat.le_of_ble_eq_true rfl, Nat.le_of_ble_eq_true rfl⟩) hS (fun G41 H locs hw hP hD hS => ?_)
        refine lv_aload_n hx hb dX9_renderVault_87 rfl (lv_at hl 0 rfl) ?_
        refine lv_bipush (v := 119) hx hb dX9_renderVault_88 (by decide) ?_
        refine call_v (run_V (cc := cX9_renderVault) (As := [.int 119]) (rest := []) hx hb hml hown hE hz (okX9_writes X l hfl  hw) qw_1963 qw_1965 qw_56 qw_86 qw_1966 (myX9_writes) ⟨Nat.le_of_ble_eq_true rfl, Nat.le_of_ble_eq_true rfl⟩ (rv_X9 hE hP rfl) hP hD hS rfl hl.1 rfl (Nat.le_of_ble_eq_true rfl) dX9_renderVault_90 ⟨Nat.le_of_ble_eq_true rfl, Nat.le_of_ble_eq_true rfl⟩) hS (fun G42 H locs hw hP hD hS => ?_)
        refine lv_aload_n hx hb dX9_renderVault_93 rfl (lv_at hl 0 rfl) ?_
        refine lv_aload_n hx hb dX9_renderVault_94 rfl (lv_at hl 0 rfl) ?_
        refine lv_iload_n hx hb dX9_renderVault_95 rfl (lv_at hl 1 rfl) ?_
        refine lv_iconst (v := 5) hx hb dX9_renderVault_96 (by decide) ?_
        refine call_i (run_V (cc := cX9_renderVault) (As := [.int a1, .int 5]) (rest := [.ref (xa X 189)]) hx hb hml hown hE hz (okX9_of X l hfl  hw) qw_1675 qw_1677 qw_28 qw_86 qw_1678 (myX9_of) ⟨Nat.le_of_ble_eq_true rfl, Nat.le_of_ble_eq_true rfl⟩ (rv_X9 hE hP rfl) hP hD hS rfl hl.1 rfl (Nat.le_of_ble_eq_true rfl) dX9_renderVault_97 ⟨Nat.le_of_ble_eq_true rfl, Nat.le_of_ble_eq_true rfl⟩) hS (fun r44 G43 H locs hw hP hD hS => ?_)
        refine call_v (run_V (cc := cX9_renderVault) (As := [.int r44]) (rest := []) hx hb hml hown hE hz (okX9_writesNumber X l hfl  hw) qw_1967 qw_1969 qw_57 qw_86 qw_1970 (myX9_writesNumber) ⟨Nat.le_of_ble_eq_true rfl, Nat.le_of_ble_eq_true rfl⟩ (rv_X9 hE hP rfl) hP hD hS rfl hl.1 rfl (Nat.le_of_ble_eq_true rfl) dX9_renderVault_100 ⟨Nat.le_of_ble_eq_true rfl, Nat.le_of_ble_eq_true rfl⟩) hS (fun G45 H locs hw hP hD hS => ?_)
        refine lv_aload_n hx hb dX9_renderVault_103 rfl (lv_at hl 0 rfl) ?_
        refine lv_iload_n hx hb dX9_renderVault_104 rfl (lv_at hl 1 rfl) ?_
        refine lv_bipush (v := 7) hx hb dX9_renderVault_105 (by decide) ?_
        refine call_i (run_V (cc := cX9_renderVault) (As := [.int a1, .int 7]) (rest := []) hx hb hml hown hE hz (okX9_of X l hfl  hw) qw_1675 qw_1677 qw_28 qw_86 qw_1678 (myX9_of) ⟨Nat.le_of_ble_eq_true rfl, Nat.le_of_ble_eq_true rfl⟩ (rv_X9 hE hP rfl) hP hD hS rfl hl.1 rfl (Nat.le_of_ble_eq_true rfl) dX9_renderVault_107 ⟨Nat.le_of_ble_eq_true rfl, Nat.le_of_ble_eq_true rfl⟩) hS (fun r47 G46 H locs hw hP hD hS => ?_)
        refine lv_if_le (tgt := 130) hx hb dX9_renderVault_110 (by decide) (fun c48 => ?_) (fun c48 => ?_)
        · replace hw := ite_t hw c48
          exact B130 G46   _ _ _ hw hP hD hS (lv_sub hl [0] rfl)
        · replace hw := ite_f hw c48
          refine lv_aload_n hx hb dX9_renderVault_113 rfl (lv_at hl 0 rfl) ?_
          refine lv_bipush (v := 42) hx hb dX9_renderVault_114 (by decide) ?_
          refine call_v (run_V (cc := cX9_renderVault) (As := [.int 42]) (rest := []) hx hb hml hown hE hz (okX9_writes X l hfl  hw) qw_1963 qw_1965 qw_56 qw_86 qw_1966 (myX9_writes) ⟨Nat.le_of_ble_eq_true rfl, Nat.le_of_ble_eq_true rfl⟩ (rv_X9 hE hP rfl) hP hD hS rfl hl.1 rfl (Nat.le_of_ble_eq_true rfl) dX9_renderVault_116 ⟨Nat.le_of_ble_eq_true rfl, Nat.le_of_ble_eq_true rfl⟩) hS (fun G49 H locs hw hP hD hS => ?_)
          refine lv_aload_n hx hb dX9_renderVault_119 rfl (lv_at hl 0 rfl) ?_
          refine lv_aload_n hx hb dX9_renderVault_120 rfl (lv_at hl 0 rfl) ?_
          refine lv_iload_n hx hb dX9_renderVault_121 rfl (lv_at hl 1 rfl) ?_
          refine lv_bipush (v := 7) hx hb dX9_renderVault_122 (by decide) ?_
          refine call_i (run_V (cc := cX9_renderVault) (As := [.int a1, .int 7]) (rest := [.ref (xa X 189)]) hx hb hml hown hE hz (okX9_of X l hfl  hw) qw_1675 qw_1677 qw_28 qw_86 qw_1678 (myX9_of) ⟨Nat.le_of_ble_eq_true rfl, Nat.le_of_ble_eq_true rfl⟩ (rv_X9 hE hP rfl) hP hD hS rfl hl.1 rfl (Nat.le_of_ble_eq_true rfl) dX9_renderVault_124 ⟨Nat.le_of_ble_eq_true rfl, Nat.le_of_ble_eq_true rfl⟩) hS (fun r51 G50 H locs hw hP hD hS => ?_)
          refine call_v (run_V (cc := cX9_renderVault) (As := [.int r51]) (rest := []) hx hb hml hown hE hz (okX9_writesNumber X l hfl  hw) qw_1967 qw_1969 qw_57 qw_86 qw_1970 (myX9_writesNumber) ⟨Nat.le_of_ble_eq_true rfl, Nat.le_of_ble_eq_true rfl⟩ (rv_X9 hE hP rfl) hP hD hS rfl hl.1 rfl (Nat.le_of_ble_eq_true rfl) dX9_renderVault_127 ⟨Nat.le_of_ble_eq_true rfl, Nat.le_of_ble_eq_true rfl⟩) hS (fun G52 H locs hw hP hD hS => ?_)
          exact B130 G52   _ _ _ hw hP hD hS (lv_sub hl [0] rfl)
      · replace hw := ite_f hw c33
        refine lv_aload_n hx hb dX9_renderVault_31 rfl (lv_at hl 0 rfl) ?_
        refine lv_iload_n hx hb dX9_renderVault_32 rfl (lv_at hl 2 rfl) ?_
        refine call_i (run_S (cc := cX9_renderVault) (As := [.int v2]) (rest := [.ref (xa X 189)]) hx hb hml hown hE hz (okX9_letterOf X l hfl  hw) qw_1920 qw_1921 qw_86 qw_1922 (myX9_letterOf).2 ⟨Nat.le_of_ble_eq_true rfl, Nat.le_of_ble_eq_true rfl⟩ hP hD hS rfl hl.1 rfl (Nat.le_of_ble_eq_true rfl) dX9_renderVault_33 ⟨Nat.le_of_ble_eq_true rfl, Nat.le_of_ble_eq_true rfl⟩) hS (fun r54 G53 H locs hw hP hD hS => ?_)
        refine call_v (run_V (cc := cX9_renderVault) (As := [.int r54]) (rest := []) hx hb hml hown hE hz (okX9_writes X l hfl  hw) qw_1963 qw_1965 qw_56 qw_86 qw_1966 (myX9_writes) ⟨Nat.le_of_ble_eq_true rfl, Nat.le_of_ble_eq_true rfl⟩ (rv_X9 hE hP rfl) hP hD hS rfl hl.1 rfl (Nat.le_of_ble_eq_true rfl) dX9_renderVault_36 ⟨Nat.le_of_ble_eq_true rfl, Nat.le_of_ble_eq_true rfl⟩) hS (fun G55 H locs hw hP hD hS => ?_)
        refine lv_aload_n hx hb dX9_renderVault_39 rfl (lv_at hl 0 rfl) ?_
        refine lv_aload_n hx hb dX9_renderVault_40 rfl (lv_at hl 0 rfl) ?_
        refine lv_iload_n hx hb dX9_renderVault_41 rfl (lv_at hl 1 rfl) ?_
        refine lv_iload_n hx hb dX9_renderVault_42 rfl (lv_at hl 2 rfl) ?_
        refine call_i (run_V (cc := cX9_renderVault) (As := [.int a1, .int v2]) (rest := [.ref (xa X 189)]) hx hb hml hown hE hz (okX9_of X l hfl  hw) qw_1675 qw_1677 qw_28 qw_86 qw_1678 (myX9_of) ⟨Nat.le_of_ble_eq_true rfl, Nat.le_of_ble_eq_true rfl⟩ (rv_X9 hE hP rfl) hP hD hS rfl hl.1 rfl (Nat.le_of_ble_eq_true rfl) dX9_renderVault_43 ⟨Nat.le_of_ble_eq_true rfl, Nat.le_of_ble_eq_true rfl⟩) hS (fun r57 G56 H locs hw hP hD hS => ?_)
        refine call_v (run_V (cc := cX9_renderVault) (As := [.int r57]) (rest := []) hx hb hml hown hE hz (okX9_writesNumber X l hfl  hw) qw_1967 qw_1969 qw_57 qw_86 qw_1970 (myX9_writesNumber) ⟨Nat.le_of_ble_eq_true rfl, Nat.le_of_ble_eq_true rfl⟩ (rv_X9 hE hP rfl) hP hD hS rfl hl.1 rfl (Nat.le_of_ble_eq_true rfl) dX9_renderVault_46 ⟨Nat.le_of_ble_eq_true rfl, Nat.le_of_ble_eq_true rfl⟩) hS (fun G58 H locs hw hP hD hS => ?_)
        obtain ⟨z59, ez59⟩ : ∃ y : Int32, y = v2 + 1 := ⟨_, rfl⟩
        replace hw := hw z59 ez59
        refine lv_iinc (v := z59) (lv' := [(2, .int z59), (0, .ref (xa X 189)), (1, .int a1)]) hx hb dX9_renderVault_49 hl (k := 2) rfl (by rw [ez59]; rfl) (by decide) rfl (fun ls hl => ?_)
        refine lv_goto (tgt := 26) hx hb dX9_renderVault_52 (by decide) ?_
        exact ih26 G58 z59  _ _ _ hw hP hD hS (lv_sub hl [1, 2, 0] rfl)
  unfold wpX9_renderVault at hw
  refine lv_aload_n hx hb dX9_renderVault_0 rfl (lv_at hl 0 rfl) ?_
  refine lv_iconst (v := 0) hx hb dX9_renderVault_1 (by decide) ?_
  refine pf_X9_0 hx hb hE hP hD hS hown rfl (hE.w qw_1570 rfl _) dX9_renderVault_2 (fun G1 H locs eG1 hP hD hS => ?_)
  replace hw := hw G1 eG1
  refine lv_aload_n hx hb dX9_renderVault_5 rfl (lv_at hl 0 rfl) ?_
  refine lv_iload_n hx hb dX9_renderVault_6 rfl (lv_at hl 1 rfl) ?_
  refine call_i (run_V (cc := cX9_renderVault) (As := [.int a1]) (rest := []) hx hb hml hown hE hz (okX9_isVault X l hfl  hw) qw_1668 qw_1670 qw_27 qw_86 qw_1671 (myX9_isVault) ⟨Nat.le_of_ble_eq_true rfl, Nat.le_of_ble_eq_true rfl⟩ (rv_X9 hE hP rfl) hP hD hS rfl hl.1 rfl (Nat.le_of_ble_eq_true rfl) dX9_renderVault_7 ⟨Nat.le_of_ble_eq_true rfl, Nat.le_of_ble_eq_true rfl⟩) hS (fun r3 G2 H locs hw hP hD hS => ?_)
  refine lv_if_ne (tgt := 19) hx hb dX9_renderVault_10 (by decide) (fun c4 => ?_) (fun c4 => ?_)
  · replace hw := ite_f hw c4
    refine lv_aload_n hx hb dX9_renderVault_19 rfl (lv_at hl 0 rfl) ?_
    refine lv_iconst (v := 0) hx hb dX9_renderVault_20 (by decide) ?_
    refine pf_X9_9 hx hb hE hP hD hS hown rfl (hE.w qw_1579 rfl _) dX9_renderVault_21 (fun G5 H locs eG5 hP hD hS => ?_)
    replace hw := hw G5 eG5
    refine lv_iconst (v := 0) hx hb dX9_renderVault_24 (by decide) ?_
    refine lv_istore_n (lv' := [(2, .int 0), (0, .ref (xa X 189)), (1, .int a1)]) hx hb dX9_renderVault_25 rfl hl (by decide) rfl (fun ls hl => ?_)
    obtain ⟨nn, hw⟩ := hw
    exact L26 nn G5 0  _ _ _ hw hP hD hS (lv_sub hl [1, 2, 0] rfl)
  · replace hw := ite_t hw c4
    refine lv_aload_n hx hb dX9_renderVault_13 rfl (lv_at hl 0 rfl) ?_
    refine lv_iconst (v := 1) hx hb dX9_renderVault_14 (by decide) ?_
    refine call_i (run_V (cc := cX9_renderVault) (As := [.int 1]) (rest := []) hx hb hml hown hE hz (okX9_fails X l hfl  hw) qw_1636 qw_1638 qw_20 qw_86 qw_1639 (myX9_fails) ⟨Nat.le_of_ble_eq_true rfl, Nat.le_of_ble_eq_true rfl⟩ (rv_X9 hE hP rfl) hP hD hS rfl hl.1 rfl (Nat.le_of_ble_eq_true rfl) dX9_renderVault_15 ⟨Nat.le_of_ble_eq_true rfl, Nat.le_of_ble_eq_true rfl⟩) hS (fun r61 G60 H locs hw hP hD hS => ?_)
    exact end_i hx hb hr hlk rfl hw hP hD hS dX9_renderVault_18
def wbX9_renderRates_27 (post : Int32 → GS → Prop) (K12 : GS → Int32 → Prop) (G : GS) (v1 : Int32) : Prop :=
  wpX9_letterOf (fun (r6 : Int32) (G5 : GS) =>
  wpX9_writes (fun (G7 : GS) =>
    vp_in (2 + v1) (ln 190) ∧
      wpX9_writesNumber (fun (G9 : GS) =>
      ∀ z10 : Int32, z10 = v1 + 1 →
        K12 G9 z10) (G7.1 190 (2 + v1).toNatClampNeg) G7) r6 G5) v1 G
def wlX9_renderRates_12 (post : Int32 → GS → Prop) : Nat → GS → Int32 → Prop
  | 0, _, _ => False
  | n + 1, G, v1 =>
    if 3 ≤ v1 then
  post (G.1 189 9) G
else
  if v1 ≤ 0 then
    wbX9_renderRates_27 post (fun (G : GS) (v1 : Int32) => wlX9_renderRates_12 post n G v1) G v1
  else
    wpX9_writes (fun (G17 : GS) =>
      wbX9_renderRates_27 post (fun (G : GS) (v1 : Int32) => wlX9_renderRates_12 post n G v1) G17 v1) 44 G
def wpX9_renderRates (post : Int32 → GS → Prop) (G : GS) : Prop :=
  ∀ G1 : GS, G1 = gI G 189 0 0 →
  ∀ G2 : GS, G2 = gI G1 189 9 0 →
  ∃ nn, wlX9_renderRates_12 post nn G2 0
set_option maxHeartbeats 4000000 in
set_option maxRecDepth 100000 in
theorem okX9_renderRates (X : Cx) (l : Launch) (hfl : l.stackTraces = false) {post : Int32 → GS → Prop}  {G : GS}  (hw : wpX9_renderRates post G) : CT X l yX9_renderRates cX9_renderRates 2 (some FieldType.int) 3 0 0 [.ref (xa X 189)] G (Qi X post) := by
  refine mbegin (by decide) (Nat.le_of_ble_eq_true rfl) (fun p e s m below meth c hx hb hr hml hlk hown hE hz ls hl hP hD hS => ?_)
  have hl : lv_has ls 2 [(0, .ref (xa X 189))] := hl
  have hown : s.vm.findClass "FlyTreasuryModel" = some m.cls := hown
  have L12 : ∀ (n12 : Nat) (G : GS) (v1 : Int32) (H : Heap) (locs : List Loc) (ls : Array Slot), wlX9_renderRates_12 post n12 G v1 → va_P (xD X) vwCl (pool X G) H → va_D (xA X) (pool X G) → va_S (xA X) s.heap H locs → lv_has ls 2 [(0, .ref (xa X 189)), (1, .int v1)] → W p l e (rmL 3 0 0) s m [.ref (xa X 189)].toArray below meth c H locs 0 0 (MQ below (Qi X post) [.ref (xa X 189)].toArray s 0 0 (xA X)) (F0 m 12 ls []) := by
    intro n12
    induction n12 with
    | zero => intro G v1  H locs ls hw; exact hw.elim
    | succ n12 ih12 =>
      have B27 : ∀ (G : GS) (v1 : Int32) (H : Heap) (locs : List Loc) (ls : Array Slot), wbX9_renderRates_27 post (fun (G : GS) (v1 : Int32) => wlX9_renderRates_12 post n12 G v1) G v1 → va_P (xD X) vwCl (pool X G) H → va_D (xA X) (pool X G) → va_S (xA X) s.heap H locs → lv_has ls 2 [(0, .ref (xa X 189)), (1, .int v1)] → W p l e (rmL 3 0 0) s m [.ref (xa X 189)].toArray below meth c H locs 0 0 (MQ below (Qi X post) [.ref (xa X 189)].toArray s 0 0 (xA X)) (F0 m 27 ls []) := by
        intro G v1  H locs ls hw hP hD hS hl
        unfold wbX9_renderRates_27 at hw
        refine lv_aload_n hx hb dX9_renderRates_27 rfl (lv_at hl 0 rfl) ?_
        refine lv_iload_n hx hb dX9_renderRates_28 rfl (lv_at hl 1 rfl) ?_
        refine call_i (run_S (cc := cX9_renderRates) (As := [.int v1]) (rest := [.ref (xa X 189)]) hx hb hml hown hE hz (okX9_letterOf X l hfl  hw) qw_1920 qw_1921 qw_86 qw_1922 (myX9_letterOf).2 ⟨Nat.le_of_ble_eq_true rfl, Nat.le_of_ble_eq_true rfl⟩ hP hD hS rfl hl.1 rfl (Nat.le_of_ble_eq_true rfl) dX9_renderRates_29 ⟨Nat.le_of_ble_eq_true rfl, Nat.le_of_ble_eq_true rfl⟩) hS (fun r12 G11 H locs hw hP hD hS => ?_)
        refine call_v (run_V (cc := cX9_renderRates) (As := [.int r12]) (rest := []) hx hb hml hown hE hz (okX9_writes X l hfl  hw) qw_1963 qw_1965 qw_56 qw_86 qw_1966 (myX9_writes) ⟨Nat.le_of_ble_eq_true rfl, Nat.le_of_ble_eq_true rfl⟩ (rv_X9 hE hP rfl) hP hD hS rfl hl.1 rfl (Nat.le_of_ble_eq_true rfl) dX9_renderRates_32 ⟨Nat.le_of_ble_eq_true rfl, Nat.le_of_ble_eq_true rfl⟩) hS (fun G13 H locs hw hP hD hS => ?_)
        refine lv_aload_n hx hb dX9_renderRates_35 rfl (lv_at hl 0 rfl) ?_
        refine lv_aload_n hx hb dX9_renderRates_36 rfl (lv_at hl 0 rfl) ?_
        refine gf_X9_1 hx hb hE hP hown rfl (hE.w qw_1571 rfl _) dX9_renderRates_37 ?_
        refine lv_iconst (v := 2) hx hb dX9_renderRates_40 (by decide) ?_
        refine lv_iload_n hx hb dX9_renderRates_41 rfl (lv_at hl 1 rfl) ?_
        refine lv_iadd hx hb dX9_renderRates_42 ?_
        obtain ⟨y14, hw⟩ := hw
        refine ald_2 hx hb hE hP rfl y14 dX9_renderRates_43 ?_
        refine call_v (run_V (cc := cX9_renderRates) (As := [.int (G13.1 190 (2 + v1).toNatClampNeg)]) (rest := []) hx hb hml hown hE hz (okX9_writesNumber X l hfl  hw) qw_1967 qw_1969 qw_57 qw_86 qw_1970 (myX9_writesNumber) ⟨Nat.le_of_ble_eq_true rfl, Nat.le_of_ble_eq_true rfl⟩ (rv_X9 hE hP rfl) hP hD hS rfl hl.1 rfl (Nat.le_of_ble_eq_true rfl) dX9_renderRates_44 ⟨Nat.le_of_ble_eq_true rfl, Nat.le_of_ble_eq_true rfl⟩) hS (fun G15 H locs hw hP hD hS => ?_)
        obtain ⟨z16, ez16⟩ : ∃ y : Int32, y = v1 + 1 := ⟨_, rfl⟩
        replace hw := hw z16 ez16
        refine lv_iinc (v := z16) (lv' := [(1, .int z16), (0, .ref (xa X 189))]) hx hb dX9_renderRates_47 hl (k := 1) rfl (by rw [ez16]; rfl) (by decide) rfl (fun ls hl => ?_)
        refine lv_goto (tgt := 12) hx hb dX9_renderRates_50 (by decide) ?_
        exact ih12 G15 z16  _ _ _ hw hP hD hS (lv_sub hl [1, 0] rfl)
      intro G v1  H locs ls hw hP hD hS hl
      rw [wlX9_renderRates_12] at hw
      refine lv_iload_n hx hb dX9_renderRates_12 rfl (lv_at hl 1 rfl) ?_
      refine lv_iconst (v := 3) hx hb dX9_renderRates_13 (by decide) ?_
      refine lv_icmp_ge (tgt := 53) hx hb dX9_renderRates_14 (by decide) (fun c18 => ?_) (fun c18 => ?_)
      · replace hw := ite_t hw c18
        refine lv_aload_n hx hb dX9_renderRates_53 rfl (lv_at hl 0 rfl) ?_
        refine gf_X9_9 hx hb hE hP hown rfl (hE.w qw_1579 rfl _) dX9_renderRates_54 ?_
        exact end_i hx hb hr hlk rfl hw hP hD hS dX9_renderRates_57
      · replace hw := ite_f hw c18
        refine lv_iload_n hx hb dX9_renderRates_17 rfl (lv_at hl 1 rfl) ?_
        refine lv_if_le (tgt := 27) hx hb dX9_renderRates_18 (by decide) (fun c19 => ?_) (fun c19 => ?_)
        · replace hw := ite_t hw c19
          exact B27 G v1  _ _ _ hw hP hD hS (lv_sub hl [0, 1] rfl)
        · replace hw := ite_f hw c19
          refine lv_aload_n hx hb dX9_renderRates_21 rfl (lv_at hl 0 rfl) ?_
          refine lv_bipush (v := 44) hx hb dX9_renderRates_22 (by decide) ?_
          refine call_v (run_V (cc := cX9_renderRates) (As := [.int 44]) (rest := []) hx hb hml hown hE hz (okX9_writes X l hfl  hw) qw_1963 qw_1965 qw_56 qw_86 qw_1966 (myX9_writes) ⟨Nat.le_of_ble_eq_true rfl, Nat.le_of_ble_eq_true rfl⟩ (rv_X9 hE hP rfl) hP hD hS rfl hl.1 rfl (Nat.le_of_ble_eq_true rfl) dX9_renderRates_24 ⟨Nat.le_of_ble_eq_true rfl, Nat.le_of_ble_eq_true rfl⟩) hS (fun G20 H locs hw hP hD hS => ?_)
          exact B27 G20 v1  _ _ _ hw hP hD hS (lv_sub hl [0, 1] rfl)
  unfold wpX9_renderRates at hw
  refine lv_aload_n hx hb dX9_renderRates_0 rfl (lv_at hl 0 rfl) ?_
  refine lv_iconst (v := 0) hx hb dX9_renderRates_1 (by decide) ?_
  refine pf_X9_0 hx hb hE hP hD hS hown rfl (hE.w qw_1570 rfl _) dX9_renderRates_2 (fun G1 H locs eG1 hP hD hS => ?_)
  replace hw := hw G1 eG1
  refine lv_aload_n hx hb dX9_renderRates_5 rfl (lv_at hl 0 rfl) ?_
  refine lv_iconst (v := 0) hx hb dX9_renderRates_6 (by decide) ?_
  refine pf_X9_9 hx hb hE hP hD hS hown rfl (hE.w qw_1579 rfl _) dX9_renderRates_7 (fun G2 H locs eG2 hP hD hS => ?_)
  replace hw := hw G2 eG2
  refine lv_iconst (v := 0) hx hb dX9_renderRates_10 (by decide) ?_
  refine lv_istore_n (lv' := [(1, .int 0), (0, .ref (xa X 189))]) hx hb dX9_renderRates_11 rfl hl (by decide) rfl (fun ls hl => ?_)
  obtain ⟨nn, hw⟩ := hw
  exact L12 nn G2 0  _ _ _ hw hP hD hS (lv_sub hl [1, 0] rfl)
def wpX9_outputAt (post : Int32 → GS → Prop) (a1 : Int32) (G : GS) : Prop :=
  ∀ G1 : GS, G1 = gI G 189 0 0 →
  wpX9_isBetween (fun (r3 : Int32) (G2 : GS) =>
  if r3 = 0 then
    wpX9_fails (fun (r6 : Int32) (G5 : GS) =>
      narrow .char (.int ((r6.toUInt32 % 65536).toInt32)) = .int ((r6.toUInt32 % 65536).toInt32) ∧ post ((r6.toUInt32 % 65536).toInt32) G5) 1 G2
  else
    vp_in a1 60 ∧
      narrow .char (.int (G2.1 194 a1.toNatClampNeg)) = .int (G2.1 194 a1.toNatClampNeg) ∧ post (G2.1 194 a1.toNatClampNeg) G2) a1 0 ((G1.1 189 9) - 1) G1
set_option maxHeartbeats 4000000 in
set_option maxRecDepth 100000 in
theorem okX9_outputAt (X : Cx) (l : Launch) (hfl : l.stackTraces = false) {post : Int32 → GS → Prop} {a1 : Int32} {G : GS}  (hw : wpX9_outputAt post a1 G) : CT X l yX9_outputAt cX9_outputAt 2 (some FieldType.char) 2 0 0 [.ref (xa X 189), .int a1] G (Qi X post) := by
  refine mbegin (by decide) (Nat.le_of_ble_eq_true rfl) (fun p e s m below meth c hx hb hr hml hlk hown hE hz ls hl hP hD hS => ?_)
  have hl : lv_has ls 2 [(0, .ref (xa X 189)), (1, .int a1)] := hl
  have hown : s.vm.findClass "FlyTreasuryModel" = some m.cls := hown
  unfold wpX9_outputAt at hw
  refine lv_aload_n hx hb dX9_outputAt_0 rfl (lv_at hl 0 rfl) ?_
  refine lv_iconst (v := 0) hx hb dX9_outputAt_1 (by decide) ?_
  refine pf_X9_0 hx hb hE hP hD hS hown rfl (hE.w qw_1570 rfl _) dX9_outputAt_2 (fun G1 H locs eG1 hP hD hS => ?_)
  replace hw := hw G1 eG1
  refine lv_iload_n hx hb dX9_outputAt_5 rfl (lv_at hl 1 rfl) ?_
  refine lv_iconst (v := 0) hx hb dX9_outputAt_6 (by decide) ?_
  refine lv_aload_n hx hb dX9_outputAt_7 rfl (lv_at hl 0 rfl) ?_
  refine gf_X9_9 hx hb hE hP hown rfl (hE.w qw_1579 rfl _) dX9_outputAt_8 ?_
  refine lv_iconst (v := 1) hx hb dX9_outputAt_11 (by decide) ?_
  refine lv_isub hx hb dX9_outputAt_12 ?_
  refine call_i (run_S (cc := cX9_outputAt) (As := [.int a1, .int 0, .int ((G1.1 189 9) - 1)]) (rest := []) hx hb hml hown hE hz (okX9_isBetween X l hfl  hw) qw_1633 qw_1634 qw_86 qw_1635 (myX9_isBetween).2 ⟨Nat.le_of_ble_eq_true rfl, Nat.le_of_ble_eq_true rfl⟩ hP hD hS rfl hl.1 rfl (Nat.le_of_ble_eq_true rfl) dX9_outputAt_13 ⟨Nat.le_of_ble_eq_true rfl, Nat.le_of_ble_eq_true rfl⟩) hS (fun r3 G2 H locs hw hP hD hS => ?_)
  refine lv_if_eq (tgt := 26) hx hb dX9_outputAt_16 (by decide) (fun c4 => ?_) (fun c4 => ?_)
  · replace hw := ite_t hw c4
    refine lv_aload_n hx hb dX9_outputAt_26 rfl (lv_at hl 0 rfl) ?_
    refine lv_iconst (v := 1) hx hb dX9_outputAt_27 (by decide) ?_
    refine call_i (run_V (cc := cX9_outputAt) (As := [.int 1]) (rest := []) hx hb hml hown hE hz (okX9_fails X l hfl  hw) qw_1636 qw_1638 qw_20 qw_86 qw_1639 (myX9_fails) ⟨Nat.le_of_ble_eq_true rfl, Nat.le_of_ble_eq_true rfl⟩ (rv_X9 hE hP rfl) hP hD hS rfl hl.1 rfl (Nat.le_of_ble_eq_true rfl) dX9_outputAt_28 ⟨Nat.le_of_ble_eq_true rfl, Nat.le_of_ble_eq_true rfl⟩) hS (fun r6 G5 H locs hw hP hD hS => ?_)
    refine lv_i2c hx hb dX9_outputAt_31 rfl ?_
    obtain ⟨y7, hw⟩ := hw
    exact end_i hx hb hr hlk y7 hw hP hD hS dX9_outputAt_32
  · replace hw := ite_f hw c4
    refine lv_aload_n hx hb dX9_outputAt_19 rfl (lv_at hl 0 rfl) ?_
    refine gf_X9_8 hx hb hE hP hown rfl (hE.w qw_1578 rfl _) dX9_outputAt_20 ?_
    refine lv_iload_n hx hb dX9_outputAt_23 rfl (lv_at hl 1 rfl) ?_
    obtain ⟨y8, hw⟩ := hw
    refine ald_8 hx hb hE hP rfl y8 dX9_outputAt_24 ?_
    obtain ⟨y9, hw⟩ := hw
    exact end_i hx hb hr hlk y9 hw hP hD hS dX9_outputAt_25
def wpX9_type (post : Int32 → GS → Prop) (a1 : Int32) (G : GS) : Prop :=
  ∀ G1 : GS, G1 = gI G 189 0 0 →
  wpX9_isBetween (fun (r3 : Int32) (G2 : GS) =>
  if r3 = 0 then
    wpX9_fails (fun (r12 : Int32) (G11 : GS) =>
      post r12 G11) 1 G2
  else
    if (G2.1 189 11) = 60 then
      wpX9_fails (fun (r10 : Int32) (G9 : GS) =>
        post r10 G9) 2 G2
    else
      vp_in (G2.1 189 11) 60 ∧ ∀ G7 : GS, G7 = gI G2 195 ((G2.1 189 11).toNatClampNeg) (vp_nar .char a1) →
        ∀ G8 : GS, G8 = gI G7 189 11 ((G7.1 189 11) + 1) →
        post (G8.1 189 11) G8) a1 32 126 G1
set_option maxHeartbeats 4000000 in
set_option maxRecDepth 100000 in
theorem okX9_type (X : Cx) (l : Launch) (hfl : l.stackTraces = false) {post : Int32 → GS → Prop} {a1 : Int32} {G : GS}  (hw : wpX9_type post a1 G) : CT X l yX9_type cX9_type 2 (some FieldType.int) 2 0 0 [.ref (xa X 189), .int a1] G (Qi X post) := by
  refine mbegin (by decide) (Nat.le_of_ble_eq_true rfl) (fun p e s m below meth c hx hb hr hml hlk hown hE hz ls hl hP hD hS => ?_)
  have hl : lv_has ls 2 [(0, .ref (xa X 189)), (1, .int a1)] := hl
  have hown : s.vm.findClass "FlyTreasuryModel" = some m.cls := hown
  unfold wpX9_type at hw
  refine lv_aload_n hx hb dX9_type_0 rfl (lv_at hl 0 rfl) ?_
  refine lv_iconst (v := 0) hx hb dX9_type_1 (by decide) ?_
  refine pf_X9_0 hx hb hE hP hD hS hown rfl (hE.w qw_1570 rfl _) dX9_type_2 (fun G1 H locs eG1 hP hD hS => ?_)
  replace hw := hw G1 eG1
  refine lv_iload_n hx hb dX9_type_5 rfl (lv_at hl 1 rfl) ?_
  refine lv_bipush (v := 32) hx hb dX9_type_6 (by decide) ?_
  refine lv_bipush (v := 126) hx hb dX9_type_8 (by decide) ?_
  refine call_i (run_S (cc := cX9_type) (As := [.int a1, .int 32, .int 126]) (rest := []) hx hb hml hown hE hz (okX9_isBetween X l hfl  hw) qw_1633 qw_1634 qw_86 qw_1635 (myX9_isBetween).2 ⟨Nat.le_of_ble_eq_true rfl, Nat.le_of_ble_eq_true rfl⟩ hP hD hS rfl hl.1 rfl (Nat.le_of_ble_eq_true rfl) dX9_type_10 ⟨Nat.le_of_ble_eq_true rfl, Nat.le_of_ble_eq_true rfl⟩) hS (fun r3 G2 H locs hw hP hD hS => ?_)
  refine lv_if_ne (tgt := 22) hx hb dX9_type_13 (by decide) (fun c4 => ?_) (fun c4 => ?_)
  · replace hw := ite_f hw c4
    refine lv_aload_n hx hb dX9_type_22 rfl (lv_at hl 0 rfl) ?_
    refine gf_X9_11 hx hb hE hP hown rfl (hE.w qw_1581 rfl _) dX9_type_23 ?_
    refine lv_bipush (v := 60) hx hb dX9_type_26 (by decide) ?_
    refine lv_icmp_ne (tgt := 37) hx hb dX9_type_28 (by decide) (fun c5 => ?_) (fun c5 => ?_)
    · replace hw := ite_f hw c5
      refine lv_aload_n hx hb dX9_type_37 rfl (lv_at hl 0 rfl) ?_
      refine gf_X9_10 hx hb hE hP hown rfl (hE.w qw_1580 rfl _) dX9_type_38 ?_
      refine lv_aload_n hx hb dX9_type_41 rfl (lv_at hl 0 rfl) ?_
      refine gf_X9_11 hx hb hE hP hown rfl (hE.w qw_1581 rfl _) dX9_type_42 ?_
      refine lv_iload_n hx hb dX9_type_45 rfl (lv_at hl 1 rfl) ?_
      obtain ⟨y6, hw⟩ := hw
      refine ast_8 hx hb hE hP hD hS rfl y6 dX9_type_46 (fun G7 H locs eG7 hP hD hS => ?_)
      replace hw := hw G7 eG7
      refine lv_aload_n hx hb dX9_type_47 rfl (lv_at hl 0 rfl) ?_
      refine lv_dup hx hb dX9_type_48 rfl ?_
      refine gf_X9_11 hx hb hE hP hown rfl (hE.w qw_1581 rfl _) dX9_type_49 ?_
      refine lv_iconst (v := 1) hx hb dX9_type_52 (by decide) ?_
      refine lv_iadd hx hb dX9_type_53 ?_
      refine pf_X9_11 hx hb hE hP hD hS hown rfl (hE.w qw_1581 rfl _) dX9_type_54 (fun G8 H locs eG8 hP hD hS => ?_)
      replace hw := hw G8 eG8
      refine lv_aload_n hx hb dX9_type_57 rfl (lv_at hl 0 rfl) ?_
      refine gf_X9_11 hx hb hE hP hown rfl (hE.w qw_1581 rfl _) dX9_type_58 ?_
      exact end_i hx hb hr hlk rfl hw hP hD hS dX9_type_61
    · replace hw := ite_t hw c5
      refine lv_aload_n hx hb dX9_type_31 rfl (lv_at hl 0 rfl) ?_
      refine lv_iconst (v := 2) hx hb dX9_type_32 (by decide) ?_
      refine call_i (run_V (cc := cX9_type) (As := [.int 2]) (rest := []) hx hb hml hown hE hz (okX9_fails X l hfl  hw) qw_1636 qw_1638 qw_20 qw_86 qw_1639 (myX9_fails) ⟨Nat.le_of_ble_eq_true rfl, Nat.le_of_ble_eq_true rfl⟩ (rv_X9 hE hP rfl) hP hD hS rfl hl.1 rfl (Nat.le_of_ble_eq_true rfl) dX9_type_33 ⟨Nat.le_of_ble_eq_true rfl, Nat.le_of_ble_eq_true rfl⟩) hS (fun r10 G9 H locs hw hP hD hS => ?_)
      exact end_i hx hb hr hlk rfl hw hP hD hS dX9_type_36
  · replace hw := ite_t hw c4
    refine lv_aload_n hx hb dX9_type_16 rfl (lv_at hl 0 rfl) ?_
    refine lv_iconst (v := 1) hx hb dX9_type_17 (by decide) ?_
    refine call_i (run_V (cc := cX9_type) (As := [.int 1]) (rest := []) hx hb hml hown hE hz (okX9_fails X l hfl  hw) qw_1636 qw_1638 qw_20 qw_86 qw_1639 (myX9_fails) ⟨Nat.le_of_ble_eq_true rfl, Nat.le_of_ble_eq_true rfl⟩ (rv_X9 hE hP rfl) hP hD hS rfl hl.1 rfl (Nat.le_of_ble_eq_true rfl) dX9_type_18 ⟨Nat.le_of_ble_eq_true rfl, Nat.le_of_ble_eq_true rfl⟩) hS (fun r12 G11 H locs hw hP hD hS => ?_)
    exact end_i hx hb hr hlk rfl hw hP hD hS dX9_type_21
def wpX9_nextChar (post : Int32 → GS → Prop) (G : GS) : Prop :=
  if (G.1 189 11) ≤ (G.1 189 12) then
  post (-1) G
else
  vp_in (G.1 189 12) 60 ∧
    post (G.1 195 (G.1 189 12).toNatClampNeg) G
set_option maxHeartbeats 4000000 in
set_option maxRecDepth 100000 in
theorem okX9_nextChar (X : Cx) (l : Launch) (hfl : l.stackTraces = false) {post : Int32 → GS → Prop}  {G : GS}  (hw : wpX9_nextChar post G) : CT X l yX9_nextChar cX9_nextChar 1 (some FieldType.int) 1 0 0 [.ref (xa X 189)] G (Qi X post) := by
  refine mbegin (by decide) (Nat.le_of_ble_eq_true rfl) (fun p e s m below meth c hx hb hr hml hlk hown hE hz ls hl hP hD hS => ?_)
  have hl : lv_has ls 1 [(0, .ref (xa X 189))] := hl
  have hown : s.vm.findClass "FlyTreasuryModel" = some m.cls := hown
  unfold wpX9_nextChar at hw
  refine lv_aload_n hx hb dX9_nextChar_0 rfl (lv_at hl 0 rfl) ?_
  refine gf_X9_12 hx hb hE hP hown rfl (hE.w qw_1582 rfl _) dX9_nextChar_1 ?_
  refine lv_aload_n hx hb dX9_nextChar_4 rfl (lv_at hl 0 rfl) ?_
  refine gf_X9_11 hx hb hE hP hown rfl (hE.w qw_1581 rfl _) dX9_nextChar_5 ?_
  refine lv_icmp_ge (tgt := 23) hx hb dX9_nextChar_8 (by decide) (fun c1 => ?_) (fun c1 => ?_)
  · replace hw := ite_t hw c1
    refine lv_iconst (v := -1) hx hb dX9_nextChar_23 (by decide) ?_
    exact end_i hx hb hr hlk rfl hw hP hD hS dX9_nextChar_24
  · replace hw := ite_f hw c1
    refine lv_aload_n hx hb dX9_nextChar_11 rfl (lv_at hl 0 rfl) ?_
    refine gf_X9_10 hx hb hE hP hown rfl (hE.w qw_1580 rfl _) dX9_nextChar_12 ?_
    refine lv_aload_n hx hb dX9_nextChar_15 rfl (lv_at hl 0 rfl) ?_
    refine gf_X9_12 hx hb hE hP hown rfl (hE.w qw_1582 rfl _) dX9_nextChar_16 ?_
    obtain ⟨y2, hw⟩ := hw
    refine ald_8 hx hb hE hP rfl y2 dX9_nextChar_19 ?_
    refine lv_goto (tgt := 24) hx hb dX9_nextChar_20 (by decide) ?_
    exact end_i hx hb hr hlk rfl hw hP hD hS dX9_nextChar_24
def wpX9_reads (post : Int32 → GS → Prop) (a1 : Int32) (G : GS) : Prop :=
  wpX9_nextChar (fun (r2 : Int32) (G1 : GS) =>
  if r2 = a1 then
    ∀ G4 : GS, G4 = gI G1 189 12 ((G1.1 189 12) + 1) →
      post 1 G4
  else
    post 0 G1)  G
set_option maxHeartbeats 4000000 in
set_option maxRecDepth 100000 in
theorem okX9_reads (X : Cx) (l : Launch) (hfl : l.stackTraces = false) {post : Int32 → GS → Prop} {a1 : Int32} {G : GS}  (hw : wpX9_reads post a1 G) : CT X l yX9_reads cX9_reads 2 (some FieldType.boolean) 2 0 0 [.ref (xa X 189), .int a1] G (Qi X post) := by
  refine mbegin (by decide) (Nat.le_of_ble_eq_true rfl) (fun p e s m below meth c hx hb hr hml hlk hown hE hz ls hl hP hD hS => ?_)
  have hl : lv_has ls 2 [(0, .ref (xa X 189)), (1, .int a1)] := hl
  have hown : s.vm.findClass "FlyTreasuryModel" = some m.cls := hown
  unfold wpX9_reads at hw
  refine lv_aload_n hx hb dX9_reads_0 rfl (lv_at hl 0 rfl) ?_
  refine call_i (run_V (cc := cX9_reads) (As := []) (rest := []) hx hb hml hown hE hz (okX9_nextChar X l hfl  hw) qw_1995 qw_1997 qw_60 qw_86 qw_1998 (myX9_nextChar) ⟨Nat.le_of_ble_eq_true rfl, Nat.le_of_ble_eq_true rfl⟩ (rv_X9 hE hP rfl) hP hD hS rfl hl.1 rfl (Nat.le_of_ble_eq_true rfl) dX9_reads_1 ⟨Nat.le_of_ble_eq_true rfl, Nat.le_of_ble_eq_true rfl⟩) hS (fun r2 G1 H locs hw hP hD hS => ?_)
  refine lv_iload_n hx hb dX9_reads_4 rfl (lv_at hl 1 rfl) ?_
  refine lv_icmp_eq (tgt := 10) hx hb dX9_reads_5 (by decide) (fun c3 => ?_) (fun c3 => ?_)
  · replace hw := ite_t hw c3
    refine lv_aload_n hx hb dX9_reads_10 rfl (lv_at hl 0 rfl) ?_
    refine lv_dup hx hb dX9_reads_11 rfl ?_
    refine gf_X9_12 hx hb hE hP hown rfl (hE.w qw_1582 rfl _) dX9_reads_12 ?_
    refine lv_iconst (v := 1) hx hb dX9_reads_15 (by decide) ?_
    refine lv_iadd hx hb dX9_reads_16 ?_
    refine pf_X9_12 hx hb hE hP hD hS hown rfl (hE.w qw_1582 rfl _) dX9_reads_17 (fun G4 H locs eG4 hP hD hS => ?_)
    replace hw := hw G4 eG4
    refine lv_iconst (v := 1) hx hb dX9_reads_20 (by decide) ?_
    exact end_i hx hb hr hlk (by decide) hw hP hD hS dX9_reads_21
  · replace hw := ite_f hw c3
    refine lv_iconst (v := 0) hx hb dX9_reads_8 (by decide) ?_
    exact end_i hx hb hr hlk (by decide) hw hP hD hS dX9_reads_9
def wpX9_readsDigit (post : Int32 → GS → Prop) (a1 : Int32) (G : GS) : Prop :=
  wpX9_nextChar (fun (r2 : Int32) (G1 : GS) =>
  wpX9_isBetween (fun (r4 : Int32) (G3 : GS) =>
    if r4 = 0 then
      post 0 G3
    else
      wpX9_nextChar (fun (r7 : Int32) (G6 : GS) =>
        vp_in a1 (ln 196) ∧ ∀ G9 : GS, G9 = gI G6 196 a1.toNatClampNeg (r7 - 48) →
          ∀ G10 : GS, G10 = gI G9 189 12 ((G9.1 189 12) + 1) →
          post 1 G10)  G3) r2 48 57 G1)  G
set_option maxHeartbeats 4000000 in
set_option maxRecDepth 100000 in
theorem okX9_readsDigit (X : Cx) (l : Launch) (hfl : l.stackTraces = false) {post : Int32 → GS → Prop} {a1 : Int32} {G : GS}  (hw : wpX9_readsDigit post a1 G) : CT X l yX9_readsDigit cX9_readsDigit 2 (some FieldType.boolean) 2 0 0 [.ref (xa X 189), .int a1] G (Qi X post) := by
  refine mbegin (by decide) (Nat.le_of_ble_eq_true rfl) (fun p e s m below meth c hx hb hr hml hlk hown hE hz ls hl hP hD hS => ?_)
  have hl : lv_has ls 2 [(0, .ref (xa X 189)), (1, .int a1)] := hl
  have hown : s.vm.findClass "FlyTreasuryModel" = some m.cls := hown
  unfold wpX9_readsDigit at hw
  refine lv_aload_n hx hb dX9_readsDigit_0 rfl (lv_at hl 0 rfl) ?_
  refine call_i (run_V (cc := cX9_readsDigit) (As := []) (rest := []) hx hb hml hown hE hz (okX9_nextChar X l hfl  hw) qw_1995 qw_1997 qw_60 qw_86 qw_1998 (myX9_nextChar) ⟨Nat.le_of_ble_eq_true rfl, Nat.le_of_ble_eq_true rfl⟩ (rv_X9 hE hP rfl) hP hD hS rfl hl.1 rfl (Nat.le_of_ble_eq_true rfl) dX9_readsDigit_1 ⟨Nat.le_of_ble_eq_true rfl, Nat.le_of_ble_eq_true rfl⟩) hS (fun r2 G1 H locs hw hP hD hS => ?_)
  refine lv_bipush (v := 48) hx hb dX9_readsDigit_4 (by decide) ?_
  refine lv_bipush (v := 57) hx hb dX9_readsDigit_6 (by decide) ?_
  refine call_i (run_S (cc := cX9_readsDigit) (As := [.int r2, .int 48, .int 57]) (rest := []) hx hb hml hown hE hz (okX9_isBetween X l hfl  hw) qw_1633 qw_1634 qw_86 qw_1635 (myX9_isBetween).2 ⟨Nat.le_of_ble_eq_true rfl, Nat.le_of_ble_eq_true rfl⟩ hP hD hS rfl hl.1 rfl (Nat.le_of_ble_eq_true rfl) dX9_readsDigit_8 ⟨Nat.le_of_ble_eq_true rfl, Nat.le_of_ble_eq_true rfl⟩) hS (fun r4 G3 H locs hw hP hD hS => ?_)
  refine lv_if_ne (tgt := 16) hx hb dX9_readsDigit_11 (by decide) (fun c5 => ?_) (fun c5 => ?_)
  · replace hw := ite_f hw c5
    refine lv_aload_n hx hb dX9_readsDigit_16 rfl (lv_at hl 0 rfl) ?_
    refine gf_X9_15 hx hb hE hP hown rfl (hE.w qw_1585 rfl _) dX9_readsDigit_17 ?_
    refine lv_iload_n hx hb dX9_readsDigit_20 rfl (lv_at hl 1 rfl) ?_
    refine lv_aload_n hx hb dX9_readsDigit_21 rfl (lv_at hl 0 rfl) ?_
    refine call_i (run_V (cc := cX9_readsDigit) (As := []) (rest := [.int a1, .ref (xa X 196)]) hx hb hml hown hE hz (okX9_nextChar X l hfl  hw) qw_1995 qw_1997 qw_60 qw_86 qw_1998 (myX9_nextChar) ⟨Nat.le_of_ble_eq_true rfl, Nat.le_of_ble_eq_true rfl⟩ (rv_X9 hE hP rfl) hP hD hS rfl hl.1 rfl (Nat.le_of_ble_eq_true rfl) dX9_readsDigit_22 ⟨Nat.le_of_ble_eq_true rfl, Nat.le_of_ble_eq_true rfl⟩) hS (fun r7 G6 H locs hw hP hD hS => ?_)
    refine lv_bipush (v := 48) hx hb dX9_readsDigit_25 (by decide) ?_
    refine lv_isub hx hb dX9_readsDigit_27 ?_
    obtain ⟨y8, hw⟩ := hw
    refine ast_2 hx hb hE hP hD hS rfl y8 dX9_readsDigit_28 (fun G9 H locs eG9 hP hD hS => ?_)
    replace hw := hw G9 eG9
    refine lv_aload_n hx hb dX9_readsDigit_29 rfl (lv_at hl 0 rfl) ?_
    refine lv_dup hx hb dX9_readsDigit_30 rfl ?_
    refine gf_X9_12 hx hb hE hP hown rfl (hE.w qw_1582 rfl _) dX9_readsDigit_31 ?_
    refine lv_iconst (v := 1) hx hb dX9_readsDigit_34 (by decide) ?_
    refine lv_iadd hx hb dX9_readsDigit_35 ?_
    refine pf_X9_12 hx hb hE hP hD hS hown rfl (hE.w qw_1582 rfl _) dX9_readsDigit_36 (fun G10 H locs eG10 hP hD hS => ?_)
    replace hw := hw G10 eG10
    refine lv_iconst (v := 1) hx hb dX9_readsDigit_39 (by decide) ?_
    exact end_i hx hb hr hlk (by decide) hw hP hD hS dX9_readsDigit_40
  · replace hw := ite_t hw c5
    refine lv_iconst (v := 0) hx hb dX9_readsDigit_14 (by decide) ?_
    exact end_i hx hb hr hlk (by decide) hw hP hD hS dX9_readsDigit_15
def wpX9_readsNumber (post : Int32 → GS → Prop) (a1 : Int32) (G : GS) : Prop :=
  wpX9_readsDigit (fun (r2 : Int32) (G1 : GS) =>
  if r2 = 0 then
    post 0 G1
  else
    wpX9_nextChar (fun (r5 : Int32) (G4 : GS) =>
      wpX9_isBetween (fun (r7 : Int32) (G6 : GS) =>
        if r7 = 0 then
          post 1 G6
        else
          vp_in a1 (ln 196) ∧
            wpX9_nextChar (fun (r11 : Int32) (G10 : GS) =>
            vp_in a1 (ln 196) ∧ ∀ G13 : GS, G13 = gI G10 196 a1.toNatClampNeg (((10 * (G6.1 196 a1.toNatClampNeg)) + r11) - 48) →
              ∀ G14 : GS, G14 = gI G13 189 12 ((G13.1 189 12) + 1) →
              post 1 G14)  G6) r5 48 57 G4)  G1) a1 G
set_option maxHeartbeats 4000000 in
set_option maxRecDepth 100000 in
theorem okX9_readsNumber (X : Cx) (l : Launch) (hfl : l.stackTraces = false) {post : Int32 → GS → Prop} {a1 : Int32} {G : GS}  (hw : wpX9_readsNumber post a1 G) : CT X l yX9_readsNumber cX9_readsNumber 2 (some FieldType.boolean) 3 0 0 [.ref (xa X 189), .int a1] G (Qi X post) := by
  refine mbegin (by decide) (Nat.le_of_ble_eq_true rfl) (fun p e s m below meth c hx hb hr hml hlk hown hE hz ls hl hP hD hS => ?_)
  have hl : lv_has ls 2 [(0, .ref (xa X 189)), (1, .int a1)] := hl
  have hown : s.vm.findClass "FlyTreasuryModel" = some m.cls := hown
  unfold wpX9_readsNumber at hw
  refine lv_aload_n hx hb dX9_readsNumber_0 rfl (lv_at hl 0 rfl) ?_
  refine lv_iload_n hx hb dX9_readsNumber_1 rfl (lv_at hl 1 rfl) ?_
  refine call_i (run_V (cc := cX9_readsNumber) (As := [.int a1]) (rest := []) hx hb hml hown hE hz (okX9_readsDigit X l hfl  hw) qw_2003 qw_2005 qw_62 qw_86 qw_2006 (myX9_readsDigit) ⟨Nat.le_of_ble_eq_true rfl, Nat.le_of_ble_eq_true rfl⟩ (rv_X9 hE hP rfl) hP hD hS rfl hl.1 rfl (Nat.le_of_ble_eq_true rfl) dX9_readsNumber_2 ⟨Nat.le_of_ble_eq_true rfl, Nat.le_of_ble_eq_true rfl⟩) hS (fun r2 G1 H locs hw hP hD hS => ?_)
  refine lv_if_ne (tgt := 10) hx hb dX9_readsNumber_5 (by decide) (fun c3 => ?_) (fun c3 => ?_)
  · replace hw := ite_f hw c3
    refine lv_aload_n hx hb dX9_readsNumber_10 rfl (lv_at hl 0 rfl) ?_
    refine call_i (run_V (cc := cX9_readsNumber) (As := []) (rest := []) hx hb hml hown hE hz (okX9_nextChar X l hfl  hw) qw_1995 qw_1997 qw_60 qw_86 qw_1998 (myX9_nextChar) ⟨Nat.le_of_ble_eq_true rfl, Nat.le_of_ble_eq_true rfl⟩ (rv_X9 hE hP rfl) hP hD hS rfl hl.1 rfl (Nat.le_of_ble_eq_true rfl) dX9_readsNumber_11 ⟨Nat.le_of_ble_eq_true rfl, Nat.le_of_ble_eq_true rfl⟩) hS (fun r5 G4 H locs hw hP hD hS => ?_)
    refine lv_bipush (v := 48) hx hb dX9_readsNumber_14 (by decide) ?_
    refine lv_bipush (v := 57) hx hb dX9_readsNumber_16 (by decide) ?_
    refine call_i (run_S (cc := cX9_readsNumber) (As := [.int r5, .int 48, .int 57]) (rest := []) hx hb hml hown hE hz (okX9_isBetween X l hfl  hw) qw_1633 qw_1634 qw_86 qw_1635 (myX9_isBetween).2 ⟨Nat.le_of_ble_eq_true rfl, Nat.le_of_ble_eq_true rfl⟩ hP hD hS rfl hl.1 rfl (Nat.le_of_ble_eq_true rfl) dX9_readsNumber_18 ⟨Nat.le_of_ble_eq_true rfl, Nat.le_of_ble_eq_true rfl⟩) hS (fun r7 G6 H locs hw hP hD hS => ?_)
    refine lv_if_ne (tgt := 26) hx hb dX9_readsNumber_21 (by decide) (fun c8 => ?_) (fun c8 => ?_)
    · replace hw := ite_f hw c8
      refine lv_aload_n hx hb dX9_readsNumber_26 rfl (lv_at hl 0 rfl) ?_
      refine gf_X9_15 hx hb hE hP hown rfl (hE.w qw_1585 rfl _) dX9_readsNumber_27 ?_
      refine lv_iload_n hx hb dX9_readsNumber_30 rfl (lv_at hl 1 rfl) ?_
      refine lv_bipush (v := 10) hx hb dX9_readsNumber_31 (by decide) ?_
      refine lv_aload_n hx hb dX9_readsNumber_33 rfl (lv_at hl 0 rfl) ?_
      refine gf_X9_15 hx hb hE hP hown rfl (hE.w qw_1585 rfl _) dX9_readsNumber_34 ?_
      refine lv_iload_n hx hb dX9_readsNumber_37 rfl (lv_at hl 1 rfl) ?_
      obtain ⟨y9, hw⟩ := hw
      refine ald_2 hx hb hE hP rfl y9 dX9_readsNumber_38 ?_
      refine lv_imul hx hb dX9_readsNumber_39 ?_
      refine lv_aload_n hx hb dX9_readsNumber_40 rfl (lv_at hl 0 rfl) ?_
      refine call_i (run_V (cc := cX9_readsNumber) (As := []) (rest := [.int (10 * (G6.1 196 a1.toNatClampNeg)), .int a1, .ref (xa X 196)]) hx hb hml hown hE hz (okX9_nextChar X l hfl  hw) qw_1995 qw_1997 qw_60 qw_86 qw_1998 (myX9_nextChar) ⟨Nat.le_of_ble_eq_true rfl, Nat.le_of_ble_eq_true rfl⟩ (rv_X9 hE hP rfl) hP hD hS rfl hl.1 rfl (Nat.le_of_ble_eq_true rfl) dX9_readsNumber_41 ⟨Nat.le_of_ble_eq_true rfl, Nat.le_of_ble_eq_true rfl⟩) hS (fun r11 G10 H locs hw hP hD hS => ?_)
      refine lv_iadd hx hb dX9_readsNumber_44 ?_
      refine lv_bipush (v := 48) hx hb dX9_readsNumber_45 (by decide) ?_
      refine lv_isub hx hb dX9_readsNumber_47 ?_
      obtain ⟨y12, hw⟩ := hw
      refine ast_2 hx hb hE hP hD hS rfl y12 dX9_readsNumber_48 (fun G13 H locs eG13 hP hD hS => ?_)
      replace hw := hw G13 eG13
      refine lv_aload_n hx hb dX9_readsNumber_49 rfl (lv_at hl 0 rfl) ?_
      refine lv_dup hx hb dX9_readsNumber_50 rfl ?_
      refine gf_X9_12 hx hb hE hP hown rfl (hE.w qw_1582 rfl _) dX9_readsNumber_51 ?_
      refine lv_iconst (v := 1) hx hb dX9_readsNumber_54 (by decide) ?_
      refine lv_iadd hx hb dX9_readsNumber_55 ?_
      refine pf_X9_12 hx hb hE hP hD hS hown rfl (hE.w qw_1582 rfl _) dX9_readsNumber_56 (fun G14 H locs eG14 hP hD hS => ?_)
      replace hw := hw G14 eG14
      refine lv_iconst (v := 1) hx hb dX9_readsNumber_59 (by decide) ?_
      exact end_i hx hb hr hlk (by decide) hw hP hD hS dX9_readsNumber_60
    · replace hw := ite_t hw c8
      refine lv_iconst (v := 1) hx hb dX9_readsNumber_24 (by decide) ?_
      exact end_i hx hb hr hlk (by decide) hw hP hD hS dX9_readsNumber_25
  · replace hw := ite_t hw c3
    refine lv_iconst (v := 0) hx hb dX9_readsNumber_8 (by decide) ?_
    exact end_i hx hb hr hlk (by decide) hw hP hD hS dX9_readsNumber_9
def wpX9_readsKind (post : Int32 → GS → Prop) (a1 : Int32) (G : GS) : Prop :=
  wpX9_nextChar (fun (r2 : Int32) (G1 : GS) =>
  vp_in a1 (ln 196) ∧ ∀ G4 : GS, G4 = gI G1 196 a1.toNatClampNeg r2 →
    vp_in a1 (ln 196) ∧
    wpX9_kindOf (fun (r7 : Int32) (G6 : GS) =>
    if r7 < 0 then
      post 0 G6
    else
      vp_in a1 (ln 196) ∧
        wpX9_reads (fun (r11 : Int32) (G10 : GS) =>
        if r11 = 0 then
          post 0 G10
        else
          post 1 G10) (G6.1 196 a1.toNatClampNeg) G6) (G4.1 196 a1.toNatClampNeg) G4)  G
set_option maxHeartbeats 4000000 in
set_option maxRecDepth 100000 in
theorem okX9_readsKind (X : Cx) (l : Launch) (hfl : l.stackTraces = false) {post : Int32 → GS → Prop} {a1 : Int32} {G : GS}  (hw : wpX9_readsKind post a1 G) : CT X l yX9_readsKind cX9_readsKind 2 (some FieldType.boolean) 3 0 0 [.ref (xa X 189), .int a1] G (Qi X post) := by
  refine mbegin (by decide) (Nat.le_of_ble_eq_true rfl) (fun p e s m below meth c hx hb hr hml hlk hown hE hz ls hl hP hD hS => ?_)
  have hl : lv_has ls 2 [(0, .ref (xa X 189)), (1, .int a1)] := hl
  have hown : s.vm.findClass "FlyTreasuryModel" = some m.cls := hown
  unfold wpX9_readsKind at hw
  refine lv_aload_n hx hb dX9_readsKind_0 rfl (lv_at hl 0 rfl) ?_
  refine gf_X9_15 hx hb hE hP hown rfl (hE.w qw_1585 rfl _) dX9_readsKind_1 ?_
  refine lv_iload_n hx hb dX9_readsKind_4 rfl (lv_at hl 1 rfl) ?_
  refine lv_aload_n hx hb dX9_readsKind_5 rfl (lv_at hl 0 rfl) ?_
  refine call_i (run_V (cc := cX9_readsKind) (As := []) (rest := [.int a1, .ref (xa X 196)]) hx hb hml hown hE hz (okX9_nextChar X l hfl  hw) qw_1995 qw_1997 qw_60 qw_86 qw_1998 (myX9_nextChar) ⟨Nat.le_of_ble_eq_true rfl, Nat.le_of_ble_eq_true rfl⟩ (rv_X9 hE hP rfl) hP hD hS rfl hl.1 rfl (Nat.le_of_ble_eq_true rfl) dX9_readsKind_6 ⟨Nat.le_of_ble_eq_true rfl, Nat.le_of_ble_eq_true rfl⟩) hS (fun r2 G1 H locs hw hP hD hS => ?_)
  obtain ⟨y3, hw⟩ := hw
  refine ast_2 hx hb hE hP hD hS rfl y3 dX9_readsKind_9 (fun G4 H locs eG4 hP hD hS => ?_)
  replace hw := hw G4 eG4
  refine lv_aload_n hx hb dX9_readsKind_10 rfl (lv_at hl 0 rfl) ?_
  refine gf_X9_15 hx hb hE hP hown rfl (hE.w qw_1585 rfl _) dX9_readsKind_11 ?_
  refine lv_iload_n hx hb dX9_readsKind_14 rfl (lv_at hl 1 rfl) ?_
  obtain ⟨y5, hw⟩ := hw
  refine ald_2 hx hb hE hP rfl y5 dX9_readsKind_15 ?_
  refine call_i (run_S (cc := cX9_readsKind) (As := [.int (G4.1 196 a1.toNatClampNeg)]) (rest := []) hx hb hml hown hE hz (okX9_kindOf X l hfl  hw) qw_1672 qw_1673 qw_86 qw_1674 (myX9_kindOf).2 ⟨Nat.le_of_ble_eq_true rfl, Nat.le_of_ble_eq_true rfl⟩ hP hD hS rfl hl.1 rfl (Nat.le_of_ble_eq_true rfl) dX9_readsKind_16 ⟨Nat.le_of_ble_eq_true rfl, Nat.le_of_ble_eq_true rfl⟩) hS (fun r7 G6 H locs hw hP hD hS => ?_)
  refine lv_if_lt (tgt := 39) hx hb dX9_readsKind_19 (by decide) (fun c8 => ?_) (fun c8 => ?_)
  · replace hw := ite_t hw c8
    refine lv_iconst (v := 0) hx hb dX9_readsKind_39 (by decide) ?_
    exact end_i hx hb hr hlk (by decide) hw hP hD hS dX9_readsKind_40
  · replace hw := ite_f hw c8
    refine lv_aload_n hx hb dX9_readsKind_22 rfl (lv_at hl 0 rfl) ?_
    refine lv_aload_n hx hb dX9_readsKind_23 rfl (lv_at hl 0 rfl) ?_
    refine gf_X9_15 hx hb hE hP hown rfl (hE.w qw_1585 rfl _) dX9_readsKind_24 ?_
    refine lv_iload_n hx hb dX9_readsKind_27 rfl (lv_at hl 1 rfl) ?_
    obtain ⟨y9, hw⟩ := hw
    refine ald_2 hx hb hE hP rfl y9 dX9_readsKind_28 ?_
    refine call_i (run_V (cc := cX9_readsKind) (As := [.int (G6.1 196 a1.toNatClampNeg)]) (rest := []) hx hb hml hown hE hz (okX9_reads X l hfl  hw) qw_1999 qw_2001 qw_61 qw_86 qw_2002 (myX9_reads) ⟨Nat.le_of_ble_eq_true rfl, Nat.le_of_ble_eq_true rfl⟩ (rv_X9 hE hP rfl) hP hD hS rfl hl.1 rfl (Nat.le_of_ble_eq_true rfl) dX9_readsKind_29 ⟨Nat.le_of_ble_eq_true rfl, Nat.le_of_ble_eq_true rfl⟩) hS (fun r11 G10 H locs hw hP hD hS => ?_)
    refine lv_if_eq (tgt := 39) hx hb dX9_readsKind_32 (by decide) (fun c12 => ?_) (fun c12 => ?_)
    · replace hw := ite_t hw c12
      refine lv_iconst (v := 0) hx hb dX9_readsKind_39 (by decide) ?_
      exact end_i hx hb hr hlk (by decide) hw hP hD hS dX9_readsKind_40
    · replace hw := ite_f hw c12
      refine lv_iconst (v := 1) hx hb dX9_readsKind_35 (by decide) ?_
      refine lv_goto (tgt := 40) hx hb dX9_readsKind_36 (by decide) ?_
      exact end_i hx hb hr hlk (by decide) hw hP hD hS dX9_readsKind_40
def wpX9_readsFlies (post : Int32 → GS → Prop) (G : GS) : Prop :=
  wpX9_reads (fun (r2 : Int32) (G1 : GS) =>
  if r2 = 0 then
    post 0 G1
  else
    wpX9_readsDigit (fun (r5 : Int32) (G4 : GS) =>
      if r5 = 0 then
        post 0 G4
      else
        wpX9_reads (fun (r8 : Int32) (G7 : GS) =>
          if r8 = 0 then
            post 0 G7
          else
            wpX9_readsKind (fun (r11 : Int32) (G10 : GS) =>
              if r11 = 0 then
                post 0 G10
              else
                wpX9_readsNumber (fun (r14 : Int32) (G13 : GS) =>
                  if r14 = 0 then
                    post 0 G13
                  else
                    post 1 G13) 2 G10) 1 G7) 32 G4) 0 G1) 32 G
set_option maxHeartbeats 4000000 in
set_option maxRecDepth 100000 in
theorem okX9_readsFlies (X : Cx) (l : Launch) (hfl : l.stackTraces = false) {post : Int32 → GS → Prop}  {G : GS}  (hw : wpX9_readsFlies post G) : CT X l yX9_readsFlies cX9_readsFlies 1 (some FieldType.boolean) 4 0 0 [.ref (xa X 189)] G (Qi X post) := by
  refine mbegin (by decide) (Nat.le_of_ble_eq_true rfl) (fun p e s m below meth c hx hb hr hml hlk hown hE hz ls hl hP hD hS => ?_)
  have hl : lv_has ls 1 [(0, .ref (xa X 189))] := hl
  have hown : s.vm.findClass "FlyTreasuryModel" = some m.cls := hown
  unfold wpX9_readsFlies at hw
  refine lv_aload_n hx hb dX9_readsFlies_0 rfl (lv_at hl 0 rfl) ?_
  refine lv_bipush (v := 32) hx hb dX9_readsFlies_1 (by decide) ?_
  refine call_i (run_V (cc := cX9_readsFlies) (As := [.int 32]) (rest := []) hx hb hml hown hE hz (okX9_reads X l hfl  hw) qw_1999 qw_2001 qw_61 qw_86 qw_2002 (myX9_reads) ⟨Nat.le_of_ble_eq_true rfl, Nat.le_of_ble_eq_true rfl⟩ (rv_X9 hE hP rfl) hP hD hS rfl hl.1 rfl (Nat.le_of_ble_eq_true rfl) dX9_readsFlies_3 ⟨Nat.le_of_ble_eq_true rfl, Nat.le_of_ble_eq_true rfl⟩) hS (fun r2 G1 H locs hw hP hD hS => ?_)
  refine lv_if_eq (tgt := 46) hx hb dX9_readsFlies_6 (by decide) (fun c3 => ?_) (fun c3 => ?_)
  · replace hw := ite_t hw c3
    refine lv_iconst (v := 0) hx hb dX9_readsFlies_46 (by decide) ?_
    exact end_i hx hb hr hlk (by decide) hw hP hD hS dX9_readsFlies_47
  · replace hw := ite_f hw c3
    refine lv_aload_n hx hb dX9_readsFlies_9 rfl (lv_at hl 0 rfl) ?_
    refine lv_iconst (v := 0) hx hb dX9_readsFlies_10 (by decide) ?_
    refine call_i (run_V (cc := cX9_readsFlies) (As := [.int 0]) (rest := []) hx hb hml hown hE hz (okX9_readsDigit X l hfl  hw) qw_2003 qw_2005 qw_62 qw_86 qw_2006 (myX9_readsDigit) ⟨Nat.le_of_ble_eq_true rfl, Nat.le_of_ble_eq_true rfl⟩ (rv_X9 hE hP rfl) hP hD hS rfl hl.1 rfl (Nat.le_of_ble_eq_true rfl) dX9_readsFlies_11 ⟨Nat.le_of_ble_eq_true rfl, Nat.le_of_ble_eq_true rfl⟩) hS (fun r5 G4 H locs hw hP hD hS => ?_)
    refine lv_if_eq (tgt := 46) hx hb dX9_readsFlies_14 (by decide) (fun c6 => ?_) (fun c6 => ?_)
    · replace hw := ite_t hw c6
      refine lv_iconst (v := 0) hx hb dX9_readsFlies_46 (by decide) ?_
      exact end_i hx hb hr hlk (by decide) hw hP hD hS dX9_readsFlies_47
    · replace hw := ite_f hw c6
      refine lv_aload_n hx hb dX9_readsFlies_17 rfl (lv_at hl 0 rfl) ?_
      refine lv_bipush (v := 32) hx hb dX9_readsFlies_18 (by decide) ?_
      refine call_i (run_V (cc := cX9_readsFlies) (As := [.int 32]) (rest := []) hx hb hml hown hE hz (okX9_reads X l hfl  hw) qw_1999 qw_2001 qw_61 qw_86 qw_2002 (myX9_reads) ⟨Nat.le_of_ble_eq_true rfl, Nat.le_of_ble_eq_true rfl⟩ (rv_X9 hE hP rfl) hP hD hS rfl hl.1 rfl (Nat.le_of_ble_eq_true rfl) dX9_readsFlies_20 ⟨Nat.le_of_ble_eq_true rfl, Nat.le_of_ble_eq_true rfl⟩) hS (fun r8 G7 H locs hw hP hD hS => ?_)
      refine lv_if_eq (tgt := 46) hx hb dX9_readsFlies_23 (by decide) (fun c9 => ?_) (fun c9 => ?_)
      · replace hw := ite_t hw c9
        refine lv_iconst (v := 0) hx hb dX9_readsFlies_46 (by decide) ?_
        exact end_i hx hb hr hlk (by decide) hw hP hD hS dX9_readsFlies_47
      · replace hw := ite_f hw c9
        refine lv_aload_n hx hb dX9_readsFlies_26 rfl (lv_at hl 0 rfl) ?_
        refine lv_iconst (v := 1) hx hb dX9_readsFlies_27 (by decide) ?_
        refine call_i (run_V (cc := cX9_readsFlies) (As := [.int 1]) (rest := []) hx hb hml hown hE hz (okX9_readsKind X l hfl  hw) qw_2011 qw_2013 qw_64 qw_86 qw_2014 (myX9_readsKind) ⟨Nat.le_of_ble_eq_true rfl, Nat.le_of_ble_eq_true rfl⟩ (rv_X9 hE hP rfl) hP hD hS rfl hl.1 rfl (Nat.le_of_ble_eq_true rfl) dX9_readsFlies_28 ⟨Nat.le_of_ble_eq_true rfl, Nat.le_of_ble_eq_true rfl⟩) hS (fun r11 G10 H locs hw hP hD hS => ?_)
        refine lv_if_eq (tgt := 46) hx hb dX9_readsFlies_31 (by decide) (fun c12 => ?_) (fun c12 => ?_)
        · replace hw := ite_t hw c12
          refine lv_iconst (v := 0) hx hb dX9_readsFlies_46 (by decide) ?_
          exact end_i hx hb hr hlk (by decide) hw hP hD hS dX9_readsFlies_47
        · replace hw := ite_f hw c12
          refine lv_aload_n hx hb dX9_readsFlies_34 rfl (lv_at hl 0 rfl) ?_
          refine lv_iconst (v := 2) hx hb dX9_readsFlies_35 (by decide) ?_
          refine call_i (run_V (cc := cX9_readsFlies) (As := [.int 2]) (rest := []) hx hb hml hown hE hz (okX9_readsNumber X l hfl  hw) qw_2015 qw_2017 qw_65 qw_86 qw_2018 (myX9_readsNumber) ⟨Nat.le_of_ble_eq_true rfl, Nat.le_of_ble_eq_true rfl⟩ (rv_X9 hE hP rfl) hP hD hS rfl hl.1 rfl (Nat.le_of_ble_eq_true rfl) dX9_readsFlies_36 ⟨Nat.le_of_ble_eq_true rfl, Nat.le_of_ble_eq_true rfl⟩) hS (fun r14 G13 H locs hw hP hD hS => ?_)
          refine lv_if_eq (tgt := 46) hx hb dX9_readsFlies_39 (by decide) (fun c15 => ?_) (fun c15 => ?_)
          · replace hw := ite_t hw c15
            refine lv_iconst (v := 0) hx hb dX9_readsFlies_46 (by decide) ?_
            exact end_i hx hb hr hlk (by decide) hw hP hD hS dX9_readsFlies_47
          · replace hw := ite_f hw c15
            refine lv_iconst (v := 1) hx hb dX9_readsFlies_42 (by decide) ?_
            refine lv_goto (tgt := 47) hx hb dX9_readsFlies_43 (by decide) ?_
            exact end_i hx hb hr hlk (by decide) hw hP hD hS dX9_readsFlies_47
