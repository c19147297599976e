def wlX6_parse_10 (post : Int32 → GS → Prop) : Nat → GS → Prop
  | 0, _ => False
  | n + 1, G =>
    if 16 ≤ (G.1 168 4) then
  post 0 G
else
  vp_in (G.1 168 4) 16 ∧
    wpX6_readOrder (fun (r6 : Int32) (G5 : GS) =>
    if r6 = 0 then
      post 0 G5
    else
      ∀ G8 : GS, G8 = gI G5 168 4 ((G5.1 168 4) + 1) →
        if (G8.1 168 3) = (G8.1 168 2) then
        post 1 G8
      else
        wpX6_readSign (fun (r11 : Int32) (G10 : GS) =>
          if r11 = 0 then
            post 0 G10
          else
            wlX6_parse_10 post n G10) 59 G8) (171 + (G.1 168 4).toNatClampNeg) G
def wpX6_parse (post : Int32 → GS → Prop) (G : GS) : Prop :=
  ∀ G1 : GS, G1 = gI G 168 3 0 →
  ∀ G2 : GS, G2 = gI G1 168 4 0 →
  ∃ nn, wlX6_parse_10 post nn G2
set_option maxHeartbeats 4000000 in
set_option maxRecDepth 100000 in
theorem okX6_parse (X : Cx) (l : Launch) (hfl : l.stackTraces = false) {post : Int32 → GS → Prop}  {G : GS}  (hw : wpX6_parse post G) : CT X l yX6_parse cX6_parse 1 (some FieldType.boolean) 9 0 0 [.ref (xa X 168)] G (Qi X post) := by
  refine mbegin (by decide) (Nat.le_of_ble_eq_true rfl) (fun p e s m below meth c hx hb hr hml hlk hown hE hz ls hl hP hD hS => ?_)
  have hl : lv_has ls 1 [(0, .ref (xa X 168))] := hl
  have hown : s.vm.findClass "FlyTreasury$Script" = some m.cls := hown
  have L10 : ∀ (n10 : Nat) (G : GS) (H : Heap) (locs : List Loc) (ls : Array Slot), wlX6_parse_10 post n10 G  → va_P (xD X) vwCl (pool X G) H → va_D (xA X) (pool X G) → va_S (xA X) s.heap H locs → lv_has ls 1 [(0, .ref (xa X 168))] → W p l e (rmL 9 0 0) s m [.ref (xa X 168)].toArray below meth c H locs 0 0 (MQ below (Qi X post) [.ref (xa X 168)].toArray s 0 0 (xA X)) (F0 m 10 ls []) := by
    intro n10
    induction n10 with
    | zero => intro G   H locs ls hw; exact hw.elim
    | succ n10 ih10 =>
      intro G   H locs ls hw hP hD hS hl
      rw [wlX6_parse_10] at hw
      refine lv_aload_n hx hb dX6_parse_10 rfl (lv_at hl 0 rfl) ?_
      refine gf_X6_4 hx hb hE hP hown rfl (hE.w qw_272 rfl _) dX6_parse_11 ?_
      refine lv_bipush (v := 16) hx hb dX6_parse_14 (by decide) ?_
      refine lv_icmp_ge (tgt := 71) hx hb dX6_parse_16 (by decide) (fun c13 => ?_) (fun c13 => ?_)
      · replace hw := ite_t hw c13
        refine lv_iconst (v := 0) hx hb dX6_parse_71 (by decide) ?_
        exact end_i hx hb hr hlk (by decide) hw hP hD hS dX6_parse_72
      · replace hw := ite_f hw c13
        refine lv_aload_n hx hb dX6_parse_19 rfl (lv_at hl 0 rfl) ?_
        refine lv_aload_n hx hb dX6_parse_20 rfl (lv_at hl 0 rfl) ?_
        refine gf_X6_1 hx hb hE hP hown rfl (hE.w qw_266 rfl _) dX6_parse_21 ?_
        refine lv_aload_n hx hb dX6_parse_24 rfl (lv_at hl 0 rfl) ?_
        refine gf_X6_4 hx hb hE hP hown rfl (hE.w qw_272 rfl _) dX6_parse_25 ?_
        obtain ⟨y14, hw⟩ := hw
        refine ald_9 hx hb hE hP rfl y14 dX6_parse_28 ?_
        refine call_i (run_V (cc := cX6_parse) (As := [.ref (xa X (171 + (G.1 168 4).toNatClampNeg))]) (rest := []) hx hb hml hown hE hz (okX6_readOrder X l hfl (k9_e y14) hw) qw_1456 qw_1458 qw_6 qw_78 qw_1459 (myX6_readOrder) ⟨Nat.le_of_ble_eq_true rfl, Nat.le_of_ble_eq_true rfl⟩ (rv_X6 hE hP rfl) hP hD hS rfl hl.1 rfl (Nat.le_of_ble_eq_true rfl) dX6_parse_29 ⟨Nat.le_of_ble_eq_true rfl, Nat.le_of_ble_eq_true rfl⟩) hS (fun r16 G15 H locs hw hP hD hS => ?_)
        refine lv_if_ne (tgt := 37) hx hb dX6_parse_32 (by decide) (fun c17 => ?_) (fun c17 => ?_)
        · replace hw := ite_f hw c17
          refine lv_aload_n hx hb dX6_parse_37 rfl (lv_at hl 0 rfl) ?_
          refine lv_dup hx hb dX6_parse_38 rfl ?_
          refine gf_X6_4 hx hb hE hP hown rfl (hE.w qw_272 rfl _) dX6_parse_39 ?_
          refine lv_iconst (v := 1) hx hb dX6_parse_42 (by decide) ?_
          refine lv_iadd hx hb dX6_parse_43 ?_
          refine pf_X6_4 hx hb hE hP hD hS hown rfl (hE.w qw_272 rfl _) dX6_parse_44 (fun G18 H locs eG18 hP hD hS => ?_)
          replace hw := hw G18 eG18
          refine lv_aload_n hx hb dX6_parse_47 rfl (lv_at hl 0 rfl) ?_
          refine gf_X6_3 hx hb hE hP hown rfl (hE.w qw_270 rfl _) dX6_parse_48 ?_
          refine lv_aload_n hx hb dX6_parse_51 rfl (lv_at hl 0 rfl) ?_
          refine gf_X6_2 hx hb hE hP hown rfl (hE.w qw_268 rfl _) dX6_parse_52 ?_
          refine lv_icmp_ne (tgt := 60) hx hb dX6_parse_55 (by decide) (fun c19 => ?_) (fun c19 => ?_)
          · replace hw := ite_f hw c19
            refine lv_aload_n hx hb dX6_parse_60 rfl (lv_at hl 0 rfl) ?_
            refine lv_bipush (v := 59) hx hb dX6_parse_61 (by decide) ?_
            refine call_i (run_V (cc := cX6_parse) (As := [.int 59]) (rest := []) hx hb hml hown hE hz (okX6_readSign X l hfl  hw) qw_1482 qw_1484 qw_11 qw_78 qw_1485 (myX6_readSign) ⟨Nat.le_of_ble_eq_true rfl, Nat.le_of_ble_eq_true rfl⟩ (rv_X6 hE hP rfl) hP hD hS rfl hl.1 rfl (Nat.le_of_ble_eq_true rfl) dX6_parse_63 ⟨Nat.le_of_ble_eq_true rfl, Nat.le_of_ble_eq_true rfl⟩) hS (fun r21 G20 H locs hw hP hD hS => ?_)
            refine lv_if_ne (tgt := 10) hx hb dX6_parse_66 (by decide) (fun c22 => ?_) (fun c22 => ?_)
            · replace hw := ite_f hw c22
              exact ih10 G20   _ _ _ hw hP hD hS (lv_sub hl [0] rfl)
            · replace hw := ite_t hw c22
              refine lv_iconst (v := 0) hx hb dX6_parse_69 (by decide) ?_
              exact end_i hx hb hr hlk (by decide) hw hP hD hS dX6_parse_70
          · replace hw := ite_t hw c19
            refine lv_iconst (v := 1) hx hb dX6_parse_58 (by decide) ?_
            exact end_i hx hb hr hlk (by decide) hw hP hD hS dX6_parse_59
        · replace hw := ite_t hw c17
          refine lv_iconst (v := 0) hx hb dX6_parse_35 (by decide) ?_
          exact end_i hx hb hr hlk (by decide) hw hP hD hS dX6_parse_36
  unfold wpX6_parse at hw
  refine lv_aload_n hx hb dX6_parse_0 rfl (lv_at hl 0 rfl) ?_
  refine lv_iconst (v := 0) hx hb dX6_parse_1 (by decide) ?_
  refine pf_X6_3 hx hb hE hP hD hS hown rfl (hE.w qw_270 rfl _) dX6_parse_2 (fun G1 H locs eG1 hP hD hS => ?_)
  replace hw := hw G1 eG1
  refine lv_aload_n hx hb dX6_parse_5 rfl (lv_at hl 0 rfl) ?_
  refine lv_iconst (v := 0) hx hb dX6_parse_6 (by decide) ?_
  refine pf_X6_4 hx hb hE hP hD hS hown rfl (hE.w qw_272 rfl _) dX6_parse_7 (fun G2 H locs eG2 hP hD hS => ?_)
  replace hw := hw G2 eG2
  obtain ⟨nn, hw⟩ := hw
  exact L10 nn G2   _ _ _ hw hP hD hS (lv_sub hl [0] rfl)
