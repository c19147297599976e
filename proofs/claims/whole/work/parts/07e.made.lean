theorem qw_114 : lw_tbl[114]? = some (Cond.methodLink "FlyTreasury" 3 ⟨"java/lang/Object", "<init>", "()V"⟩) := by decide +kernel
theorem qw_117 : lw_tbl[117]? = some (Cond.classLink "FlyTreasury" 9 "FlyTreasury$Ledger") := by decide +kernel
theorem qw_119 : lw_tbl[119]? = some (Cond.methodLink "FlyTreasury" 11 yX3_init) := by decide +kernel
theorem qw_203 : lw_tbl[203]? = some (Cond.classLink "FlyTreasury" 22 "FlyTreasury$History") := by decide +kernel
theorem qw_204 : lw_tbl[204]? = some (Cond.instantiable "FlyTreasury$History" 3) := by decide +kernel
theorem qw_205 : lw_tbl[205]? = some (Cond.methodLink "FlyTreasury" 24 yX2_init) := by decide +kernel
theorem qw_206 : lw_tbl[206]? = some (Cond.instanceMethod yX2_init) := by decide +kernel
theorem qw_207 : lw_tbl[207]? = some (Cond.code yX2_init cX2_init 2 none) := by decide +kernel
theorem qw_223 : lw_tbl[223]? = some (Cond.classLink "FlyTreasury" 29 "FlyTreasury$Script") := by decide +kernel
theorem qw_224 : lw_tbl[224]? = some (Cond.instantiable "FlyTreasury$Script" 5) := by decide +kernel
theorem qw_225 : lw_tbl[225]? = some (Cond.methodLink "FlyTreasury" 31 yX6_init) := by decide +kernel
theorem qw_226 : lw_tbl[226]? = some (Cond.instanceMethod yX6_init) := by decide +kernel
theorem qw_227 : lw_tbl[227]? = some (Cond.code yX6_init cX6_init 2 none) := by decide +kernel
theorem qw_285 : lw_tbl[285]? = some (Cond.classLink "FlyTreasury" 36 "java/lang/StringBuilder") := by decide +kernel
theorem qw_286 : lw_tbl[286]? = some (Cond.instantiable "java/lang/StringBuilder" 4) := by decide +kernel
theorem qw_287 : lw_tbl[287]? = some (Cond.methodLink "FlyTreasury" 38 yJ4_init_da8c8) := by decide +kernel
theorem qw_288 : lw_tbl[288]? = some (Cond.instanceMethod yJ4_init_da8c8) := by decide +kernel
theorem qw_289 : lw_tbl[289]? = some (Cond.code yJ4_init_da8c8 cJ4_init_da8c8 1 none) := by decide +kernel
set_option maxHeartbeats 4000000 in
set_option maxRecDepth 100000 in
theorem inX8_init (X : Cx) (l : Launch) (hfl : l.stackTraces = false) (ws : va_W) (a : Nat) : CI X l yX8_init cX8_init 1 4 188 962 [.ref a] (ws ++ [(a, Sum.inr (9, [.null, .null, .null, .null, .null, .null, .int 0, .int 0, .int 0]))]) (fun W => ∃ (f0 f1 f2 : Nat → Nat) (F : Nat → Nat → Nat) (fs : Nat → Nat) (fq : Nat → Option Nat) (n3 qh n5 qb : Nat), (∀ k, k < 8 → fq k = some (F k 0)) ∧ W = ws ++ ((a, Sum.inr (9, [.ref (f0 0), .ref (f1 0), .ref (f2 0), .ref n3, .ref (fs 0), .ref n5, .int 0, .int (-1), .int (-1)])) :: ((((((([] : va_W) ++ LB X f0) ++ LB X f1) ++ LB X f2) ++ ([(n3, Sum.inr (4, [.ref qh, .int 0, .int 0])), (qh, Sum.inl (xc X 4, 8, Sum.inr (Sum.inr (Sum.inr (Sum.inr fq)))))] ++ LRw X F 8)) ++ SK X fs) ++ [(n5, Sum.inr (1, [.ref qb, .int 0, .int 0, .int 0])), (qb, Sum.inl (xc X 2, 16, Sum.inl (fun _ => 0)))]))) := by
  refine ibegin (by decide) (Nat.le_of_ble_eq_true rfl) (fun p e s m below meth c hx hb hr hml hlk hin hown hE hAO hz ls hl hP hD hS => ?_)
  have hA : ∀ q : Nat, s.heap.size ≤ q → xA X q := fun q h => Nat.le_trans hz h
  have hl : lv_has ls 1 [(0, .ref a)] := hl
  have hown : s.vm.findClass "FlyTreasury" = some m.cls := hown
  refine lv_aload_n hx hb dX8_init_0 rfl (lv_at hl 0 rfl) ?_
  refine W.objInit hx hb hown (hE.w qw_114 rfl _) (hE.w qw_115 rfl _) (hE.w qw_116 rfl _) rfl (hl.1.trans hml.symm) rfl dX8_init_1 (Nat.le_of_ble_eq_true rfl) (Nat.le_of_ble_eq_true rfl) ?_
  refine W.eq (g2 := F0 m 4 ls []) rfl ?_
  refine lv_aload_n hx hb dX8_init_4 rfl (lv_at hl 0 rfl) ?_
  refine va_new (ci := 5) (fs := [.null, .null, .null, .null, .int 0, .int 0, .int 0, .int 0, .int 0, .int 0, .int 0]) (C := RX3) (T := TX3) (N := 11) hx hb (hE.ws us_X3 ug_X3 _) (fun _ h => h) tyX3 tyX3_ok hown (hE.w qw_117 rfl _) (hE.w qw_118 rfl _) (hE.w qw_75 rfl _) hE.2.1 hP hD hS hA rfl df_X3 (Nat.le_of_ble_eq_true rfl) (Nat.le_of_ble_eq_true rfl) dX8_init_5 (fun n0 H1 h1 h2 h3 => ?_)
  refine lv_dup hx hb dX8_init_8 rfl ?_
  refine call_I (run_I (cc := cX8_init) (As := []) (rest := [.ref n0, .ref a]) hx hb hml hown hE hAO hz (inX3_init X l hfl (ws ++ ((a, Sum.inr (9, [.null, .null, .null, .null, .null, .null, .int 0, .int 0, .int 0])) :: ([] : va_W))) n0) qw_119 qw_120 qw_75 qw_121 (myX3_init).2 ⟨Nat.le_of_ble_eq_true rfl, Nat.le_of_ble_eq_true rfl⟩ rfl h1 h2 h3 rfl hl.1 rfl (Nat.le_of_ble_eq_true rfl) dX8_init_9 ⟨Nat.le_of_ble_eq_true rfl, Nat.le_of_ble_eq_true rfl⟩) h3 (fun W H2 locs2 hw g1 g2 g3 => ?_)
  obtain ⟨f0, hf0, rfl⟩ := hw
  rw [List.append_assoc, List.cons_append] at g1 g2
  replace hP : va_P (xD X) vwCl (ws ++ ((a, Sum.inr (9, [.null, .null, .null, .null, .null, .null, .int 0, .int 0, .int 0])) :: (([] : va_W) ++ LB X f0))) H2 := g1
  replace hD : va_D (xA X) (ws ++ ((a, Sum.inr (9, [.null, .null, .null, .null, .null, .null, .int 0, .int 0, .int 0])) :: (([] : va_W) ++ LB X f0))) := g2
  replace hS := g3
  clear g1 g2 g3 h1 h2 h3
  refine va_putF (D := xD X) (ci := 9) (v := .ref n0) (ty := .object "FlyTreasury$Ledger") (C := RX8) (T := TX8) (N := 9) hx hb (hE.ws us_X8 ug_X8 _) (fun _ h => h) tyX8 tyX8_ok nmX8 hown hE.2.1 hP hD hS (ws.length + 0) (ap_at ws _ 0) rfl 0 (by decide) (hE.w qw_318 rfl _) (fun _ h9 => h9) rfl hin rfl (by decide +kernel) rfl rfl (Nat.le_of_ble_eq_true rfl) dX8_init_12 (fun H3 locs3 h1 h2 h3 => ?_)
  rw [ap_set] at h1 h2
  replace hP : va_P (xD X) vwCl (ws ++ ((a, Sum.inr (9, [.ref n0, .null, .null, .null, .null, .null, .int 0, .int 0, .int 0])) :: (([] : va_W) ++ LB X f0))) H3 := h1
  replace hD : va_D (xA X) (ws ++ ((a, Sum.inr (9, [.ref n0, .null, .null, .null, .null, .null, .int 0, .int 0, .int 0])) :: (([] : va_W) ++ LB X f0))) := h2
  replace hS := h3
  clear h1 h2 h3
  refine lv_aload_n hx hb dX8_init_15 rfl (lv_at hl 0 rfl) ?_
  refine va_new (ci := 5) (fs := [.null, .null, .null, .null, .int 0, .int 0, .int 0, .int 0, .int 0, .int 0, .int 0]) (C := RX3) (T := TX3) (N := 11) hx hb (hE.ws us_X3 ug_X3 _) (fun _ h => h) tyX3 tyX3_ok hown (hE.w qw_117 rfl _) (hE.w qw_118 rfl _) (hE.w qw_75 rfl _) hE.2.1 hP hD hS hA rfl df_X3 (Nat.le_of_ble_eq_true rfl) (Nat.le_of_ble_eq_true rfl) dX8_init_16 (fun n1 H4 h1 h2 h3 => ?_)
  refine lv_dup hx hb dX8_init_19 rfl ?_
  refine call_I (run_I (cc := cX8_init) (As := []) (rest := [.ref n1, .ref a]) hx hb hml hown hE hAO hz (inX3_init X l hfl (ws ++ ((a, Sum.inr (9, [.ref n0, .null, .null, .null, .null, .null, .int 0, .int 0, .int 0])) :: (([] : va_W) ++ LB X f0))) n1) qw_119 qw_120 qw_75 qw_121 (myX3_init).2 ⟨Nat.le_of_ble_eq_true rfl, Nat.le_of_ble_eq_true rfl⟩ rfl h1 h2 h3 rfl hl.1 rfl (Nat.le_of_ble_eq_true rfl) dX8_init_20 ⟨Nat.le_of_ble_eq_true rfl, Nat.le_of_ble_eq_true rfl⟩) h3 (fun W H5 locs5 hw g1 g2 g3 => ?_)
  obtain ⟨f1, hf1, rfl⟩ := hw
  rw [List.append_assoc, List.cons_append] at g1 g2
  replace hP : va_P (xD X) vwCl (ws ++ ((a, Sum.inr (9, [.ref n0, .null, .null, .null, .null, .null, .int 0, .int 0, .int 0])) :: ((([] : va_W) ++ LB X f0) ++ LB X f1))) H5 := g1
  replace hD : va_D (xA X) (ws ++ ((a, Sum.inr (9, [.ref n0, .null, .null, .null, .null, .null, .int 0, .int 0, .int 0])) :: ((([] : va_W) ++ LB X f0) ++ LB X f1))) := g2
  replace hS := g3
  clear g1 g2 g3 h1 h2 h3
  refine va_putF (D := xD X) (ci := 9) (v := .ref n1) (ty := .object "FlyTreasury$Ledger") (C := RX8) (T := TX8) (N := 9) hx hb (hE.ws us_X8 ug_X8 _) (fun _ h => h) tyX8 tyX8_ok nmX8 hown hE.2.1 hP hD hS (ws.length + 0) (ap_at ws _ 0) rfl 1 (by decide) (hE.w qw_319 rfl _) (fun _ h9 => h9) rfl hin rfl (by decide +kernel) rfl rfl (Nat.le_of_ble_eq_true rfl) dX8_init_23 (fun H6 locs6 h1 h2 h3 => ?_)
  rw [ap_set] at h1 h2
  replace hP : va_P (xD X) vwCl (ws ++ ((a, Sum.inr (9, [.ref n0, .ref n1, .null, .null, .null, .null, .int 0, .int 0, .int 0])) :: ((([] : va_W) ++ LB X f0) ++ LB X f1))) H6 := h1
  replace hD : va_D (xA X) (ws ++ ((a, Sum.inr (9, [.ref n0, .ref n1, .null, .null, .null, .null, .int 0, .int 0, .int 0])) :: ((([] : va_W) ++ LB X f0) ++ LB X f1))) := h2
  replace hS := h3
  clear h1 h2 h3
  refine lv_aload_n hx hb dX8_init_26 rfl (lv_at hl 0 rfl) ?_
  refine va_new (ci := 5) (fs := [.null, .null, .null, .null, .int 0, .int 0, .int 0, .int 0, .int 0, .int 0, .int 0]) (C := RX3) (T := TX3) (N := 11) hx hb (hE.ws us_X3 ug_X3 _) (fun _ h => h) tyX3 tyX3_ok hown (hE.w qw_117 rfl _) (hE.w qw_118 rfl _) (hE.w qw_75 rfl _) hE.2.1 hP hD hS hA rfl df_X3 (Nat.le_of_ble_eq_true rfl) (Nat.le_of_ble_eq_true rfl) dX8_init_27 (fun n2 H7 h1 h2 h3 => ?_)
  refine lv_dup hx hb dX8_init_30 rfl ?_
  refine call_I (run_I (cc := cX8_init) (As := []) (rest := [.ref n2, .ref a]) hx hb hml hown hE hAO hz (inX3_init X l hfl (ws ++ ((a, Sum.inr (9, [.ref n0, .ref n1, .null, .null, .null, .null, .int 0, .int 0, .int 0])) :: ((([] : va_W) ++ LB X f0) ++ LB X f1))) n2) qw_119 qw_120 qw_75 qw_121 (myX3_init).2 ⟨Nat.le_of_ble_eq_true rfl, Nat.le_of_ble_eq_true rfl⟩ rfl h1 h2 h3 rfl hl.1 rfl (Nat.le_of_ble_eq_true rfl) dX8_init_31 ⟨Nat.le_of_ble_eq_true rfl, Nat.le_of_ble_eq_true rfl⟩) h3 (fun W H8 locs8 hw g1 g2 g3 => ?_)
  obtain ⟨f2, hf2, rfl⟩ := hw
  rw [List.append_assoc, List.cons_append] at g1 g2
  replace hP : va_P (xD X) vwCl (ws ++ ((a, Sum.inr (9, [.ref n0, .ref n1, .null, .null, .null, .null, .int 0, .int 0, .int 0])) :: (((([] : va_W) ++ LB X f0) ++ LB X f1) ++ LB X f2))) H8 := g1
  replace hD : va_D (xA X) (ws ++ ((a, Sum.inr (9, [.ref n0, .ref n1, .null, .null, .null, .null, .int 0, .int 0, .int 0])) :: (((([] : va_W) ++ LB X f0) ++ LB X f1) ++ LB X f2))) := g2
  replace hS := g3
  clear g1 g2 g3 h1 h2 h3
  refine va_putF (D := xD X) (ci := 9) (v := .ref n2) (ty := .object "FlyTreasury$Ledger") (C := RX8) (T := TX8) (N := 9) hx hb (hE.ws us_X8 ug_X8 _) (fun _ h => h) tyX8 tyX8_ok nmX8 hown hE.2.1 hP hD hS (ws.length + 0) (ap_at ws _ 0) rfl 2 (by decide) (hE.w qw_320 rfl _) (fun _ h9 => h9) rfl hin rfl (by decide +kernel) rfl rfl (Nat.le_of_ble_eq_true rfl) dX8_init_34 (fun H9 locs9 h1 h2 h3 => ?_)
  rw [ap_set] at h1 h2
  replace hP : va_P (xD X) vwCl (ws ++ ((a, Sum.inr (9, [.ref n0, .ref n1, .ref n2, .null, .null, .null, .int 0, .int 0, .int 0])) :: (((([] : va_W) ++ LB X f0) ++ LB X f1) ++ LB X f2))) H9 := h1
  replace hD : va_D (xA X) (ws ++ ((a, Sum.inr (9, [.ref n0, .ref n1, .ref n2, .null, .null, .null, .int 0, .int 0, .int 0])) :: (((([] : va_W) ++ LB X f0) ++ LB X f1) ++ LB X f2))) := h2
  replace hS := h3
  clear h1 h2 h3
  refine lv_aload_n hx hb dX8_init_37 rfl (lv_at hl 0 rfl) ?_
  refine va_new (ci := 4) (fs := [.null, .int 0, .int 0]) (C := RX2) (T := TX2) (N := 3) hx hb (hE.ws us_X2 ug_X2 _) (fun _ h => h) tyX2 tyX2_ok hown (hE.w qw_203 rfl _) (hE.w qw_204 rfl _) (hE.w qw_77 rfl _) hE.2.1 hP hD hS hA rfl df_X2 (Nat.le_of_ble_eq_true rfl) (Nat.le_of_ble_eq_true rfl) dX8_init_38 (fun n3 H10 h1 h2 h3 => ?_)
  refine lv_dup hx hb dX8_init_41 rfl ?_
  refine call_I (run_I (cc := cX8_init) (As := []) (rest := [.ref n3, .ref a]) hx hb hml hown hE hAO hz (inX2_init X l hfl (ws ++ ((a, Sum.inr (9, [.ref n0, .ref n1, .ref n2, .null, .null, .null, .int 0, .int 0, .int 0])) :: (((([] : va_W) ++ LB X f0) ++ LB X f1) ++ LB X f2))) n3) qw_205 qw_206 qw_77 qw_207 (myX2_init).2 ⟨Nat.le_of_ble_eq_true rfl, Nat.le_of_ble_eq_true rfl⟩ rfl h1 h2 h3 rfl hl.1 rfl (Nat.le_of_ble_eq_true rfl) dX8_init_42 ⟨Nat.le_of_ble_eq_true rfl, Nat.le_of_ble_eq_true rfl⟩) h3 (fun W H11 locs11 hw g1 g2 g3 => ?_)
  obtain ⟨F, qh, fq, hfq, rfl⟩ := hw
  rw [List.append_assoc, List.cons_append] at g1 g2
  replace hP : va_P (xD X) vwCl (ws ++ ((a, Sum.inr (9, [.ref n0, .ref n1, .ref n2, .null, .null, .null, .int 0, .int 0, .int 0])) :: ((((([] : va_W) ++ LB X f0) ++ LB X f1) ++ LB X f2) ++ ([(n3, Sum.inr (4, [.ref qh, .int 0, .int 0])), (qh, Sum.inl (xc X 4, 8, Sum.inr (Sum.inr (Sum.inr (Sum.inr fq)))))] ++ LRw X F 8)))) H11 := g1
  replace hD : va_D (xA X) (ws ++ ((a, Sum.inr (9, [.ref n0, .ref n1, .ref n2, .null, .null, .null, .int 0, .int 0, .int 0])) :: ((((([] : va_W) ++ LB X f0) ++ LB X f1) ++ LB X f2) ++ ([(n3, Sum.inr (4, [.ref qh, .int 0, .int 0])), (qh, Sum.inl (xc X 4, 8, Sum.inr (Sum.inr (Sum.inr (Sum.inr fq)))))] ++ LRw X F 8)))) := g2
  replace hS := g3
  clear g1 g2 g3 h1 h2 h3
  refine va_putF (D := xD X) (ci := 9) (v := .ref n3) (ty := .object "FlyTreasury$History") (C := RX8) (T := TX8) (N := 9) hx hb (hE.ws us_X8 ug_X8 _) (fun _ h => h) tyX8 tyX8_ok nmX8 hown hE.2.1 hP hD hS (ws.length + 0) (ap_at ws _ 0) rfl 3 (by decide) (hE.w qw_321 rfl _) (fun _ h9 => h9) rfl hin rfl (by decide +kernel) rfl rfl (Nat.le_of_ble_eq_true rfl) dX8_init_45 (fun H12 locs12 h1 h2 h3 => ?_)
  rw [ap_set] at h1 h2
  replace hP : va_P (xD X) vwCl (ws ++ ((a, Sum.inr (9, [.ref n0, .ref n1, .ref n2, .ref n3, .null, .null, .int 0, .int 0, .int 0])) :: ((((([] : va_W) ++ LB X f0) ++ LB X f1) ++ LB X f2) ++ ([(n3, Sum.inr (4, [.ref qh, .int 0, .int 0])), (qh, Sum.inl (xc X 4, 8, Sum.inr (Sum.inr (Sum.inr (Sum.inr fq)))))] ++ LRw X F 8)))) H12 := h1
  replace hD : va_D (xA X) (ws ++ ((a, Sum.inr (9, [.ref n0, .ref n1, .ref n2, .ref n3, .null, .null, .int 0, .int 0, .int 0])) :: ((((([] : va_W) ++ LB X f0) ++ LB X f1) ++ LB X f2) ++ ([(n3, Sum.inr (4, [.ref qh, .int 0, .int 0])), (qh, Sum.inl (xc X 4, 8, Sum.inr (Sum.inr (Sum.inr (Sum.inr fq)))))] ++ LRw X F 8)))) := h2
  replace hS := h3
  clear h1 h2 h3
  refine lv_aload_n hx hb dX8_init_48 rfl (lv_at hl 0 rfl) ?_
  refine va_new (ci := 7) (fs := [.null, .null, .int 0, .int 0, .int 0]) (C := RX6) (T := TX6) (N := 5) hx hb (hE.ws us_X6 ug_X6 _) (fun _ h => h) tyX6 tyX6_ok hown (hE.w qw_223 rfl _) (hE.w qw_224 rfl _) (hE.w qw_78 rfl _) hE.2.1 hP hD hS hA rfl df_X6 (Nat.le_of_ble_eq_true rfl) (Nat.le_of_ble_eq_true rfl) dX8_init_49 (fun n4 H13 h1 h2 h3 => ?_)
  refine lv_dup hx hb dX8_init_52 rfl ?_
  refine call_I (run_I (cc := cX8_init) (As := []) (rest := [.ref n4, .ref a]) hx hb hml hown hE hAO hz (inX6_init X l hfl (ws ++ ((a, Sum.inr (9, [.ref n0, .ref n1, .ref n2, .ref n3, .null, .null, .int 0, .int 0, .int 0])) :: ((((([] : va_W) ++ LB X f0) ++ LB X f1) ++ LB X f2) ++ ([(n3, Sum.inr (4, [.ref qh, .int 0, .int 0])), (qh, Sum.inl (xc X 4, 8, Sum.inr (Sum.inr (Sum.inr (Sum.inr fq)))))] ++ LRw X F 8)))) n4) qw_225 qw_226 qw_78 qw_227 (myX6_init).2 ⟨Nat.le_of_ble_eq_true rfl, Nat.le_of_ble_eq_true rfl⟩ rfl h1 h2 h3 rfl hl.1 rfl (Nat.le_of_ble_eq_true rfl) dX8_init_53 ⟨Nat.le_of_ble_eq_true rfl, Nat.le_of_ble_eq_true rfl⟩) h3 (fun W H14 locs14 hw g1 g2 g3 => ?_)
  obtain ⟨fs, hfs, rfl⟩ := hw
  rw [List.append_assoc, List.cons_append] at g1 g2
  replace hP : va_P (xD X) vwCl (ws ++ ((a, Sum.inr (9, [.ref n0, .ref n1, .ref n2, .ref n3, .null, .null, .int 0, .int 0, .int 0])) :: (((((([] : va_W) ++ LB X f0) ++ LB X f1) ++ LB X f2) ++ ([(n3, Sum.inr (4, [.ref qh, .int 0, .int 0])), (qh, Sum.inl (xc X 4, 8, Sum.inr (Sum.inr (Sum.inr (Sum.inr fq)))))] ++ LRw X F 8)) ++ SK X fs))) H14 := g1
  replace hD : va_D (xA X) (ws ++ ((a, Sum.inr (9, [.ref n0, .ref n1, .ref n2, .ref n3, .null, .null, .int 0, .int 0, .int 0])) :: (((((([] : va_W) ++ LB X f0) ++ LB X f1) ++ LB X f2) ++ ([(n3, Sum.inr (4, [.ref qh, .int 0, .int 0])), (qh, Sum.inl (xc X 4, 8, Sum.inr (Sum.inr (Sum.inr (Sum.inr fq)))))] ++ LRw X F 8)) ++ SK X fs))) := g2
  replace hS := g3
  clear g1 g2 g3 h1 h2 h3
  refine va_putF (D := xD X) (ci := 9) (v := .ref n4) (ty := .object "FlyTreasury$Script") (C := RX8) (T := TX8) (N := 9) hx hb (hE.ws us_X8 ug_X8 _) (fun _ h => h) tyX8 tyX8_ok nmX8 hown hE.2.1 hP hD hS (ws.length + 0) (ap_at ws _ 0) rfl 4 (by decide) (hE.w qw_322 rfl _) (fun _ h9 => h9) rfl hin rfl (by decide +kernel) rfl rfl (Nat.le_of_ble_eq_true rfl) dX8_init_56 (fun H15 locs15 h1 h2 h3 => ?_)
  rw [ap_set] at h1 h2
  replace hP : va_P (xD X) vwCl (ws ++ ((a, Sum.inr (9, [.ref n0, .ref n1, .ref n2, .ref n3, .ref n4, .null, .int 0, .int 0, .int 0])) :: (((((([] : va_W) ++ LB X f0) ++ LB X f1) ++ LB X f2) ++ ([(n3, Sum.inr (4, [.ref qh, .int 0, .int 0])), (qh, Sum.inl (xc X 4, 8, Sum.inr (Sum.inr (Sum.inr (Sum.inr fq)))))] ++ LRw X F 8)) ++ SK X fs))) H15 := h1
  replace hD : va_D (xA X) (ws ++ ((a, Sum.inr (9, [.ref n0, .ref n1, .ref n2, .ref n3, .ref n4, .null, .int 0, .int 0, .int 0])) :: (((((([] : va_W) ++ LB X f0) ++ LB X f1) ++ LB X f2) ++ ([(n3, Sum.inr (4, [.ref qh, .int 0, .int 0])), (qh, Sum.inl (xc X 4, 8, Sum.inr (Sum.inr (Sum.inr (Sum.inr fq)))))] ++ LRw X F 8)) ++ SK X fs))) := h2
  replace hS := h3
  clear h1 h2 h3
  refine lv_aload_n hx hb dX8_init_59 rfl (lv_at hl 0 rfl) ?_
  refine va_new (ci := 1) (fs := [.null, .int 0, .int 0, .int 0]) (C := RJ4) (T := TJ4) (N := 4) hx hb (hE.ws us_J4 ug_J4 _) (fun _ h => h) tyJ4 tyJ4_ok hown (hE.w qw_285 rfl _) (hE.w qw_286 rfl _) (hE.w qw_83 rfl _) hE.2.1 hP hD hS hA rfl df_J4 (Nat.le_of_ble_eq_true rfl) (Nat.le_of_ble_eq_true rfl) dX8_init_60 (fun n5 H16 h1 h2 h3 => ?_)
  refine lv_dup hx hb dX8_init_63 rfl ?_
  refine call_I (run_I (cc := cX8_init) (As := []) (rest := [.ref n5, .ref a]) hx hb hml hown hE hAO hz (inJ4_init_da8c8 X l hfl (ws ++ ((a, Sum.inr (9, [.ref n0, .ref n1, .ref n2, .ref n3, .ref n4, .null, .int 0, .int 0, .int 0])) :: (((((([] : va_W) ++ LB X f0) ++ LB X f1) ++ LB X f2) ++ ([(n3, Sum.inr (4, [.ref qh, .int 0, .int 0])), (qh, Sum.inl (xc X 4, 8, Sum.inr (Sum.inr (Sum.inr (Sum.inr fq)))))] ++ LRw X F 8)) ++ SK X fs))) n5) qw_287 qw_288 qw_83 qw_289 (myJ4_init_da8c8).2 ⟨Nat.le_of_ble_eq_true rfl, Nat.le_of_ble_eq_true rfl⟩ rfl h1 h2 h3 rfl hl.1 rfl (Nat.le_of_ble_eq_true rfl) dX8_init_64 ⟨Nat.le_of_ble_eq_true rfl, Nat.le_of_ble_eq_true rfl⟩) h3 (fun W H17 locs17 hw g1 g2 g3 => ?_)
  obtain ⟨qb, rfl⟩ := hw
  rw [List.append_assoc, List.cons_append] at g1 g2
  replace hP : va_P (xD X) vwCl (ws ++ ((a, Sum.inr (9, [.ref n0, .ref n1, .ref n2, .ref n3, .ref n4, .null, .int 0, .int 0, .int 0])) :: ((((((([] : va_W) ++ LB X f0) ++ LB X f1) ++ LB X f2) ++ ([(n3, Sum.inr (4, [.ref qh, .int 0, .int 0])), (qh, Sum.inl (xc X 4, 8, Sum.inr (Sum.inr (Sum.inr (Sum.inr fq)))))] ++ LRw X F 8)) ++ SK X fs) ++ [(n5, Sum.inr (1, [.ref qb, .int 0, .int 0, .int 0])), (qb, Sum.inl (xc X 2, 16, Sum.inl (fun _ => 0)))]))) H17 := g1
  replace hD : va_D (xA X) (ws ++ ((a, Sum.inr (9, [.ref n0, .ref n1, .ref n2, .ref n3, .ref n4, .null, .int 0, .int 0, .int 0])) :: ((((((([] : va_W) ++ LB X f0) ++ LB X f1) ++ LB X f2) ++ ([(n3, Sum.inr (4, [.ref qh, .int 0, .int 0])), (qh, Sum.inl (xc X 4, 8, Sum.inr (Sum.inr (Sum.inr (Sum.inr fq)))))] ++ LRw X F 8)) ++ SK X fs) ++ [(n5, Sum.inr (1, [.ref qb, .int 0, .int 0, .int 0])), (qb, Sum.inl (xc X 2, 16, Sum.inl (fun _ => 0)))]))) := g2
  replace hS := g3
  clear g1 g2 g3 h1 h2 h3
  refine va_putF (D := xD X) (ci := 9) (v := .ref n5) (ty := .object "java/lang/StringBuilder") (C := RX8) (T := TX8) (N := 9) hx hb (hE.ws us_X8 ug_X8 _) (fun _ h => h) tyX8 tyX8_ok nmX8 hown hE.2.1 hP hD hS (ws.length + 0) (ap_at ws _ 0) rfl 5 (by decide) (hE.w qw_323 rfl _) (fun _ h9 => h9) rfl hin rfl (by decide +kernel) rfl rfl (Nat.le_of_ble_eq_true rfl) dX8_init_67 (fun H18 locs18 h1 h2 h3 => ?_)
  rw [ap_set] at h1 h2
  replace hP : va_P (xD X) vwCl (ws ++ ((a, Sum.inr (9, [.ref n0, .ref n1, .ref n2, .ref n3, .ref n4, .ref n5, .int 0, .int 0, .int 0])) :: ((((((([] : va_W) ++ LB X f0) ++ LB X f1) ++ LB X f2) ++ ([(n3, Sum.inr (4, [.ref qh, .int 0, .int 0])), (qh, Sum.inl (xc X 4, 8, Sum.inr (Sum.inr (Sum.inr (Sum.inr fq)))))] ++ LRw X F 8)) ++ SK X fs) ++ [(n5, Sum.inr (1, [.ref qb, .int 0, .int 0, .int 0])), (qb, Sum.inl (xc X 2, 16, Sum.inl (fun _ => 0)))]))) H18 := h1
  replace hD : va_D (xA X) (ws ++ ((a, Sum.inr (9, [.ref n0, .ref n1, .ref n2, .ref n3, .ref n4, .ref n5, .int 0, .int 0, .int 0])) :: ((((((([] : va_W) ++ LB X f0) ++ LB X f1) ++ LB X f2) ++ ([(n3, Sum.inr (4, [.ref qh, .int 0, .int 0])), (qh, Sum.inl (xc X 4, 8, Sum.inr (Sum.inr (Sum.inr (Sum.inr fq)))))] ++ LRw X F 8)) ++ SK X fs) ++ [(n5, Sum.inr (1, [.ref qb, .int 0, .int 0, .int 0])), (qb, Sum.inl (xc X 2, 16, Sum.inl (fun _ => 0)))]))) := h2
  replace hS := h3
  clear h1 h2 h3
  refine lv_aload_n hx hb dX8_init_70 rfl (lv_at hl 0 rfl) ?_
  refine lv_iconst (v := 0) hx hb dX8_init_71 (by decide) ?_
  refine va_put (D := xD X) (ci := 9) (v := .int 0) (ty := .boolean) (C := RX8) (T := TX8) (N := 9) hx hb (hE.ws us_X8 ug_X8 _) (fun _ h => h) tyX8 tyX8_ok nmX8 hown hE.2.1 hP hD hS (ws.length + 0) (ap_at ws _ 0) rfl 6 (by decide) (hE.w qw_324 rfl _) (fun _ h9 => h9) rfl (by decide +kernel) rfl rfl (Nat.le_of_ble_eq_true rfl) dX8_init_72 (fun H19 locs19 h1 h2 h3 => ?_)
  rw [ap_set] at h1 h2
  replace hP : va_P (xD X) vwCl (ws ++ ((a, Sum.inr (9, [.ref n0, .ref n1, .ref n2, .ref n3, .ref n4, .ref n5, .int 0, .int 0, .int 0])) :: ((((((([] : va_W) ++ LB X f0) ++ LB X f1) ++ LB X f2) ++ ([(n3, Sum.inr (4, [.ref qh, .int 0, .int 0])), (qh, Sum.inl (xc X 4, 8, Sum.inr (Sum.inr (Sum.inr (Sum.inr fq)))))] ++ LRw X F 8)) ++ SK X fs) ++ [(n5, Sum.inr (1, [.ref qb, .int 0, .int 0, .int 0])), (qb, Sum.inl (xc X 2, 16, Sum.inl (fun _ => 0)))]))) H19 := h1
  replace hD : va_D (xA X) (ws ++ ((a, Sum.inr (9, [.ref n0, .ref n1, .ref n2, .ref n3, .ref n4, .ref n5, .int 0, .int 0, .int 0])) :: ((((((([] : va_W) ++ LB X f0) ++ LB X f1) ++ LB X f2) ++ ([(n3, Sum.inr (4, [.ref qh, .int 0, .int 0])), (qh, Sum.inl (xc X 4, 8, Sum.inr (Sum.inr (Sum.inr (Sum.inr fq)))))] ++ LRw X F 8)) ++ SK X fs) ++ [(n5, Sum.inr (1, [.ref qb, .int 0, .int 0, .int 0])), (qb, Sum.inl (xc X 2, 16, Sum.inl (fun _ => 0)))]))) := h2
  replace hS := h3
  clear h1 h2 h3
  refine lv_aload_n hx hb dX8_init_75 rfl (lv_at hl 0 rfl) ?_
  refine lv_iconst (v := -1) hx hb dX8_init_76 (by decide) ?_
  refine va_put (D := xD X) (ci := 9) (v := .int (-1)) (ty := .int) (C := RX8) (T := TX8) (N := 9) hx hb (hE.ws us_X8 ug_X8 _) (fun _ h => h) tyX8 tyX8_ok nmX8 hown hE.2.1 hP hD hS (ws.length + 0) (ap_at ws _ 0) rfl 7 (by decide) (hE.w qw_325 rfl _) (fun _ h9 => h9) rfl (by decide +kernel) rfl rfl (Nat.le_of_ble_eq_true rfl) dX8_init_77 (fun H20 locs20 h1 h2 h3 => ?_)
  rw [ap_set] at h1 h2
  replace hP : va_P (xD X) vwCl (ws ++ ((a, Sum.inr (9, [.ref n0, .ref n1, .ref n2, .ref n3, .ref n4, .ref n5, .int 0, .int (-1), .int 0])) :: ((((((([] : va_W) ++ LB X f0) ++ LB X f1) ++ LB X f2) ++ ([(n3, Sum.inr (4, [.ref qh, .int 0, .int 0])), (qh, Sum.inl (xc X 4, 8, Sum.inr (Sum.inr (Sum.inr (Sum.inr fq)))))] ++ LRw X F 8)) ++ SK X fs) ++ [(n5, Sum.inr (1, [.ref qb, .int 0, .int 0, .int 0])), (qb, Sum.inl (xc X 2, 16, Sum.inl (fun _ => 0)))]))) H20 := h1
  replace hD : va_D (xA X) (ws ++ ((a, Sum.inr (9, [.ref n0, .ref n1, .ref n2, .ref n3, .ref n4, .ref n5, .int 0, .int (-1), .int 0])) :: ((((((([] : va_W) ++ LB X f0) ++ LB X f1) ++ LB X f2) ++ ([(n3, Sum.inr (4, [.ref qh, .int 0, .int 0])), (qh, Sum.inl (xc X 4, 8, Sum.inr (Sum.inr (Sum.inr (Sum.inr fq)))))] ++ LRw X F 8)) ++ SK X fs) ++ [(n5, Sum.inr (1, [.ref qb, .int 0, .int 0, .int 0])), (qb, Sum.inl (xc X 2, 16, Sum.inl (fun _ => 0)))]))) := h2
  replace hS := h3
  clear h1 h2 h3
  refine lv_aload_n hx hb dX8_init_80 rfl (lv_at hl 0 rfl) ?_
  refine lv_iconst (v := -1) hx hb dX8_init_81 (by decide) ?_
  refine va_put (D := xD X) (ci := 9) (v := .int (-1)) (ty := .int) (C := RX8) (T := TX8) (N := 9) hx hb (hE.ws us_X8 ug_X8 _) (fun _ h => h) tyX8 tyX8_ok nmX8 hown hE.2.1 hP hD hS (ws.length + 0) (ap_at ws _ 0) rfl 8 (by decide) (hE.w qw_326 rfl _) (fun _ h9 => h9) rfl (by decide +kernel) rfl rfl (Nat.le_of_ble_eq_true rfl) dX8_init_82 (fun H21 locs21 h1 h2 h3 => ?_)
  rw [ap_set] at h1 h2
  replace hP : va_P (xD X) vwCl (ws ++ ((a, Sum.inr (9, [.ref n0, .ref n1, .ref n2, .ref n3, .ref n4, .ref n5, .int 0, .int (-1), .int (-1)])) :: ((((((([] : va_W) ++ LB X f0) ++ LB X f1) ++ LB X f2) ++ ([(n3, Sum.inr (4, [.ref qh, .int 0, .int 0])), (qh, Sum.inl (xc X 4, 8, Sum.inr (Sum.inr (Sum.inr (Sum.inr fq)))))] ++ LRw X F 8)) ++ SK X fs) ++ [(n5, Sum.inr (1, [.ref qb, .int 0, .int 0, .int 0])), (qb, Sum.inl (xc X 2, 16, Sum.inl (fun _ => 0)))]))) H21 := h1
  replace hD : va_D (xA X) (ws ++ ((a, Sum.inr (9, [.ref n0, .ref n1, .ref n2, .ref n3, .ref n4, .ref n5, .int 0, .int (-1), .int (-1)])) :: ((((((([] : va_W) ++ LB X f0) ++ LB X f1) ++ LB X f2) ++ ([(n3, Sum.inr (4, [.ref qh, .int 0, .int 0])), (qh, Sum.inl (xc X 4, 8, Sum.inr (Sum.inr (Sum.inr (Sum.inr fq)))))] ++ LRw X F 8)) ++ SK X fs) ++ [(n5, Sum.inr (1, [.ref qb, .int 0, .int 0, .int 0])), (qb, Sum.inl (xc X 2, 16, Sum.inl (fun _ => 0)))]))) := h2
  replace hS := h3
  clear h1 h2 h3
  refine W.widen (k := 188) (n := 962) (Nat.le_of_ble_eq_true rfl) (Nat.le_of_ble_eq_true rfl) ?_
  exact iend hx hb hr hlk ⟨f0, f1, f2, F, fs, fq, n3, qh, n5, qb, hfq, by rw [hf0, hf1, hf2, hfs]⟩ hP hD hS dX8_init_85
