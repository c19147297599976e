set_option maxHeartbeats 4000000 in
set_option maxRecDepth 100000 in
theorem inX9_init (X : Cx) (l : Launch) (hfl : l.stackTraces = false) (ws : va_W) (a : Nat) : CI X l yX9_init cX9_init 1 1 7 740 [.ref a] (ws ++ [(a, Sum.inr (10, [.int 0, .null, .null, .null, .null, .int 0, .int 0, .int 0, .null, .int 0, .null, .int 0, .int 0, .int 0, .int 0, .null, .int 0, .int 0]))]) (fun W => ∃ q1 q2 q3 q4 q5 q6 q7 : Nat, W = ws ++ [(a, Sum.inr (10, [.int 0, .ref q1, .ref q2, .ref q3, .ref q4, .int 0, .int 0, .int 0, .ref q5, .int 0, .ref q6, .int 0, .int 0, .int (-1), .int (-1), .ref q7, .int 0, .int 0])), (q1, Sum.inl (xc X 0, 56, Sum.inl (upd (upd (upd (fun _ => 0) (2 : Int32).toNatClampNeg 2) (3 : Int32).toNatClampNeg 6) (4 : Int32).toNatClampNeg 20))), (q2, Sum.inl (xc X 0, 448, Sum.inl (fun _ => 0))), (q3, Sum.inl (xc X 0, 56, Sum.inl (fun _ => 0))), (q4, Sum.inl (xc X 0, 56, Sum.inl (fun _ => 0))), (q5, Sum.inl (xc X 1, 60, Sum.inl (fun _ => 0))), (q6, Sum.inl (xc X 1, 60, Sum.inl (fun _ => 0))), (q7, Sum.inl (xc X 0, 4, Sum.inl (fun _ => 0)))]) := by
  refine ibegin (by decide) (Nat.le_of_ble_eq_true rfl) (fun p e s m below meth c hx hb hr hml hlk hin hown hE hAO hz ls hl hP hD hS => ?_)
  have hA : ∀ q : Nat, s.heap.size ≤ q → xA X q := fun q h => Nat.le_trans hz h
  have hl : lv_has ls 1 [(0, .ref a)] := hl
  have hown : s.vm.findClass "FlyTreasuryModel" = some m.cls := hown
  refine lv_aload_n hx hb dX9_init_0 rfl (lv_at hl 0 rfl) ?_
  refine W.objInit hx hb hown (hE.w qw_1569 rfl _) (hE.w qw_115 rfl _) (hE.w qw_116 rfl _) rfl (hl.1.trans hml.symm) rfl dX9_init_1 (Nat.le_of_ble_eq_true rfl) (Nat.le_of_ble_eq_true rfl) ?_
  refine W.eq (g2 := F0 m 4 ls []) rfl ?_
  refine lv_aload_n hx hb dX9_init_4 rfl (lv_at hl 0 rfl) ?_
  refine lv_bipush (v := 56) hx hb dX9_init_5 (by decide) ?_
  refine va_newa (atype := .int) (ty := .int) hx hb (hE.w qw_159 rfl _) rfl hE.2.1 hP hD hS hA (N' := 56) (a0 := (56, .inl (fun _ => 0))) (fun _ => rfl) (by decide) (by decide) (Nat.le_of_ble_eq_true rfl) (Nat.le_of_ble_eq_true rfl) (Nat.le_of_ble_eq_true rfl) dX9_init_7 (fun q1 cA H101 hK1 h1 h2 h3 => ?_)
  obtain rfl : cA = xc X 0 := Option.some.inj ((hK1.2 8 (cA, .int) rfl).2.symm.trans (hE.2.1.2 0 (xc X 0, .int) rfl).2)
  clear hK1
  rw [List.append_assoc] at h1 h2
  replace hP : va_P (xD X) vwCl (ws ++ [(a, Sum.inr (10, [.int 0, .null, .null, .null, .null, .int 0, .int 0, .int 0, .null, .int 0, .null, .int 0, .int 0, .int 0, .int 0, .null, .int 0, .int 0])), (q1, Sum.inl (xc X 0, 56, Sum.inl (fun _ => 0)))]) H101 := h1
  replace hD : va_D (xA X) (ws ++ [(a, Sum.inr (10, [.int 0, .null, .null, .null, .null, .int 0, .int 0, .int 0, .null, .int 0, .null, .int 0, .int 0, .int 0, .int 0, .null, .int 0, .int 0])), (q1, Sum.inl (xc X 0, 56, Sum.inl (fun _ => 0)))]) := h2
  replace hS := h3
  clear h1 h2 h3
  refine va_putF (D := xD X) (ci := 10) (v := .ref q1) (ty := .array (.int)) (C := RX9) (T := TX9) (N := 18) hx hb (hE.ws us_X9 ug_X9 _) (fun _ h => h) tyX9 tyX9_ok nmX9 hown hE.2.1 hP hD hS (ws.length + 0) (ap_at ws _ 0) rfl 1 (by decide) (hE.w qw_1571 rfl _) (fun _ h9 => h9) rfl hin rfl (by decide +kernel) rfl rfl (Nat.le_of_ble_eq_true rfl) dX9_init_9 (fun H102 locs9 h1 h2 h3 => ?_)
  rw [ap_set] at h1 h2
  replace hP : va_P (xD X) vwCl (ws ++ [(a, Sum.inr (10, [.int 0, .ref q1, .null, .null, .null, .int 0, .int 0, .int 0, .null, .int 0, .null, .int 0, .int 0, .int 0, .int 0, .null, .int 0, .int 0])), (q1, Sum.inl (xc X 0, 56, Sum.inl (fun _ => 0)))]) H102 := h1
  replace hD : va_D (xA X) (ws ++ [(a, Sum.inr (10, [.int 0, .ref q1, .null, .null, .null, .int 0, .int 0, .int 0, .null, .int 0, .null, .int 0, .int 0, .int 0, .int 0, .null, .int 0, .int 0])), (q1, Sum.inl (xc X 0, 56, Sum.inl (fun _ => 0)))]) := h2
  replace hS := h3
  clear h1 h2 h3
  refine lv_aload_n hx hb dX9_init_12 rfl (lv_at hl 0 rfl) ?_
  refine lv_sipush (v := 448) hx hb dX9_init_13 (by decide) ?_
  refine va_newa (atype := .int) (ty := .int) hx hb (hE.w qw_159 rfl _) rfl hE.2.1 hP hD hS hA (N' := 448) (a0 := (448, .inl (fun _ => 0))) (fun _ => rfl) (by decide) (by decide) (Nat.le_of_ble_eq_true rfl) (Nat.le_of_ble_eq_true rfl) (Nat.le_of_ble_eq_true rfl) dX9_init_16 (fun q2 cA H103 hK1 h1 h2 h3 => ?_)
  obtain rfl : cA = xc X 0 := Option.some.inj ((hK1.2 8 (cA, .int) rfl).2.symm.trans (hE.2.1.2 0 (xc X 0, .int) rfl).2)
  clear hK1
  rw [List.append_assoc] at h1 h2
  replace hP : va_P (xD X) vwCl (ws ++ [(a, Sum.inr (10, [.int 0, .ref q1, .null, .null, .null, .int 0, .int 0, .int 0, .null, .int 0, .null, .int 0, .int 0, .int 0, .int 0, .null, .int 0, .int 0])), (q1, Sum.inl (xc X 0, 56, Sum.inl (fun _ => 0))), (q2, Sum.inl (xc X 0, 448, Sum.inl (fun _ => 0)))]) H103 := h1
  replace hD : va_D (xA X) (ws ++ [(a, Sum.inr (10, [.int 0, .ref q1, .null, .null, .null, .int 0, .int 0, .int 0, .null, .int 0, .null, .int 0, .int 0, .int 0, .int 0, .null, .int 0, .int 0])), (q1, Sum.inl (xc X 0, 56, Sum.inl (fun _ => 0))), (q2, Sum.inl (xc X 0, 448, Sum.inl (fun _ => 0)))]) := h2
  replace hS := h3
  clear h1 h2 h3
  refine va_putF (D := xD X) (ci := 10) (v := .ref q2) (ty := .array (.int)) (C := RX9) (T := TX9) (N := 18) hx hb (hE.ws us_X9 ug_X9 _) (fun _ h => h) tyX9 tyX9_ok nmX9 hown hE.2.1 hP hD hS (ws.length + 0) (ap_at ws _ 0) rfl 2 (by decide) (hE.w qw_1572 rfl _) (fun _ h9 => h9) rfl hin rfl (by decide +kernel) rfl rfl (Nat.le_of_ble_eq_true rfl) dX9_init_18 (fun H104 locs9 h1 h2 h3 => ?_)
  rw [ap_set] at h1 h2
  replace hP : va_P (xD X) vwCl (ws ++ [(a, Sum.inr (10, [.int 0, .ref q1, .ref q2, .null, .null, .int 0, .int 0, .int 0, .null, .int 0, .null, .int 0, .int 0, .int 0, .int 0, .null, .int 0, .int 0])), (q1, Sum.inl (xc X 0, 56, Sum.inl (fun _ => 0))), (q2, Sum.inl (xc X 0, 448, Sum.inl (fun _ => 0)))]) H104 := h1
  replace hD : va_D (xA X) (ws ++ [(a, Sum.inr (10, [.int 0, .ref q1, .ref q2, .null, .null, .int 0, .int 0, .int 0, .null, .int 0, .null, .int 0, .int 0, .int 0, .int 0, .null, .int 0, .int 0])), (q1, Sum.inl (xc X 0, 56, Sum.inl (fun _ => 0))), (q2, Sum.inl (xc X 0, 448, Sum.inl (fun _ => 0)))]) := h2
  replace hS := h3
  clear h1 h2 h3
  refine lv_aload_n hx hb dX9_init_21 rfl (lv_at hl 0 rfl) ?_
  refine lv_bipush (v := 56) hx hb dX9_init_22 (by decide) ?_
  refine va_newa (atype := .int) (ty := .int) hx hb (hE.w qw_159 rfl _) rfl hE.2.1 hP hD hS hA (N' := 56) (a0 := (56, .inl (fun _ => 0))) (fun _ => rfl) (by decide) (by decide) (Nat.le_of_ble_eq_true rfl) (Nat.le_of_ble_eq_true rfl) (Nat.le_of_ble_eq_true rfl) dX9_init_24 (fun q3 cA H105 hK1 h1 h2 h3 => ?_)
  obtain rfl : cA = xc X 0 := Option.some.inj ((hK1.2 8 (cA, .int) rfl).2.symm.trans (hE.2.1.2 0 (xc X 0, .int) rfl).2)
  clear hK1
  rw [List.append_assoc] at h1 h2
  replace hP : va_P (xD X) vwCl (ws ++ [(a, Sum.inr (10, [.int 0, .ref q1, .ref q2, .null, .null, .int 0, .int 0, .int 0, .null, .int 0, .null, .int 0, .int 0, .int 0, .int 0, .null, .int 0, .int 0])), (q1, Sum.inl (xc X 0, 56, Sum.inl (fun _ => 0))), (q2, Sum.inl (xc X 0, 448, Sum.inl (fun _ => 0))), (q3, Sum.inl (xc X 0, 56, Sum.inl (fun _ => 0)))]) H105 := h1
  replace hD : va_D (xA X) (ws ++ [(a, Sum.inr (10, [.int 0, .ref q1, .ref q2, .null, .null, .int 0, .int 0, .int 0, .null, .int 0, .null, .int 0, .int 0, .int 0, .int 0, .null, .int 0, .int 0])), (q1, Sum.inl (xc X 0, 56, Sum.inl (fun _ => 0))), (q2, Sum.inl (xc X 0, 448, Sum.inl (fun _ => 0))), (q3, Sum.inl (xc X 0, 56, Sum.inl (fun _ => 0)))]) := h2
  replace hS := h3
  clear h1 h2 h3
  refine va_putF (D := xD X) (ci := 10) (v := .ref q3) (ty := .array (.int)) (C := RX9) (T := TX9) (N := 18) hx hb (hE.ws us_X9 ug_X9 _) (fun _ h => h) tyX9 tyX9_ok nmX9 hown hE.2.1 hP hD hS (ws.length + 0) (ap_at ws _ 0) rfl 3 (by decide) (hE.w qw_1573 rfl _) (fun _ h9 => h9) rfl hin rfl (by decide +kernel) rfl rfl (Nat.le_of_ble_eq_true rfl) dX9_init_26 (fun H106 locs9 h1 h2 h3 => ?_)
  rw [ap_set] at h1 h2
  replace hP : va_P (xD X) vwCl (ws ++ [(a, Sum.inr (10, [.int 0, .ref q1, .ref q2, .ref q3, .null, .int 0, .int 0, .int 0, .null, .int 0, .null, .int 0, .int 0, .int 0, .int 0, .null, .int 0, .int 0])), (q1, Sum.inl (xc X 0, 56, Sum.inl (fun _ => 0))), (q2, Sum.inl (xc X 0, 448, Sum.inl (fun _ => 0))), (q3, Sum.inl (xc X 0, 56, Sum.inl (fun _ => 0)))]) H106 := h1
  replace hD : va_D (xA X) (ws ++ [(a, Sum.inr (10, [.int 0, .ref q1, .ref q2, .ref q3, .null, .int 0, .int 0, .int 0, .null, .int 0, .null, .int 0, .int 0, .int 0, .int 0, .null, .int 0, .int 0])), (q1, Sum.inl (xc X 0, 56, Sum.inl (fun _ => 0))), (q2, Sum.inl (xc X 0, 448, Sum.inl (fun _ => 0))), (q3, Sum.inl (xc X 0, 56, Sum.inl (fun _ => 0)))]) := h2
  replace hS := h3
  clear h1 h2 h3
  refine lv_aload_n hx hb dX9_init_29 rfl (lv_at hl 0 rfl) ?_
  refine lv_bipush (v := 56) hx hb dX9_init_30 (by decide) ?_
  refine va_newa (atype := .int) (ty := .int) hx hb (hE.w qw_159 rfl _) rfl hE.2.1 hP hD hS hA (N' := 56) (a0 := (56, .inl (fun _ => 0))) (fun _ => rfl) (by decide) (by decide) (Nat.le_of_ble_eq_true rfl) (Nat.le_of_ble_eq_true rfl) (Nat.le_of_ble_eq_true rfl) dX9_init_32 (fun q4 cA H107 hK1 h1 h2 h3 => ?_)
  obtain rfl : cA = xc X 0 := Option.some.inj ((hK1.2 8 (cA, .int) rfl).2.symm.trans (hE.2.1.2 0 (xc X 0, .int) rfl).2)
  clear hK1
  rw [List.append_assoc] at h1 h2
  replace hP : va_P (xD X) vwCl (ws ++ [(a, Sum.inr (10, [.int 0, .ref q1, .ref q2, .ref q3, .null, .int 0, .int 0, .int 0, .null, .int 0, .null, .int 0, .int 0, .int 0, .int 0, .null, .int 0, .int 0])), (q1, Sum.inl (xc X 0, 56, Sum.inl (fun _ => 0))), (q2, Sum.inl (xc X 0, 448, Sum.inl (fun _ => 0))), (q3, Sum.inl (xc X 0, 56, Sum.inl (fun _ => 0))), (q4, Sum.inl (xc X 0, 56, Sum.inl (fun _ => 0)))]) H107 := h1
  replace hD : va_D (xA X) (ws ++ [(a, Sum.inr (10, [.int 0, .ref q1, .ref q2, .ref q3, .null, .int 0, .int 0, .int 0, .null, .int 0, .null, .int 0, .int 0, .int 0, .int 0, .null, .int 0, .int 0])), (q1, Sum.inl (xc X 0, 56, Sum.inl (fun _ => 0))), (q2, Sum.inl (xc X 0, 448, Sum.inl (fun _ => 0))), (q3, Sum.inl (xc X 0, 56, Sum.inl (fun _ => 0))), (q4, Sum.inl (xc X 0, 56, Sum.inl (fun _ => 0)))]) := h2
  replace hS := h3
  clear h1 h2 h3
  refine va_putF (D := xD X) (ci := 10) (v := .ref q4) (ty := .array (.int)) (C := RX9) (T := TX9) (N := 18) hx hb (hE.ws us_X9 ug_X9 _) (fun _ h => h) tyX9 tyX9_ok nmX9 hown hE.2.1 hP hD hS (ws.length + 0) (ap_at ws _ 0) rfl 4 (by decide) (hE.w qw_1574 rfl _) (fun _ h9 => h9) rfl hin rfl (by decide +kernel) rfl rfl (Nat.le_of_ble_eq_true rfl) dX9_init_34 (fun H108 locs9 h1 h2 h3 => ?_)
  rw [ap_set] at h1 h2
  replace hP : va_P (xD X) vwCl (ws ++ [(a, Sum.inr (10, [.int 0, .ref q1, .ref q2, .ref q3, .ref q4, .int 0, .int 0, .int 0, .null, .int 0, .null, .int 0, .int 0, .int 0, .int 0, .null, .int 0, .int 0])), (q1, Sum.inl (xc X 0, 56, Sum.inl (fun _ => 0))), (q2, Sum.inl (xc X 0, 448, Sum.inl (fun _ => 0))), (q3, Sum.inl (xc X 0, 56, Sum.inl (fun _ => 0))), (q4, Sum.inl (xc X 0, 56, Sum.inl (fun _ => 0)))]) H108 := h1
  replace hD : va_D (xA X) (ws ++ [(a, Sum.inr (10, [.int 0, .ref q1, .ref q2, .ref q3, .ref q4, .int 0, .int 0, .int 0, .null, .int 0, .null, .int 0, .int 0, .int 0, .int 0, .null, .int 0, .int 0])), (q1, Sum.inl (xc X 0, 56, Sum.inl (fun _ => 0))), (q2, Sum.inl (xc X 0, 448, Sum.inl (fun _ => 0))), (q3, Sum.inl (xc X 0, 56, Sum.inl (fun _ => 0))), (q4, Sum.inl (xc X 0, 56, Sum.inl (fun _ => 0)))]) := h2
  replace hS := h3
  clear h1 h2 h3
  refine lv_aload_n hx hb dX9_init_37 rfl (lv_at hl 0 rfl) ?_
  refine lv_bipush (v := 60) hx hb dX9_init_38 (by decide) ?_
  refine va_newa (atype := .char) (ty := .char) hx hb (hE.w qw_264 rfl _) rfl hE.2.1 hP hD hS hA (N' := 60) (a0 := (60, .inl (fun _ => 0))) (fun _ => rfl) (by decide) (by decide) (Nat.le_of_ble_eq_true rfl) (Nat.le_of_ble_eq_true rfl) (Nat.le_of_ble_eq_true rfl) dX9_init_40 (fun q5 cA H109 hK1 h1 h2 h3 => ?_)
  obtain rfl : cA = xc X 1 := Option.some.inj ((hK1.2 8 (cA, .char) rfl).2.symm.trans (hE.2.1.2 1 (xc X 1, .char) rfl).2)
  clear hK1
  rw [List.append_assoc] at h1 h2
  replace hP : va_P (xD X) vwCl (ws ++ [(a, Sum.inr (10, [.int 0, .ref q1, .ref q2, .ref q3, .ref q4, .int 0, .int 0, .int 0, .null, .int 0, .null, .int 0, .int 0, .int 0, .int 0, .null, .int 0, .int 0])), (q1, Sum.inl (xc X 0, 56, Sum.inl (fun _ => 0))), (q2, Sum.inl (xc X 0, 448, Sum.inl (fun _ => 0))), (q3, Sum.inl (xc X 0, 56, Sum.inl (fun _ => 0))), (q4, Sum.inl (xc X 0, 56, Sum.inl (fun _ => 0))), (q5, Sum.inl (xc X 1, 60, Sum.inl (fun _ => 0)))]) H109 := h1
  replace hD : va_D (xA X) (ws ++ [(a, Sum.inr (10, [.int 0, .ref q1, .ref q2, .ref q3, .ref q4, .int 0, .int 0, .int 0, .null, .int 0, .null, .int 0, .int 0, .int 0, .int 0, .null, .int 0, .int 0])), (q1, Sum.inl (xc X 0, 56, Sum.inl (fun _ => 0))), (q2, Sum.inl (xc X 0, 448, Sum.inl (fun _ => 0))), (q3, Sum.inl (xc X 0, 56, Sum.inl (fun _ => 0))), (q4, Sum.inl (xc X 0, 56, Sum.inl (fun _ => 0))), (q5, Sum.inl (xc X 1, 60, Sum.inl (fun _ => 0)))]) := h2
  replace hS := h3
  clear h1 h2 h3
  refine va_putF (D := xD X) (ci := 10) (v := .ref q5) (ty := .array (.char)) (C := RX9) (T := TX9) (N := 18) hx hb (hE.ws us_X9 ug_X9 _) (fun _ h => h) tyX9 tyX9_ok nmX9 hown hE.2.1 hP hD hS (ws.length + 0) (ap_at ws _ 0) rfl 8 (by decide) (hE.w qw_1578 rfl _) (fun _ h9 => h9) rfl hin rfl (by decide +kernel) rfl rfl (Nat.le_of_ble_eq_true rfl) dX9_init_42 (fun H110 locs9 h1 h2 h3 => ?_)
  rw [ap_set] at h1 h2
  replace hP : va_P (xD X) vwCl (ws ++ [(a, Sum.inr (10, [.int 0, .ref q1, .ref q2, .ref q3, .ref q4, .int 0, .int 0, .int 0, .ref q5, .int 0, .null, .int 0, .int 0, .int 0, .int 0, .null, .int 0, .int 0])), (q1, Sum.inl (xc X 0, 56, Sum.inl (fun _ => 0))), (q2, Sum.inl (xc X 0, 448, Sum.inl (fun _ => 0))), (q3, Sum.inl (xc X 0, 56, Sum.inl (fun _ => 0))), (q4, Sum.inl (xc X 0, 56, Sum.inl (fun _ => 0))), (q5, Sum.inl (xc X 1, 60, Sum.inl (fun _ => 0)))]) H110 := h1
  replace hD : va_D (xA X) (ws ++ [(a, Sum.inr (10, [.int 0, .ref q1, .ref q2, .ref q3, .ref q4, .int 0, .int 0, .int 0, .ref q5, .int 0, .null, .int 0, .int 0, .int 0, .int 0, .null, .int 0, .int 0])), (q1, Sum.inl (xc X 0, 56, Sum.inl (fun _ => 0))), (q2, Sum.inl (xc X 0, 448, Sum.inl (fun _ => 0))), (q3, Sum.inl (xc X 0, 56, Sum.inl (fun _ => 0))), (q4, Sum.inl (xc X 0, 56, Sum.inl (fun _ => 0))), (q5, Sum.inl (xc X 1, 60, Sum.inl (fun _ => 0)))]) := h2
  replace hS := h3
  clear h1 h2 h3
  refine lv_aload_n hx hb dX9_init_45 rfl (lv_at hl 0 rfl) ?_
  refine lv_bipush (v := 60) hx hb dX9_init_46 (by decide) ?_
  refine va_newa (atype := .char) (ty := .char) hx hb (hE.w qw_264 rfl _) rfl hE.2.1 hP hD hS hA (N' := 60) (a0 := (60, .inl (fun _ => 0))) (fun _ => rfl) (by decide) (by decide) (Nat.le_of_ble_eq_true rfl) (Nat.le_of_ble_eq_true rfl) (Nat.le_of_ble_eq_true rfl) dX9_init_48 (fun q6 cA H111 hK1 h1 h2 h3 => ?_)
  obtain rfl : cA = xc X 1 := Option.some.inj ((hK1.2 8 (cA, .char) rfl).2.symm.trans (hE.2.1.2 1 (xc X 1, .char) rfl).2)
  clear hK1
  rw [List.append_assoc] at h1 h2
  replace hP : va_P (xD X) vwCl (ws ++ [(a, Sum.inr (10, [.int 0, .ref q1, .ref q2, .ref q3, .ref q4, .int 0, .int 0, .int 0, .ref q5, .int 0, .null, .int 0, .int 0, .int 0, .int 0, .null, .int 0, .int 0])), (q1, Sum.inl (xc X 0, 56, Sum.inl (fun _ => 0))), (q2, Sum.inl (xc X 0, 448, Sum.inl (fun _ => 0))), (q3, Sum.inl (xc X 0, 56, Sum.inl (fun _ => 0))), (q4, Sum.inl (xc X 0, 56, Sum.inl (fun _ => 0))), (q5, Sum.inl (xc X 1, 60, Sum.inl (fun _ => 0))), (q6, Sum.inl (xc X 1, 60, Sum.inl (fun _ => 0)))]) H111 := h1
  replace hD : va_D (xA X) (ws ++ [(a, Sum.inr (10, [.int 0, .ref q1, .ref q2, .ref q3, .ref q4, .int 0, .int 0, .int 0, .ref q5, .int 0, .null, .int 0, .int 0, .int 0, .int 0, .null, .int 0, .int 0])), (q1, Sum.inl (xc X 0, 56, Sum.inl (fun _ => 0))), (q2, Sum.inl (xc X 0, 448, Sum.inl (fun _ => 0))), (q3, Sum.inl (xc X 0, 56, Sum.inl (fun _ => 0))), (q4, Sum.inl (xc X 0, 56, Sum.inl (fun _ => 0))), (q5, Sum.inl (xc X 1, 60, Sum.inl (fun _ => 0))), (q6, Sum.inl (xc X 1, 60, Sum.inl (fun _ => 0)))]) := h2
  replace hS := h3
  clear h1 h2 h3
  refine va_putF (D := xD X) (ci := 10) (v := .ref q6) (ty := .array (.char)) (C := RX9) (T := TX9) (N := 18) hx hb (hE.ws us_X9 ug_X9 _) (fun _ h => h) tyX9 tyX9_ok nmX9 hown hE.2.1 hP hD hS (ws.length + 0) (ap_at ws _ 0) rfl 10 (by decide) (hE.w qw_1580 rfl _) (fun _ h9 => h9) rfl hin rfl (by decide +kernel) rfl rfl (Nat.le_of_ble_eq_true rfl) dX9_init_50 (fun H112 locs9 h1 h2 h3 => ?_)
  rw [ap_set] at h1 h2
  replace hP : va_P (xD X) vwCl (ws ++ [(a, Sum.inr (10, [.int 0, .ref q1, .ref q2, .ref q3, .ref q4, .int 0, .int 0, .int 0, .ref q5, .int 0, .ref q6, .int 0, .int 0, .int 0, .int 0, .null, .int 0, .int 0])), (q1, Sum.inl (xc X 0, 56, Sum.inl (fun _ => 0))), (q2, Sum.inl (xc X 0, 448, Sum.inl (fun _ => 0))), (q3, Sum.inl (xc X 0, 56, Sum.inl (fun _ => 0))), (q4, Sum.inl (xc X 0, 56, Sum.inl (fun _ => 0))), (q5, Sum.inl (xc X 1, 60, Sum.inl (fun _ => 0))), (q6, Sum.inl (xc X 1, 60, Sum.inl (fun _ => 0)))]) H112 := h1
  replace hD : va_D (xA X) (ws ++ [(a, Sum.inr (10, [.int 0, .ref q1, .ref q2, .ref q3, .ref q4, .int 0, .int 0, .int 0, .ref q5, .int 0, .ref q6, .int 0, .int 0, .int 0, .int 0, .null, .int 0, .int 0])), (q1, Sum.inl (xc X 0, 56, Sum.inl (fun _ => 0))), (q2, Sum.inl (xc X 0, 448, Sum.inl (fun _ => 0))), (q3, Sum.inl (xc X 0, 56, Sum.inl (fun _ => 0))), (q4, Sum.inl (xc X 0, 56, Sum.inl (fun _ => 0))), (q5, Sum.inl (xc X 1, 60, Sum.inl (fun _ => 0))), (q6, Sum.inl (xc X 1, 60, Sum.inl (fun _ => 0)))]) := h2
  replace hS := h3
  clear h1 h2 h3
  refine lv_aload_n hx hb dX9_init_53 rfl (lv_at hl 0 rfl) ?_
  refine lv_iconst (v := -1) hx hb dX9_init_54 (by decide) ?_
  refine va_put (D := xD X) (ci := 10) (v := .int (-1)) (ty := .int) (C := RX9) (T := TX9) (N := 18) hx hb (hE.ws us_X9 ug_X9 _) (fun _ h => h) tyX9 tyX9_ok nmX9 hown hE.2.1 hP hD hS (ws.length + 0) (ap_at ws _ 0) rfl 13 (by decide) (hE.w qw_1583 rfl _) (fun _ h9 => h9) rfl (by decide +kernel) rfl rfl (Nat.le_of_ble_eq_true rfl) dX9_init_55 (fun H113 locs9 h1 h2 h3 => ?_)
  rw [ap_set] at h1 h2
  replace hP : va_P (xD X) vwCl (ws ++ [(a, Sum.inr (10, [.int 0, .ref q1, .ref q2, .ref q3, .ref q4, .int 0, .int 0, .int 0, .ref q5, .int 0, .ref q6, .int 0, .int 0, .int (-1), .int 0, .null, .int 0, .int 0])), (q1, Sum.inl (xc X 0, 56, Sum.inl (fun _ => 0))), (q2, Sum.inl (xc X 0, 448, Sum.inl (fun _ => 0))), (q3, Sum.inl (xc X 0, 56, Sum.inl (fun _ => 0))), (q4, Sum.inl (xc X 0, 56, Sum.inl (fun _ => 0))), (q5, Sum.inl (xc X 1, 60, Sum.inl (fun _ => 0))), (q6, Sum.inl (xc X 1, 60, Sum.inl (fun _ => 0)))]) H113 := h1
  replace hD : va_D (xA X) (ws ++ [(a, Sum.inr (10, [.int 0, .ref q1, .ref q2, .ref q3, .ref q4, .int 0, .int 0, .int 0, .ref q5, .int 0, .ref q6, .int 0, .int 0, .int (-1), .int 0, .null, .int 0, .int 0])), (q1, Sum.inl (xc X 0, 56, Sum.inl (fun _ => 0))), (q2, Sum.inl (xc X 0, 448, Sum.inl (fun _ => 0))), (q3, Sum.inl (xc X 0, 56, Sum.inl (fun _ => 0))), (q4, Sum.inl (xc X 0, 56, Sum.inl (fun _ => 0))), (q5, Sum.inl (xc X 1, 60, Sum.inl (fun _ => 0))), (q6, Sum.inl (xc X 1, 60, Sum.inl (fun _ => 0)))]) := h2
  replace hS := h3
  clear h1 h2 h3
  refine lv_aload_n hx hb dX9_init_58 rfl (lv_at hl 0 rfl) ?_
  refine lv_iconst (v := -1) hx hb dX9_init_59 (by decide) ?_
  refine va_put (D := xD X) (ci := 10) (v := .int (-1)) (ty := .int) (C := RX9) (T := TX9) (N := 18) hx hb (hE.ws us_X9 ug_X9 _) (fun _ h => h) tyX9 tyX9_ok nmX9 hown hE.2.1 hP hD hS (ws.length + 0) (ap_at ws _ 0) rfl 14 (by decide) (hE.w qw_1584 rfl _) (fun _ h9 => h9) rfl (by decide +kernel) rfl rfl (Nat.le_of_ble_eq_true rfl) dX9_init_60 (fun H114 locs9 h1 h2 h3 => ?_)
  rw [ap_set] at h1 h2
  replace hP : va_P (xD X) vwCl (ws ++ [(a, Sum.inr (10, [.int 0, .ref q1, .ref q2, .ref q3, .ref q4, .int 0, .int 0, .int 0, .ref q5, .int 0, .ref q6, .int 0, .int 0, .int (-1), .int (-1), .null, .int 0, .int 0])), (q1, Sum.inl (xc X 0, 56, Sum.inl (fun _ => 0))), (q2, Sum.inl (xc X 0, 448, Sum.inl (fun _ => 0))), (q3, Sum.inl (xc X 0, 56, Sum.inl (fun _ => 0))), (q4, Sum.inl (xc X 0, 56, Sum.inl (fun _ => 0))), (q5, Sum.inl (xc X 1, 60, Sum.inl (fun _ => 0))), (q6, Sum.inl (xc X 1, 60, Sum.inl (fun _ => 0)))]) H114 := h1
  replace hD : va_D (xA X) (ws ++ [(a, Sum.inr (10, [.int 0, .ref q1, .ref q2, .ref q3, .ref q4, .int 0, .int 0, .int 0, .ref q5, .int 0, .ref q6, .int 0, .int 0, .int (-1), .int (-1), .null, .int 0, .int 0])), (q1, Sum.inl (xc X 0, 56, Sum.inl (fun _ => 0))), (q2, Sum.inl (xc X 0, 448, Sum.inl (fun _ => 0))), (q3, Sum.inl (xc X 0, 56, Sum.inl (fun _ => 0))), (q4, Sum.inl (xc X 0, 56, Sum.inl (fun _ => 0))), (q5, Sum.inl (xc X 1, 60, Sum.inl (fun _ => 0))), (q6, Sum.inl (xc X 1, 60, Sum.inl (fun _ => 0)))]) := h2
  replace hS := h3
  clear h1 h2 h3
  refine lv_aload_n hx hb dX9_init_63 rfl (lv_at hl 0 rfl) ?_
  refine lv_iconst (v := 4) hx hb dX9_init_64 (by decide) ?_
  refine va_newa (atype := .int) (ty := .int) hx hb (hE.w qw_159 rfl _) rfl hE.2.1 hP hD hS hA (N' := 4) (a0 := (4, .inl (fun _ => 0))) (fun _ => rfl) (by decide) (by decide) (Nat.le_of_ble_eq_true rfl) (Nat.le_of_ble_eq_true rfl) (Nat.le_of_ble_eq_true rfl) dX9_init_65 (fun q7 cA H115 hK1 h1 h2 h3 => ?_)
  obtain rfl : cA = xc X 0 := Option.some.inj ((hK1.2 8 (cA, .int) rfl).2.symm.trans (hE.2.1.2 0 (xc X 0, .int) rfl).2)
  clear hK1
  rw [List.append_assoc] at h1 h2
  replace hP : va_P (xD X) vwCl (ws ++ [(a, Sum.inr (10, [.int 0, .ref q1, .ref q2, .ref q3, .ref q4, .int 0, .int 0, .int 0, .ref q5, .int 0, .ref q6, .int 0, .int 0, .int (-1), .int (-1), .null, .int 0, .int 0])), (q1, Sum.inl (xc X 0, 56, Sum.inl (fun _ => 0))), (q2, Sum.inl (xc X 0, 448, Sum.inl (fun _ => 0))), (q3, Sum.inl (xc X 0, 56, Sum.inl (fun _ => 0))), (q4, Sum.inl (xc X 0, 56, Sum.inl (fun _ => 0))), (q5, Sum.inl (xc X 1, 60, Sum.inl (fun _ => 0))), (q6, Sum.inl (xc X 1, 60, Sum.inl (fun _ => 0))), (q7, Sum.inl (xc X 0, 4, Sum.inl (fun _ => 0)))]) H115 := h1
  replace hD : va_D (xA X) (ws ++ [(a, Sum.inr (10, [.int 0, .ref q1, .ref q2, .ref q3, .ref q4, .int 0, .int 0, .int 0, .ref q5, .int 0, .ref q6, .int 0, .int 0, .int (-1), .int (-1), .null, .int 0, .int 0])), (q1, Sum.inl (xc X 0, 56, Sum.inl (fun _ => 0))), (q2, Sum.inl (xc X 0, 448, Sum.inl (fun _ => 0))), (q3, Sum.inl (xc X 0, 56, Sum.inl (fun _ => 0))), (q4, Sum.inl (xc X 0, 56, Sum.inl (fun _ => 0))), (q5, Sum.inl (xc X 1, 60, Sum.inl (fun _ => 0))), (q6, Sum.inl (xc X 1, 60, Sum.inl (fun _ => 0))), (q7, Sum.inl (xc X 0, 4, Sum.inl (fun _ => 0)))]) := h2
  replace hS := h3
  clear h1 h2 h3
  refine va_putF (D := xD X) (ci := 10) (v := .ref q7) (ty := .array (.int)) (C := RX9) (T := TX9) (N := 18) hx hb (hE.ws us_X9 ug_X9 _) (fun _ h => h) tyX9 tyX9_ok nmX9 hown hE.2.1 hP hD hS (ws.length + 0) (ap_at ws _ 0) rfl 15 (by decide) (hE.w qw_1585 rfl _) (fun _ h9 => h9) rfl hin rfl (by decide +kernel) rfl rfl (Nat.le_of_ble_eq_true rfl) dX9_init_67 (fun H116 locs9 h1 h2 h3 => ?_)
  rw [ap_set] at h1 h2
  replace hP : va_P (xD X) vwCl (ws ++ [(a, Sum.inr (10, [.int 0, .ref q1, .ref q2, .ref q3, .ref q4, .int 0, .int 0, .int 0, .ref q5, .int 0, .ref q6, .int 0, .int 0, .int (-1), .int (-1), .ref q7, .int 0, .int 0])), (q1, Sum.inl (xc X 0, 56, Sum.inl (fun _ => 0))), (q2, Sum.inl (xc X 0, 448, Sum.inl (fun _ => 0))), (q3, Sum.inl (xc X 0, 56, Sum.inl (fun _ => 0))), (q4, Sum.inl (xc X 0, 56, Sum.inl (fun _ => 0))), (q5, Sum.inl (xc X 1, 60, Sum.inl (fun _ => 0))), (q6, Sum.inl (xc X 1, 60, Sum.inl (fun _ => 0))), (q7, Sum.inl (xc X 0, 4, Sum.inl (fun _ => 0)))]) H116 := h1
  replace hD : va_D (xA X) (ws ++ [(a, Sum.inr (10, [.int 0, .ref q1, .ref q2, .ref q3, .ref q4, .int 0, .int 0, .int 0, .ref q5, .int 0, .ref q6, .int 0, .int 0, .int (-1), .int (-1), .ref q7, .int 0, .int 0])), (q1, Sum.inl (xc X 0, 56, Sum.inl (fun _ => 0))), (q2, Sum.inl (xc X 0, 448, Sum.inl (fun _ => 0))), (q3, Sum.inl (xc X 0, 56, Sum.inl (fun _ => 0))), (q4, Sum.inl (xc X 0, 56, Sum.inl (fun _ => 0))), (q5, Sum.inl (xc X 1, 60, Sum.inl (fun _ => 0))), (q6, Sum.inl (xc X 1, 60, Sum.inl (fun _ => 0))), (q7, Sum.inl (xc X 0, 4, Sum.inl (fun _ => 0)))]) := h2
  replace hS := h3
  clear h1 h2 h3
  refine lv_aload_n hx hb dX9_init_70 rfl (lv_at hl 0 rfl) ?_
  refine va_get (D := xD X) (ci := 10) (v := .ref q1) (C := RX9) (T := TX9) (N := 18) hx hb (hE.ws us_X9 ug_X9 _) (fun _ h => h) hown hE.2.1 hP (ws.length + 0) (ap_at ws _ 0) rfl 1 (by decide) (hE.w qw_1571 rfl _) (fun _ h9 => h9) rfl dX9_init_71 ?_
  refine lv_iconst (v := 2) hx hb dX9_init_74 (by decide) ?_
  refine lv_iconst (v := 2) hx hb dX9_init_75 (by decide) ?_
  refine va_iast hx hb hE.2.1 hP hD hS (ws.length + 1) 0 (ap_at ws _ 1) rfl (vin_c (by decide)) dX9_init_76 (fun H117 locs9 h1 h2 h3 => ?_)
  rw [ap_set] at h1 h2
  replace hP : va_P (xD X) vwCl (ws ++ [(a, Sum.inr (10, [.int 0, .ref q1, .ref q2, .ref q3, .ref q4, .int 0, .int 0, .int 0, .ref q5, .int 0, .ref q6, .int 0, .int 0, .int (-1), .int (-1), .ref q7, .int 0, .int 0])), (q1, Sum.inl (xc X 0, 56, Sum.inl (upd (fun _ => 0) (2 : Int32).toNatClampNeg 2))), (q2, Sum.inl (xc X 0, 448, Sum.inl (fun _ => 0))), (q3, Sum.inl (xc X 0, 56, Sum.inl (fun _ => 0))), (q4, Sum.inl (xc X 0, 56, Sum.inl (fun _ => 0))), (q5, Sum.inl (xc X 1, 60, Sum.inl (fun _ => 0))), (q6, Sum.inl (xc X 1, 60, Sum.inl (fun _ => 0))), (q7, Sum.inl (xc X 0, 4, Sum.inl (fun _ => 0)))]) H117 := h1
  replace hD : va_D (xA X) (ws ++ [(a, Sum.inr (10, [.int 0, .ref q1, .ref q2, .ref q3, .ref q4, .int 0, .int 0, .int 0, .ref q5, .int 0, .ref q6, .int 0, .int 0, .int (-1), .int (-1), .ref q7, .int 0, .int 0])), (q1, Sum.inl (xc X 0, 56, Sum.inl (upd (fun _ => 0) (2 : Int32).toNatClampNeg 2))), (q2, Sum.inl (xc X 0, 448, Sum.inl (fun _ => 0))), (q3, Sum.inl (xc X 0, 56, Sum.inl (fun _ => 0))), (q4, Sum.inl (xc X 0, 56, Sum.inl (fun _ => 0))), (q5, Sum.inl (xc X 1, 60, Sum.inl (fun _ => 0))), (q6, Sum.inl (xc X 1, 60, Sum.inl (fun _ => 0))), (q7, Sum.inl (xc X 0, 4, Sum.inl (fun _ => 0)))]) := h2
  replace hS := h3
  clear h1 h2 h3
  refine lv_aload_n hx hb dX9_init_77 rfl (lv_at hl 0 rfl) ?_
  refine va_get (D := xD X) (ci := 10) (v := .ref q1) (C := RX9) (T := TX9) (N := 18) hx hb (hE.ws us_X9 ug_X9 _) (fun _ h => h) hown hE.2.1 hP (ws.length + 0) (ap_at ws _ 0) rfl 1 (by decide) (hE.w qw_1571 rfl _) (fun _ h9 => h9) rfl dX9_init_78 ?_
  refine lv_iconst (v := 3) hx hb dX9_init_81 (by decide) ?_
  refine lv_bipush (v := 6) hx hb dX9_init_82 (by decide) ?_
  refine va_iast hx hb hE.2.1 hP hD hS (ws.length + 1) 0 (ap_at ws _ 1) rfl (vin_c (by decide)) dX9_init_84 (fun H118 locs9 h1 h2 h3 => ?_)
  rw [ap_set] at h1 h2
  replace hP : va_P (xD X) vwCl (ws ++ [(a, Sum.inr (10, [.int 0, .ref q1, .ref q2, .ref q3, .ref q4, .int 0, .int 0, .int 0, .ref q5, .int 0, .ref q6, .int 0, .int 0, .int (-1), .int (-1), .ref q7, .int 0, .int 0])), (q1, Sum.inl (xc X 0, 56, Sum.inl (upd (upd (fun _ => 0) (2 : Int32).toNatClampNeg 2) (3 : Int32).toNatClampNeg 6))), (q2, Sum.inl (xc X 0, 448, Sum.inl (fun _ => 0))), (q3, Sum.inl (xc X 0, 56, Sum.inl (fun _ => 0))), (q4, Sum.inl (xc X 0, 56, Sum.inl (fun _ => 0))), (q5, Sum.inl (xc X 1, 60, Sum.inl (fun _ => 0))), (q6, Sum.inl (xc X 1, 60, Sum.inl (fun _ => 0))), (q7, Sum.inl (xc X 0, 4, Sum.inl (fun _ => 0)))]) H118 := h1
  replace hD : va_D (xA X) (ws ++ [(a, Sum.inr (10, [.int 0, .ref q1, .ref q2, .ref q3, .ref q4, .int 0, .int 0, .int 0, .ref q5, .int 0, .ref q6, .int 0, .int 0, .int (-1), .int (-1), .ref q7, .int 0, .int 0])), (q1, Sum.inl (xc X 0, 56, Sum.inl (upd (upd (fun _ => 0) (2 : Int32).toNatClampNeg 2) (3 : Int32).toNatClampNeg 6))), (q2, Sum.inl (xc X 0, 448, Sum.inl (fun _ => 0))), (q3, Sum.inl (xc X 0, 56, Sum.inl (fun _ => 0))), (q4, Sum.inl (xc X 0, 56, Sum.inl (fun _ => 0))), (q5, Sum.inl (xc X 1, 60, Sum.inl (fun _ => 0))), (q6, Sum.inl (xc X 1, 60, Sum.inl (fun _ => 0))), (q7, Sum.inl (xc X 0, 4, Sum.inl (fun _ => 0)))]) := h2
  replace hS := h3
  clear h1 h2 h3
  refine lv_aload_n hx hb dX9_init_85 rfl (lv_at hl 0 rfl) ?_
  refine va_get (D := xD X) (ci := 10) (v := .ref q1) (C := RX9) (T := TX9) (N := 18) hx hb (hE.ws us_X9 ug_X9 _) (fun _ h => h) hown hE.2.1 hP (ws.length + 0) (ap_at ws _ 0) rfl 1 (by decide) (hE.w qw_1571 rfl _) (fun _ h9 => h9) rfl dX9_init_86 ?_
  refine lv_iconst (v := 4) hx hb dX9_init_89 (by decide) ?_
  refine lv_bipush (v := 20) hx hb dX9_init_90 (by decide) ?_
  refine va_iast hx hb hE.2.1 hP hD hS (ws.length + 1) 0 (ap_at ws _ 1) rfl (vin_c (by decide)) dX9_init_92 (fun H119 locs9 h1 h2 h3 => ?_)
  rw [ap_set] at h1 h2
  replace hP : va_P (xD X) vwCl (ws ++ [(a, Sum.inr (10, [.int 0, .ref q1, .ref q2, .ref q3, .ref q4, .int 0, .int 0, .int 0, .ref q5, .int 0, .ref q6, .int 0, .int 0, .int (-1), .int (-1), .ref q7, .int 0, .int 0])), (q1, Sum.inl (xc X 0, 56, Sum.inl (upd (upd (upd (fun _ => 0) (2 : Int32).toNatClampNeg 2) (3 : Int32).toNatClampNeg 6) (4 : Int32).toNatClampNeg 20))), (q2, Sum.inl (xc X 0, 448, Sum.inl (fun _ => 0))), (q3, Sum.inl (xc X 0, 56, Sum.inl (fun _ => 0))), (q4, Sum.inl (xc X 0, 56, Sum.inl (fun _ => 0))), (q5, Sum.inl (xc X 1, 60, Sum.inl (fun _ => 0))), (q6, Sum.inl (xc X 1, 60, Sum.inl (fun _ => 0))), (q7, Sum.inl (xc X 0, 4, Sum.inl (fun _ => 0)))]) H119 := h1
  replace hD : va_D (xA X) (ws ++ [(a, Sum.inr (10, [.int 0, .ref q1, .ref q2, .ref q3, .ref q4, .int 0, .int 0, .int 0, .ref q5, .int 0, .ref q6, .int 0, .int 0, .int (-1), .int (-1), .ref q7, .int 0, .int 0])), (q1, Sum.inl (xc X 0, 56, Sum.inl (upd (upd (upd (fun _ => 0) (2 : Int32).toNatClampNeg 2) (3 : Int32).toNatClampNeg 6) (4 : Int32).toNatClampNeg 20))), (q2, Sum.inl (xc X 0, 448, Sum.inl (fun _ => 0))), (q3, Sum.inl (xc X 0, 56, Sum.inl (fun _ => 0))), (q4, Sum.inl (xc X 0, 56, Sum.inl (fun _ => 0))), (q5, Sum.inl (xc X 1, 60, Sum.inl (fun _ => 0))), (q6, Sum.inl (xc X 1, 60, Sum.inl (fun _ => 0))), (q7, Sum.inl (xc X 0, 4, Sum.inl (fun _ => 0)))]) := h2
  replace hS := h3
  clear h1 h2 h3
  refine W.widen (k := 7) (n := 740) (Nat.le_of_ble_eq_true rfl) (Nat.le_of_ble_eq_true rfl) ?_
  exact iend hx hb hr hlk (⟨q1, q2, q3, q4, q5, q6, q7, rfl⟩) hP hD hS dX9_init_93
