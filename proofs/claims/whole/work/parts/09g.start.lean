theorem qv_109 : lw_tbl[109]? = some (Cond.classLink "FlyTreasuryLaw" 8 "FlyTreasury") := by decide +kernel
theorem qv_110 : lw_tbl[110]? = some (Cond.instantiable "FlyTreasury" 9) := by decide +kernel
theorem qv_111 : lw_tbl[111]? = some (Cond.methodLink "FlyTreasuryLaw" 153 yX8_init) := by decide +kernel
theorem qv_112 : lw_tbl[112]? = some (Cond.instanceMethod yX8_init) := by decide +kernel
theorem qv_113 : lw_tbl[113]? = some (Cond.code yX8_init cX8_init 1 none) := by decide +kernel
theorem qv_1564 : lw_tbl[1564]? = some (Cond.classLink "FlyTreasuryLaw" 154 "FlyTreasuryModel") := by decide +kernel
theorem qv_1565 : lw_tbl[1565]? = some (Cond.instantiable "FlyTreasuryModel" 18) := by decide +kernel
theorem qv_1566 : lw_tbl[1566]? = some (Cond.methodLink "FlyTreasuryLaw" 156 yX9_init) := by decide +kernel
theorem qv_1567 : lw_tbl[1567]? = some (Cond.instanceMethod yX9_init) := by decide +kernel
theorem qv_1568 : lw_tbl[1568]? = some (Cond.code yX9_init cX9_init 1 none) := by decide +kernel
theorem qv_2067 : lw_tbl[2067]? = some (Cond.arrayClass .long) := by decide +kernel
theorem qv_2068 : lw_tbl[2068]? = some (Cond.arrayClass .double) := by decide +kernel
set_option maxHeartbeats 4000000 in
set_option maxRecDepth 100000 in
theorem whole_start {p : Program} {e : Env} {s : State} {m : MethodId} {below : List Frame} {meth : Method} {c : Code} (l : Launch) (hflags : l.flags = flags0) {b L : Nat} {xs : Nat → Int32} (hL : L ≤ 2560) (C0 : lw_At p s m meth c b L xs) : W p l e room_1 s m #[Value.ref b] below meth c s.heap [] 0 0 (lw_Z below #[Value.ref b] s) (entryFrame m ([Value.ref b] : List Value).toArray 9) := by
  have hfl : l.stackTraces = false := by
    unfold Launch.stackTraces
    rw [hflags]
    decide +kernel
  obtain ⟨hx, hb, hr, hml, hown, hts, hX, hbl, hlocks, hgv⟩ := id C0
  have hn : narrow_1.before #[Value.ref b] s = true := by
    have h := hgv
    rw [Cond.before_and, Bool.and_eq_true] at h
    exact h.2
  obtain ⟨D, Cf, kf, hE, hAO⟩ := ev_start hn hts
  have hz : (D, Cf, kf, (fun _ => 0 : Nat → Nat), s.heap.size).2.2.2.2 ≤ s.heap.size := Nat.le_refl _
  have hA : ∀ q : Nat, s.heap.size ≤ q → xA (D, Cf, kf, (fun _ => 0 : Nat → Nat), s.heap.size) q := fun q h => h
  have hS : va_S (xA (D, Cf, kf, (fun _ => 0 : Nat → Nat), s.heap.size)) s.heap s.heap [] := va_S.rf
  have hP : va_P (xD (D, Cf, kf, (fun _ => 0 : Nat → Nat), s.heap.size)) vwCl [] s.heap := fun k q h => by simp at h
  have hD : va_D (xA (D, Cf, kf, (fun _ => 0 : Nat → Nat), s.heap.size)) [] := ⟨fun i j p q h => by simp at h, fun k q h => by simp at h⟩
  have hl := lv_entry ([.ref b]) (n := 9) (Nat.le_of_ble_eq_true rfl)
  rw [lg_entry_eq]
  generalize (lg_sl ([.ref b]) ++ List.replicate (9 - (lg_sl ([.ref b])).length) Slot.unset).toArray = ls at hl ⊢
  have hl : lv_has ls 9 [(0, .ref b)] := hl
  have hown : s.vm.findClass "FlyTreasuryLaw" = some m.cls := hown
  refine va_new (ci := 9) (fs := [.null, .null, .null, .null, .null, .null, .int 0, .int 0, .int 0]) (C := RX8) (T := TX8) (N := 9) hx hb (hE.ws us_X8 ug_X8 _) (fun _ h => h) tyX8 tyX8_ok hown (hE.w qv_109 rfl _) (hE.w qv_110 rfl _) (hE.w qw_74 rfl _) hE.2.1 hP hD hS hA rfl df_X8 (Nat.le_of_ble_eq_true rfl) (Nat.le_of_ble_eq_true rfl) dL_law_0 (fun a H1 h1 h2 h3 => ?_)
  clear hP hD hS
  refine lv_dup hx hb dL_law_3 rfl ?_
  refine call_I (run_I (cc := cL_law) (As := []) (rest := [.ref a]) hx hb hml hown hE hAO hz (inX8_init (D, Cf, kf, (fun _ => 0), s.heap.size) l hfl [] a) qv_111 qv_112 qw_74 qv_113 (myX8_init).2 ⟨Nat.le_of_ble_eq_true rfl, Nat.le_of_ble_eq_true rfl⟩ rfl h1 h2 h3 rfl hl.1 rfl (Nat.le_of_ble_eq_true rfl) dL_law_4 ⟨Nat.le_of_ble_eq_true rfl, Nat.le_of_ble_eq_true rfl⟩) h3 (fun W1 H2 locs2 hw g1 g2 g3 => ?_)
  clear h1 h2 h3
  obtain ⟨f0, f1, f2, F, fs, fq, n3, qh, n5, qb, hfq, hw⟩ := hw
  refine lv_astore_n (lv' := [(1, .ref a), (0, .ref b)]) hx hb dL_law_7 rfl hl (by decide) rfl (fun ls hl => ?_)
  refine va_new (ci := 10) (fs := [.int 0, .null, .null, .null, .null, .int 0, .int 0, .int 0, .null, .int 0, .null, .int 0, .int 0, .int 0, .int 0, .null, .int 0, .int 0]) (C := RX9) (T := TX9) (N := 18) hx hb (hE.ws us_X9 ug_X9 _) (fun _ h => h) tyX9 tyX9_ok hown (hE.w qv_1564 rfl _) (hE.w qv_1565 rfl _) (hE.w qw_86 rfl _) hE.2.1 g1 g2 g3 hA rfl df_X9 (Nat.le_of_ble_eq_true rfl) (Nat.le_of_ble_eq_true rfl) dL_law_8 (fun a9 H3 h1 h2 h3 => ?_)
  clear g1 g2 g3
  refine lv_dup hx hb dL_law_11 rfl ?_
  refine call_I (run_I (cc := cL_law) (As := []) (rest := [.ref a9]) hx hb hml hown hE hAO hz (inX9_init (D, Cf, kf, (fun _ => 0), s.heap.size) l hfl W1 a9) qv_1566 qv_1567 qw_86 qv_1568 (myX9_init).2 ⟨Nat.le_of_ble_eq_true rfl, Nat.le_of_ble_eq_true rfl⟩ rfl h1 h2 h3 rfl hl.1 rfl (Nat.le_of_ble_eq_true rfl) dL_law_12 ⟨Nat.le_of_ble_eq_true rfl, Nat.le_of_ble_eq_true rfl⟩) h3 (fun W2 H4 locs4 hw2 g1 g2 g3 => ?_)
  clear h1 h2 h3
  obtain ⟨q1, q2, q3, q4, q5, q6, q7, hw2⟩ := hw2
  refine lv_astore_n (lv' := [(2, .ref a9), (1, .ref a), (0, .ref b)]) hx hb dL_law_15 rfl hl (by decide) rfl (fun ls hl => ?_)
  refine lv_iconst (v := 1) hx hb dL_law_16 (by decide) ?_
  refine va_newa (atype := .long) (ty := .long) hx hb (hE.w qv_2067 rfl _) rfl hE.2.1 g1 g2 g3 hA (N' := 1) (a0 := (1, .inr (.inl (fun _ => 0)))) (fun _ => rfl) (by decide) (by decide) (Nat.le_of_ble_eq_true rfl) (Nat.le_of_ble_eq_true rfl) (Nat.le_of_ble_eq_true rfl) dL_law_17 (fun ql cA H5 hK1 h1 h2 h3 => ?_)
  obtain rfl : cA = Cf 6 := Option.some.inj ((hK1.2 8 (cA, .long) rfl).2.symm.trans (hE.2.1.2 6 (Cf 6, .long) rfl).2)
  clear hK1 g1 g2 g3
  refine lv_astore_n (lv' := [(3, .ref ql), (2, .ref a9), (1, .ref a), (0, .ref b)]) hx hb dL_law_19 rfl hl (by decide) rfl (fun ls hl => ?_)
  refine lv_iconst (v := 1) hx hb dL_law_20 (by decide) ?_
  refine va_newa (atype := .double) (ty := .double) hx hb (hE.w qv_2068 rfl _) rfl hE.2.1 h1 h2 h3 hA (N' := 1) (a0 := (1, .inr (.inr (.inr (.inl (fun _ => 0)))))) (fun _ => rfl) (by decide) (by decide) (Nat.le_of_ble_eq_true rfl) (Nat.le_of_ble_eq_true rfl) (Nat.le_of_ble_eq_true rfl) dL_law_21 (fun qd cA H6 hK1 g1 g2 g3 => ?_)
  obtain rfl : cA = Cf 7 := Option.some.inj ((hK1.2 8 (cA, .double) rfl).2.symm.trans (hE.2.1.2 7 (Cf 7, .double) rfl).2)
  clear hK1 h1 h2 h3
  refine lv_astore (lv' := [(4, .ref qd), (3, .ref ql), (2, .ref a9), (1, .ref a), (0, .ref b)]) hx hb dL_law_23 hl (by decide) rfl (fun ls hl => ?_)
  refine lv_iconst (v := 0) hx hb dL_law_25 (by decide) ?_
  refine lv_istore (lv' := [(5, .int 0), (4, .ref qd), (3, .ref ql), (2, .ref a9), (1, .ref a), (0, .ref b)]) hx hb dL_law_26 hl (by decide) rfl (fun ls hl => ?_)
  subst hw2
  subst hw
  obtain ⟨g, hP, hD, e1, e2, e3, e4⟩ := mpool (D := D) (C := Cf) (kf := kf) (z := s.heap.size) (g0 := fun _ => 0) (a := a) (a9 := a9) (q1 := q1) (q2 := q2) (q3 := q3) (q4 := q4) (q5 := q5) (q6 := q6) (q7 := q7) (ql := ql) (qd := qd) (n3 := n3) (qh := qh) (n5 := n5) (qb := qb) (f0 := f0) (f1 := f1) (f2 := f2) (F := F) (fs := fs) (fq := fq) (H := H6) (A := xA (D, Cf, kf, (fun _ => 0 : Nat → Nat), s.heap.size)) hfq g1 g2
  refine W.widen (k := 199 + 40 * 0) (n := 1731 + 3000 * 0) (Nat.le_of_ble_eq_true rfl) (Nat.le_of_ble_eq_true rfl) ?_
  refine law_loop l hfl hL C0 (X := (D, Cf, kf, g, s.heap.size)) hE rfl 512 0 (G00 qb) H6 _ ls rfl (inv00 qb) hP hD g3 ?_
  show lv_has ls 9 [(0, .ref b), (1, .ref (g 165)), (2, .ref (g 189)), (3, .ref (g 197)), (4, .ref (g 198)), (5, .int 0)]
  rw [e1, e2, e3, e4]
  exact lv_sub hl [5, 4, 3, 2, 1, 0] rfl
