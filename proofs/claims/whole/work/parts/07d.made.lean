/-- a new order -/
def ocell (X : Cx) : va_E := Sum.inr (6, [.ref (xk X 1 9), .int 0, .int 103, .int 109, .int 0])
def OR (X : Cx) (f : Nat → Nat) (j : Nat) : va_W := (List.range j).map fun k => (f k, ocell X)
theorem OR_succ (X : Cx) (f : Nat → Nat) (j q : Nat) : OR X f j ++ [(q, ocell X)] = OR X (fun k => if k < j then f k else q) (j + 1) := by
  unfold OR
  rw [List.range_succ, List.map_append]
  congr 1
  · apply List.map_congr_left
    intro k hk
    show (f k, ocell X) = (if k < j then f k else q, ocell X)
    rw [if_pos (List.mem_range.mp hk)]
  · simp
theorem OR_len (X : Cx) (f : Nat → Nat) (j : Nat) : (OR X f j).length = j := by simp [OR]
/-- a row of new ledgers -/
def LRw (X : Cx) (F : Nat → Nat → Nat) (j : Nat) : va_W := (List.range j).flatMap fun i => LB X (F i)
theorem LB_len (X : Cx) (f : Nat → Nat) : (LB X f).length = 15 := by simp [LB]
theorem LRw_zero (X : Cx) (F : Nat → Nat → Nat) : LRw X F 0 = [] := rfl
theorem LRw_add (X : Cx) (F : Nat → Nat → Nat) (j : Nat) : LRw X F (j + 1) = LRw X F j ++ LB X (F j) := by
  unfold LRw
  rw [List.range_succ, List.flatMap_append]
  simp
theorem LRw_len (X : Cx) (F : Nat → Nat → Nat) (j : Nat) : (LRw X F j).length = 15 * j := by
  induction j with
  | zero => rfl
  | succ j ih => rw [LRw_add, List.length_append, ih, LB_len]; omega
theorem LRw_cong (X : Cx) {F F' : Nat → Nat → Nat} {j : Nat} (h : ∀ i, i < j → F i = F' i) : LRw X F j = LRw X F' j := by
  induction j with
  | zero => rfl
  | succ j ih => rw [LRw_add, LRw_add, ih (fun i hi => h i (by omega)), h j (by omega)]
theorem LRw_succ (X : Cx) (F : Nat → Nat → Nat) (j : Nat) (f : Nat → Nat) : LRw X F j ++ LB X f = LRw X (fun i => if i < j then F i else f) (j + 1) := by
  rw [LRw_add, if_neg (Nat.lt_irrefl j), LRw_cong X (F := fun i => if i < j then F i else f) (F' := F) (fun i hi => if_pos hi)]
theorem LB_get (X : Cx) (f : Nat → Nat) {k : Nat} (h : k < 15) : (LB X f)[k]? = some (f k, lcell X f k) := by simp [LB, List.getElem?_map, List.getElem?_range h]
theorem LRw_get (X : Cx) (F : Nat → Nat → Nat) {n : Nat} : ∀ {k : Nat}, k < 15 * n → (LRw X F n)[k]? = some (F (k / 15) (k % 15), lcell X (F (k / 15)) (k % 15)) := by
  induction n with
  | zero => intro k h; omega
  | succ n ih =>
    intro k h
    rw [LRw_add]
    by_cases hk : k < 15 * n
    · rw [List.getElem?_append_left (by rw [LRw_len]; exact hk), ih hk]
    · rw [List.getElem?_append_right (by rw [LRw_len]; omega), LRw_len, LB_get X _ (by omega), show k / 15 = n by omega, show k % 15 = k - 15 * n by omega]
set_option maxHeartbeats 4000000 in
set_option maxRecDepth 100000 in
theorem X6_loop (X : Cx) (l : Launch) (hfl : l.stackTraces = false) {p : Program} {e : Env} {s : State} {m : MethodId} {below : List Frame} {meth : Method} {c : Code} (ws : va_W) (a q1 q2 : Nat) (hx : p.tables.exec = Jvm.exec) (hb : c.code = cX6_init) (hr : meth.sig.returnType = none) (hml : c.maxLocals = 2) (hlk : meth.locks = false) (hown : s.vm.findClass "FlyTreasury$Script" = some m.cls) (hE : Ev X s s.heap) (hAO : AOs s) (hz : xs X ≤ s.heap.size) :
    ∀ (n j : Nat), j + n = 16 → ∀ (f : Nat → Nat) (fq : Nat → Option Nat) (H : Heap) (locs : List Loc) (ls : Array Slot), (∀ k, k < j → fq k = some (f k)) → va_P (xD X) vwCl (ws ++ ([(a, Sum.inr (7, [.ref q1, .ref q2, .int 0, .int 0, .int 0])), (q1, Sum.inl (xc X 1, 60, Sum.inl (fun _ => 0))), (q2, Sum.inl (xc X 5, 16, Sum.inr (Sum.inr (Sum.inr (Sum.inr fq)))))] ++ OR X f j)) H → va_D (xA X) (ws ++ ([(a, Sum.inr (7, [.ref q1, .ref q2, .int 0, .int 0, .int 0])), (q1, Sum.inl (xc X 1, 60, Sum.inl (fun _ => 0))), (q2, Sum.inl (xc X 5, 16, Sum.inr (Sum.inr (Sum.inr (Sum.inr fq)))))] ++ OR X f j)) → va_S (xA X) s.heap H locs → lv_has ls 2 [(1, .int (nI j)), (0, .ref a)] →
      W p l e (rmL 2 18 156) s m [.ref a].toArray below meth c H locs (2 + j) (76 + 5 * j) (MQ below (va_Qv (S := va_W) (fun W => ∃ f : Nat → Nat, f 0 = a ∧ W = ws ++ SK X f) (fun W t => va_P (xD X) vwCl W t.heap ∧ va_D (xA X) W) (xA X)) [.ref a].toArray s 18 156 (xA X)) (F0 m 38 ls []) := by
  have hA : ∀ q : Nat, s.heap.size ≤ q → xA X q := fun q h => Nat.le_trans hz h
  intro n
  induction n with
  | zero =>
    intro j hj f fq H locs ls hfq hP hD hS hl
    obtain rfl : j = 16 := by omega
    refine lv_iload_n hx hb dX6_init_38 rfl (lv_at hl 0 rfl) ?_
    refine lv_bipush (v := 16) hx hb dX6_init_39 (by decide) ?_
    refine lv_icmp_ge (tgt := 63) hx hb dX6_init_41 (by decide) (fun c9 => ?_) (fun c9 => absurd c9 (by decide))
    have h9 : va_P (xD X) vwCl (ws ++ SK X (fun k => if k = 0 then a else if k = 1 then q1 else if k = 2 then q2 else f (k - 3))) H ∧ va_D (xA X) (ws ++ SK X (fun k => if k = 0 then a else if k = 1 then q1 else if k = 2 then q2 else f (k - 3))) := by
      refine blk_conv _ id (fun k q hk => ?_) (fun i j _ _ h => h) hP hD
      have hk9 : k < 19 := by
        have := (List.getElem?_eq_some_iff.mp hk).1
        simpa [SK] using this
      have hs : (SK X (fun k => if k = 0 then a else if k = 1 then q1 else if k = 2 then q2 else f (k - 3)))[k]? = some ((if k = 0 then a else if k = 1 then q1 else if k = 2 then q2 else f (k - 3)), scell X (fun k => if k = 0 then a else if k = 1 then q1 else if k = 2 then q2 else f (k - 3)) k) := by
        simp [SK, List.getElem?_map, List.getElem?_range hk9]
      rw [hs] at hk
      cases hk
      by_cases h3 : k < 3
      · rcases (show k = 0 ∨ k = 1 ∨ k = 2 by omega) with rfl | rfl | rfl
        · exact ⟨_, rfl, rfl, id⟩
        · exact ⟨_, rfl, rfl, id⟩
        · refine ⟨_, rfl, rfl, fun h => at_refs (fun j hj => ?_) h⟩
          show fq j = some (if 3 + j = 0 then a else if 3 + j = 1 then q1 else if 3 + j = 2 then q2 else f (3 + j - 3))
          rw [hfq j hj, if_neg (by omega), if_neg (by omega), if_neg (by omega), show 3 + j - 3 = j by omega]
      · refine ⟨(f (k - 3), ocell X), ?_, ?_, fun h => ?_⟩
        · show ([_, _, _] ++ OR X f 16)[k]? = _
          rw [List.getElem?_append_right (by simp; omega)]
          simp [OR, List.getElem?_map, List.getElem?_range (show k - 3 < 16 by omega)]
        · rw [if_neg (by omega), if_neg (by omega), if_neg (by omega)]
        · rw [if_neg (by omega), if_neg (by omega), if_neg (by omega)]
          have e : scell X (fun k => if k = 0 then a else if k = 1 then q1 else if k = 2 then q2 else f (k - 3)) k = ocell X := by
            unfold scell ocell
            rw [if_neg (by omega), if_neg (by omega), if_neg (by omega)]
          rw [e]; exact h
    exact iend hx hb hr hlk ⟨_, rfl, rfl⟩ h9.1 h9.2 hS dX6_init_63
  | succ n ih =>
    intro j hj f fq H locs ls hfq hP hD hS hl
    refine lv_iload_n hx hb dX6_init_38 rfl (lv_at hl 0 rfl) ?_
    refine lv_bipush (v := 16) hx hb dX6_init_39 (by decide) ?_
    refine lv_icmp_ge (tgt := 63) hx hb dX6_init_41 (by decide) (fun c9 => absurd ((nI_leI (a := 16) (b := j) (by decide) (by omega)).mp c9) (by omega)) (fun c9 => ?_)
    refine lv_aload_n hx hb dX6_init_44 rfl (lv_at hl 1 rfl) ?_
    refine va_get (D := xD X) (ci := 7) (v := .ref q2) (C := RX6) (T := TX6) (N := 5) hx hb (hE.ws us_X6 ug_X6 _) (fun _ h => h) hown hE.2.1 hP (ws.length + 0) (ap_at ws _ 0) rfl 1 (by decide) (hE.w qw_266 rfl _) (fun _ h9 => h9) rfl dX6_init_45 ?_
    refine lv_iload_n hx hb dX6_init_48 rfl (lv_at hl 0 rfl) ?_
    refine va_new (ci := 6) (fs := [.null, .int 0, .int 0, .int 0, .int 0]) (C := RX4) (T := TX4) (N := 5) hx hb (hE.ws us_X4 ug_X4 _) (fun _ h => h) tyX4 tyX4_ok hown (hE.w qw_229 rfl _) (hE.w qw_231 rfl _) (hE.w qw_79 rfl _) hE.2.1 hP hD hS hA rfl df_X4 (by show _ ≤ 18; omega) (by show _ ≤ 156; omega) dX6_init_49 (fun q H1 hP1 hD1 hS1 => ?_)
    refine lv_dup hx hb dX6_init_52 rfl ?_
    refine call_I (run_IN (cc := cX6_init) (As := []) (rest := [.ref q, .int (nI j), .ref q2]) hx hb hml hown hE hAO hz (inX4_init X l hfl _ q) qw_232 qw_233 qw_79 qw_234 (myX4_init).2 ⟨Nat.le_of_ble_eq_true rfl, Nat.le_of_ble_eq_true rfl⟩ rfl hP1 hD1 hS1 rfl hl.1 rfl (Nat.le_of_ble_eq_true rfl) dX6_init_53 ⟨(by show _ ≤ 18; omega), (by show _ ≤ 156; omega)⟩) hS1 (fun W H2 locs2 hw hP2 hD2 hS2 => ?_)
    obtain rfl := hw
    rw [List.append_assoc, List.append_assoc] at hP2 hD2
    have eo : OR X f j ++ [(q, Sum.inr (6, [.ref (xk X 1 9), .int 0, .int 103, .int 109, .int 0]))] = OR X (fun k => if k < j then f k else q) (j + 1) := OR_succ X f j q
    rw [eo] at hP2 hD2
    refine va_astq hx hb hE.2.1 hP2 hD2 hS2 (ws.length + 2) 5 (ws.length + (3 + j)) 6 (ap_at ws _ 2) rfl (vs := [.ref (xk X 1 9), .int 0, .int 103, .int 109, .int 0]) (v := q) ?_ rfl (i := nI j) (n := 16) ?_ dX6_init_56 (fun H3 locs3 h1 h2 h3 => ?_)
    · rw [ap_at, List.getElem?_append_right (by simp), show 3 + j - [_, _, _].length = j from Nat.add_sub_cancel_left 3 j]
      simp [OR, List.getElem?_map, List.getElem?_range (show j < j + 1 by omega)]
      rfl
    · exact vp_in_nI (by omega) (by omega)
    rw [ap_set, nI_clamp (by omega)] at h1 h2
    obtain ⟨z, ez⟩ : ∃ y : Int32, y = nI j + 1 := ⟨_, rfl⟩
    rw [nI_1] at ez
    subst ez
    refine lv_iinc (v := nI (j + 1)) (lv' := [(1, .int (nI (j + 1))), (0, .ref a)]) hx hb dX6_init_57 hl (k := 0) rfl (by rw [← nI_1]; rfl) (by decide) rfl (fun ls hl => ?_)
    refine lv_goto (tgt := 38) hx hb dX6_init_60 (by decide) ?_
    refine W.widen (k := 2 + (j + 1)) (n := 76 + 5 * (j + 1)) (by omega) (by omega) ?_
    refine ih (j + 1) (by omega) (fun k => if k < j then f k else q) (va_up fq j (some q)) H3 locs3 ls (fun k hk => ?_) h1 h2 h3 hl
    unfold va_up
    by_cases hkj : k = j
    · subst hkj; simp
    · rw [if_neg hkj, if_pos (by omega), hfq k (by omega)]
set_option maxHeartbeats 4000000 in
set_option maxRecDepth 100000 in
theorem X2_loop (X : Cx) (l : Launch) (hfl : l.stackTraces = false) {p : Program} {e : Env} {s : State} {m : MethodId} {below : List Frame} {meth : Method} {c : Code} (ws : va_W) (a q1 : Nat) (hx : p.tables.exec = Jvm.exec) (hb : c.code = cX2_init) (hr : meth.sig.returnType = none) (hml : c.maxLocals = 2) (hlk : meth.locks = false) (hown : s.vm.findClass "FlyTreasury$History" = some m.cls) (hE : Ev X s s.heap) (hAO : AOs s) (hz : xs X ≤ s.heap.size) :
    ∀ (n j : Nat), j + n = 8 → ∀ (F : Nat → Nat → Nat) (fq : Nat → Option Nat) (H : Heap) (locs : List Loc) (ls : Array Slot), (∀ k, k < j → fq k = some (F k 0)) → va_P (xD X) vwCl (ws ++ ([(a, Sum.inr (4, [.ref q1, .int 0, .int 0])), (q1, Sum.inl (xc X 4, 8, Sum.inr (Sum.inr (Sum.inr (Sum.inr fq)))))] ++ LRw X F j)) H → va_D (xA X) (ws ++ ([(a, Sum.inr (4, [.ref q1, .int 0, .int 0])), (q1, Sum.inl (xc X 4, 8, Sum.inr (Sum.inr (Sum.inr (Sum.inr fq)))))] ++ LRw X F j)) → va_S (xA X) s.heap H locs → lv_has ls 2 [(1, .int (nI j)), (0, .ref a)] →
      W p l e (rmL 3 121 568) s m [.ref a].toArray below meth c H locs (1 + 15 * j) (8 + 70 * j) (MQ below (va_Qv (S := va_W) (fun W => ∃ (F : Nat → Nat → Nat) (q1 : Nat) (fq : Nat → Option Nat), (∀ k, k < 8 → fq k = some (F k 0)) ∧ W = ws ++ ([(a, Sum.inr (4, [.ref q1, .int 0, .int 0])), (q1, Sum.inl (xc X 4, 8, Sum.inr (Sum.inr (Sum.inr (Sum.inr fq)))))] ++ LRw X F 8)) (fun W t => va_P (xD X) vwCl W t.heap ∧ va_D (xA X) W) (xA X)) [.ref a].toArray s 121 568 (xA X)) (F0 m 25 ls []) := by
  have hA : ∀ q : Nat, s.heap.size ≤ q → xA X q := fun q h => Nat.le_trans hz h
  intro n
  induction n with
  | zero =>
    intro j hj F fq H locs ls hfq hP hD hS hl
    obtain rfl : j = 8 := by omega
    refine lv_iload_n hx hb dX2_init_25 rfl (lv_at hl 0 rfl) ?_
    refine lv_bipush (v := 8) hx hb dX2_init_26 (by decide) ?_
    refine lv_icmp_ge (tgt := 50) hx hb dX2_init_28 (by decide) (fun c9 => ?_) (fun c9 => absurd c9 (by decide))
    exact iend hx hb hr hlk ⟨F, q1, fq, hfq, rfl⟩ hP hD hS dX2_init_50
  | succ n ih =>
    intro j hj F fq H locs ls hfq hP hD hS hl
    refine lv_iload_n hx hb dX2_init_25 rfl (lv_at hl 0 rfl) ?_
    refine lv_bipush (v := 8) hx hb dX2_init_26 (by decide) ?_
    refine lv_icmp_ge (tgt := 50) hx hb dX2_init_28 (by decide) (fun c9 => absurd ((nI_leI (a := 8) (b := j) (by decide) (by omega)).mp c9) (by omega)) (fun c9 => ?_)
    refine lv_aload_n hx hb dX2_init_31 rfl (lv_at hl 1 rfl) ?_
    refine va_get (D := xD X) (ci := 4) (v := .ref q1) (C := RX2) (T := TX2) (N := 3) hx hb (hE.ws us_X2 ug_X2 _) (fun _ h => h) hown hE.2.1 hP (ws.length + 0) (ap_at ws _ 0) rfl 0 (by decide) (hE.w qw_212 rfl _) (fun _ h9 => h9) rfl dX2_init_32 ?_
    refine lv_iload_n hx hb dX2_init_35 rfl (lv_at hl 0 rfl) ?_
    refine va_new (ci := 5) (fs := [.null, .null, .null, .null, .int 0, .int 0, .int 0, .int 0, .int 0, .int 0, .int 0]) (C := RX3) (T := TX3) (N := 11) hx hb (hE.ws us_X3 ug_X3 _) (fun _ h => h) tyX3 tyX3_ok hown (hE.w qw_209 rfl _) (hE.w qw_118 rfl _) (hE.w qw_75 rfl _) hE.2.1 hP hD hS hA rfl df_X3 (by show _ ≤ 121; omega) (by show _ ≤ 568; omega) dX2_init_36 (fun q H1 hP1 hD1 hS1 => ?_)
    refine lv_dup hx hb dX2_init_39 rfl ?_
    refine call_I (run_I (cc := cX2_init) (As := []) (rest := [.ref q, .int (nI j), .ref q1]) hx hb hml hown hE hAO hz (inX3_init X l hfl _ q) qw_211 qw_120 qw_75 qw_121 (myX3_init).2 ⟨Nat.le_of_ble_eq_true rfl, Nat.le_of_ble_eq_true rfl⟩ rfl hP1 hD1 hS1 rfl hl.1 rfl (Nat.le_of_ble_eq_true rfl) dX2_init_40 ⟨(by show _ ≤ 121; omega), (by show _ ≤ 568; omega)⟩) hS1 (fun W H2 locs2 hw hP2 hD2 hS2 => ?_)
    obtain ⟨f, hf0, rfl⟩ := hw
    rw [List.append_assoc, List.append_assoc, LRw_succ] at hP2 hD2
    have hat : (LRw X (fun i => if i < j then F i else f) (j + 1))[15 * j]? = some (q, lcell X f 0) := by
      rw [LRw_get X _ (by omega), show 15 * j / 15 = j by omega, show 15 * j % 15 = 0 by omega, if_neg (Nat.lt_irrefl j), hf0]
    refine va_astq hx hb hE.2.1 hP2 hD2 hS2 (ws.length + 1) 4 (ws.length + (2 + 15 * j)) 5 (ap_at ws _ 1) rfl (vs := [.ref (f 1), .ref (f 2), .ref (f 3), .ref (f 4), .int 0, .int 0, .int 0, .int 0, .int 0, .int 0, .int 0]) (v := q) ?_ rfl (i := nI j) (n := 8) ?_ dX2_init_43 (fun H3 locs3 h1 h2 h3 => ?_)
    · rw [ap_at, List.getElem?_append_right (by simp), show 2 + 15 * j - [_, _].length = 15 * j from Nat.add_sub_cancel_left 2 _]
      exact hat
    · exact vp_in_nI (by omega) (by omega)
    rw [ap_set, nI_clamp (by omega)] at h1 h2
    refine lv_iinc (v := nI (j + 1)) (lv' := [(1, .int (nI (j + 1))), (0, .ref a)]) hx hb dX2_init_44 hl (k := 0) rfl (by rw [← nI_1]; rfl) (by decide) rfl (fun ls hl => ?_)
    refine lv_goto (tgt := 25) hx hb dX2_init_47 (by decide) ?_
    refine W.widen (k := 1 + 15 * (j + 1)) (n := 8 + 70 * (j + 1)) (by omega) (by omega) ?_
    refine ih (j + 1) (by omega) (fun i => if i < j then F i else f) (va_up fq j (some q)) H3 locs3 ls (fun k hk => ?_) h1 h2 h3 hl
    unfold va_up
    by_cases hkj : k = j
    · subst hkj; simp [hf0]
    · rw [if_neg hkj, if_pos (by omega), hfq k (by omega)]

set_option maxHeartbeats 4000000 in
set_option maxRecDepth 100000 in
theorem inX6_init (X : Cx) (l : Launch) (hfl : l.stackTraces = false) (ws : va_W) (a : Nat) : CI X l yX6_init cX6_init 2 2 18 156 [.ref a] (ws ++ [(a, Sum.inr (7, [.null, .null, .int 0, .int 0, .int 0]))]) (fun W => ∃ f : Nat → Nat, f 0 = a ∧ W = ws ++ SK X f) := by
  refine ibegin (by decide) (Nat.le_of_ble_eq_true rfl) (fun p e s m below meth c hx hb hr hml hlk hin hown hE hAO hz ls hl hP hD hS => ?_)
  have hA : ∀ q : Nat, s.heap.size ≤ q → xA X q := fun q h => Nat.le_trans hz h
  have hl : lv_has ls 2 [(0, .ref a)] := hl
  have hown : s.vm.findClass "FlyTreasury$Script" = some m.cls := hown
  refine lv_aload_n hx hb dX6_init_0 rfl (lv_at hl 0 rfl) ?_
  refine W.objInit hx hb hown (hE.w qw_228 rfl _) (hE.w qw_115 rfl _) (hE.w qw_116 rfl _) rfl (hl.1.trans hml.symm) rfl dX6_init_1 (Nat.le_of_ble_eq_true rfl) (Nat.le_of_ble_eq_true rfl) ?_
  refine W.eq (g2 := F0 m 4 ls []) rfl ?_
  refine lv_aload_n hx hb dX6_init_4 rfl (lv_at hl 0 rfl) ?_
  refine lv_bipush (v := 60) hx hb dX6_init_5 (by decide) ?_
  refine va_newa (atype := .char) (ty := .char) hx hb (hE.w qw_264 rfl _) rfl hE.2.1 hP hD hS hA (N' := 60) (a0 := (60, .inl (fun _ => 0))) (fun _ => rfl) (by decide) (by decide) (Nat.le_of_ble_eq_true rfl) (Nat.le_of_ble_eq_true rfl) (Nat.le_of_ble_eq_true rfl) dX6_init_7 (fun q1 cA H101 hK1 h1 h2 h3 => ?_)
  obtain rfl : cA = xc X 1 := Option.some.inj ((hK1.2 8 (cA, .char) rfl).2.symm.trans (hE.2.1.2 1 (xc X 1, .char) rfl).2)
  clear hK1
  rw [List.append_assoc] at h1 h2
  replace hP : va_P (xD X) vwCl (ws ++ [(a, Sum.inr (7, [.null, .null, .int 0, .int 0, .int 0])), (q1, Sum.inl (xc X 1, 60, Sum.inl (fun _ => 0)))]) H101 := h1
  replace hD : va_D (xA X) (ws ++ [(a, Sum.inr (7, [.null, .null, .int 0, .int 0, .int 0])), (q1, Sum.inl (xc X 1, 60, Sum.inl (fun _ => 0)))]) := h2
  replace hS := h3
  clear h1 h2 h3
  refine va_putF (D := xD X) (ci := 7) (v := .ref q1) (ty := .array (.char)) (C := RX6) (T := TX6) (N := 5) hx hb (hE.ws us_X6 ug_X6 _) (fun _ h => h) tyX6 tyX6_ok nmX6 hown hE.2.1 hP hD hS (ws.length + 0) (ap_at ws _ 0) rfl 0 (by decide) (hE.w qw_265 rfl _) (fun _ h9 => h9) rfl hin rfl (by decide +kernel) rfl rfl (Nat.le_of_ble_eq_true rfl) dX6_init_9 (fun H102 locs9 h1 h2 h3 => ?_)
  rw [ap_set] at h1 h2
  replace hP : va_P (xD X) vwCl (ws ++ [(a, Sum.inr (7, [.ref q1, .null, .int 0, .int 0, .int 0])), (q1, Sum.inl (xc X 1, 60, Sum.inl (fun _ => 0)))]) H102 := h1
  replace hD : va_D (xA X) (ws ++ [(a, Sum.inr (7, [.ref q1, .null, .int 0, .int 0, .int 0])), (q1, Sum.inl (xc X 1, 60, Sum.inl (fun _ => 0)))]) := h2
  replace hS := h3
  clear h1 h2 h3
  refine lv_aload_n hx hb dX6_init_12 rfl (lv_at hl 0 rfl) ?_
  refine lv_bipush (v := 16) hx hb dX6_init_13 (by decide) ?_
  refine va_newq hx hb hown (hE.w qw_229 rfl _) hAO.2.2 hE.2.1 hP hD hS hA (N' := 16) (by decide) (by decide) (Nat.le_of_ble_eq_true rfl) (Nat.le_of_ble_eq_true rfl) (Nat.le_of_ble_eq_true rfl) dX6_init_15 (fun q2 cA H103 hK1 h1 h2 h3 => ?_)
  obtain rfl : cA = xc X 5 := ra_one (hK1.2 8 (cA, .object "FlyTreasury$Order") rfl).2 (hE.2.1.2 5 (xc X 5, .object "FlyTreasury$Order") rfl).2
  clear hK1
  rw [List.append_assoc] at h1 h2
  replace hP : va_P (xD X) vwCl (ws ++ [(a, Sum.inr (7, [.ref q1, .null, .int 0, .int 0, .int 0])), (q1, Sum.inl (xc X 1, 60, Sum.inl (fun _ => 0))), (q2, Sum.inl (xc X 5, 16, Sum.inr (Sum.inr (Sum.inr (Sum.inr (fun _ => none))))))]) H103 := h1
  replace hD : va_D (xA X) (ws ++ [(a, Sum.inr (7, [.ref q1, .null, .int 0, .int 0, .int 0])), (q1, Sum.inl (xc X 1, 60, Sum.inl (fun _ => 0))), (q2, Sum.inl (xc X 5, 16, Sum.inr (Sum.inr (Sum.inr (Sum.inr (fun _ => none))))))]) := h2
  replace hS := h3
  clear h1 h2 h3
  refine va_putF (D := xD X) (ci := 7) (v := .ref q2) (ty := .array (.object "FlyTreasury$Order")) (C := RX6) (T := TX6) (N := 5) hx hb (hE.ws us_X6 ug_X6 _) (fun _ h => h) tyX6 tyX6_ok nmX6 hown hE.2.1 hP hD hS (ws.length + 0) (ap_at ws _ 0) rfl 1 (by decide) (hE.w qw_266 rfl _) (fun _ h9 => h9) rfl hin rfl (by decide +kernel) rfl rfl (Nat.le_of_ble_eq_true rfl) dX6_init_18 (fun H104 locs9 h1 h2 h3 => ?_)
  rw [ap_set] at h1 h2
  replace hP : va_P (xD X) vwCl (ws ++ [(a, Sum.inr (7, [.ref q1, .ref q2, .int 0, .int 0, .int 0])), (q1, Sum.inl (xc X 1, 60, Sum.inl (fun _ => 0))), (q2, Sum.inl (xc X 5, 16, Sum.inr (Sum.inr (Sum.inr (Sum.inr (fun _ => none))))))]) H104 := h1
  replace hD : va_D (xA X) (ws ++ [(a, Sum.inr (7, [.ref q1, .ref q2, .int 0, .int 0, .int 0])), (q1, Sum.inl (xc X 1, 60, Sum.inl (fun _ => 0))), (q2, Sum.inl (xc X 5, 16, Sum.inr (Sum.inr (Sum.inr (Sum.inr (fun _ => none))))))]) := h2
  replace hS := h3
  clear h1 h2 h3
  refine lv_aload_n hx hb dX6_init_21 rfl (lv_at hl 0 rfl) ?_
  refine lv_iconst (v := 0) hx hb dX6_init_22 (by decide) ?_
  refine va_put (D := xD X) (ci := 7) (v := .int 0) (ty := .int) (C := RX6) (T := TX6) (N := 5) hx hb (hE.ws us_X6 ug_X6 _) (fun _ h => h) tyX6 tyX6_ok nmX6 hown hE.2.1 hP hD hS (ws.length + 0) (ap_at ws _ 0) rfl 2 (by decide) (hE.w qw_268 rfl _) (fun _ h9 => h9) rfl (by decide +kernel) rfl rfl (Nat.le_of_ble_eq_true rfl) dX6_init_23 (fun H105 locs9 h1 h2 h3 => ?_)
  rw [ap_set] at h1 h2
  replace hP : va_P (xD X) vwCl (ws ++ [(a, Sum.inr (7, [.ref q1, .ref q2, .int 0, .int 0, .int 0])), (q1, Sum.inl (xc X 1, 60, Sum.inl (fun _ => 0))), (q2, Sum.inl (xc X 5, 16, Sum.inr (Sum.inr (Sum.inr (Sum.inr (fun _ => none))))))]) H105 := h1
  replace hD : va_D (xA X) (ws ++ [(a, Sum.inr (7, [.ref q1, .ref q2, .int 0, .int 0, .int 0])), (q1, Sum.inl (xc X 1, 60, Sum.inl (fun _ => 0))), (q2, Sum.inl (xc X 5, 16, Sum.inr (Sum.inr (Sum.inr (Sum.inr (fun _ => none))))))]) := h2
  replace hS := h3
  clear h1 h2 h3
  refine lv_aload_n hx hb dX6_init_26 rfl (lv_at hl 0 rfl) ?_
  refine lv_iconst (v := 0) hx hb dX6_init_27 (by decide) ?_
  refine va_put (D := xD X) (ci := 7) (v := .int 0) (ty := .int) (C := RX6) (T := TX6) (N := 5) hx hb (hE.ws us_X6 ug_X6 _) (fun _ h => h) tyX6 tyX6_ok nmX6 hown hE.2.1 hP hD hS (ws.length + 0) (ap_at ws _ 0) rfl 3 (by decide) (hE.w qw_270 rfl _) (fun _ h9 => h9) rfl (by decide +kernel) rfl rfl (Nat.le_of_ble_eq_true rfl) dX6_init_28 (fun H106 locs9 h1 h2 h3 => ?_)
  rw [ap_set] at h1 h2
  replace hP : va_P (xD X) vwCl (ws ++ [(a, Sum.inr (7, [.ref q1, .ref q2, .int 0, .int 0, .int 0])), (q1, Sum.inl (xc X 1, 60, Sum.inl (fun _ => 0))), (q2, Sum.inl (xc X 5, 16, Sum.inr (Sum.inr (Sum.inr (Sum.inr (fun _ => none))))))]) H106 := h1
  replace hD : va_D (xA X) (ws ++ [(a, Sum.inr (7, [.ref q1, .ref q2, .int 0, .int 0, .int 0])), (q1, Sum.inl (xc X 1, 60, Sum.inl (fun _ => 0))), (q2, Sum.inl (xc X 5, 16, Sum.inr (Sum.inr (Sum.inr (Sum.inr (fun _ => none))))))]) := h2
  replace hS := h3
  clear h1 h2 h3
  refine lv_aload_n hx hb dX6_init_31 rfl (lv_at hl 0 rfl) ?_
  refine lv_iconst (v := 0) hx hb dX6_init_32 (by decide) ?_
  refine va_put (D := xD X) (ci := 7) (v := .int 0) (ty := .int) (C := RX6) (T := TX6) (N := 5) hx hb (hE.ws us_X6 ug_X6 _) (fun _ h => h) tyX6 tyX6_ok nmX6 hown hE.2.1 hP hD hS (ws.length + 0) (ap_at ws _ 0) rfl 4 (by decide) (hE.w qw_272 rfl _) (fun _ h9 => h9) rfl (by decide +kernel) rfl rfl (Nat.le_of_ble_eq_true rfl) dX6_init_33 (fun H107 locs9 h1 h2 h3 => ?_)
  rw [ap_set] at h1 h2
  replace hP : va_P (xD X) vwCl (ws ++ [(a, Sum.inr (7, [.ref q1, .ref q2, .int 0, .int 0, .int 0])), (q1, Sum.inl (xc X 1, 60, Sum.inl (fun _ => 0))), (q2, Sum.inl (xc X 5, 16, Sum.inr (Sum.inr (Sum.inr (Sum.inr (fun _ => none))))))]) H107 := h1
  replace hD : va_D (xA X) (ws ++ [(a, Sum.inr (7, [.ref q1, .ref q2, .int 0, .int 0, .int 0])), (q1, Sum.inl (xc X 1, 60, Sum.inl (fun _ => 0))), (q2, Sum.inl (xc X 5, 16, Sum.inr (Sum.inr (Sum.inr (Sum.inr (fun _ => none))))))]) := h2
  replace hS := h3
  clear h1 h2 h3
  refine lv_iconst (v := 0) hx hb dX6_init_36 (by decide) ?_
  refine lv_istore_n (lv' := [(1, .int 0), (0, .ref a)]) hx hb dX6_init_37 rfl hl (by decide) rfl (fun ls hl => ?_)
  exact X6_loop X l hfl ws a q1 q2 hx hb hr hml hlk hown hE hAO hz 16 0 rfl (fun _ => 0) _ _ _ ls (fun k hk => absurd hk (Nat.not_lt_zero k)) hP hD hS hl
set_option maxHeartbeats 4000000 in
set_option maxRecDepth 100000 in
theorem inX2_init (X : Cx) (l : Launch) (hfl : l.stackTraces = false) (ws : va_W) (a : Nat) : CI X l yX2_init cX2_init 2 3 121 568 [.ref a] (ws ++ [(a, Sum.inr (4, [.null, .int 0, .int 0]))]) (fun W => ∃ (F : Nat → Nat → Nat) (q1 : Nat) (fq : Nat → Option Nat), (∀ k, k < 8 → fq k = some (F k 0)) ∧ W = ws ++ ([(a, Sum.inr (4, [.ref q1, .int 0, .int 0])), (q1, Sum.inl (xc X 4, 8, Sum.inr (Sum.inr (Sum.inr (Sum.inr fq)))))] ++ LRw X F 8)) := by
  refine ibegin (by decide) (Nat.le_of_ble_eq_true rfl) (fun p e s m below meth c hx hb hr hml hlk hin hown hE hAO hz ls hl hP hD hS => ?_)
  have hA : ∀ q : Nat, s.heap.size ≤ q → xA X q := fun q h => Nat.le_trans hz h
  have hl : lv_has ls 2 [(0, .ref a)] := hl
  have hown : s.vm.findClass "FlyTreasury$History" = some m.cls := hown
  refine lv_aload_n hx hb dX2_init_0 rfl (lv_at hl 0 rfl) ?_
  refine W.objInit hx hb hown (hE.w qw_208 rfl _) (hE.w qw_115 rfl _) (hE.w qw_116 rfl _) rfl (hl.1.trans hml.symm) rfl dX2_init_1 (Nat.le_of_ble_eq_true rfl) (Nat.le_of_ble_eq_true rfl) ?_
  refine W.eq (g2 := F0 m 4 ls []) rfl ?_
  refine lv_aload_n hx hb dX2_init_4 rfl (lv_at hl 0 rfl) ?_
  refine lv_bipush (v := 8) hx hb dX2_init_5 (by decide) ?_
  refine va_newq hx hb hown (hE.w qw_209 rfl _) hAO.2.1 hE.2.1 hP hD hS hA (N' := 8) (by decide) (by decide) (Nat.le_of_ble_eq_true rfl) (Nat.le_of_ble_eq_true rfl) (Nat.le_of_ble_eq_true rfl) dX2_init_7 (fun q1 cA H101 hK1 h1 h2 h3 => ?_)
  obtain rfl : cA = xc X 4 := ra_one (hK1.2 8 (cA, .object "FlyTreasury$Ledger") rfl).2 (hE.2.1.2 4 (xc X 4, .object "FlyTreasury$Ledger") rfl).2
  clear hK1
  rw [List.append_assoc] at h1 h2
  replace hP : va_P (xD X) vwCl (ws ++ [(a, Sum.inr (4, [.null, .int 0, .int 0])), (q1, Sum.inl (xc X 4, 8, Sum.inr (Sum.inr (Sum.inr (Sum.inr (fun _ => none))))))]) H101 := h1
  replace hD : va_D (xA X) (ws ++ [(a, Sum.inr (4, [.null, .int 0, .int 0])), (q1, Sum.inl (xc X 4, 8, Sum.inr (Sum.inr (Sum.inr (Sum.inr (fun _ => none))))))]) := h2
  replace hS := h3
  clear h1 h2 h3
  refine va_putF (D := xD X) (ci := 4) (v := .ref q1) (ty := .array (.object "FlyTreasury$Ledger")) (C := RX2) (T := TX2) (N := 3) hx hb (hE.ws us_X2 ug_X2 _) (fun _ h => h) tyX2 tyX2_ok nmX2 hown hE.2.1 hP hD hS (ws.length + 0) (ap_at ws _ 0) rfl 0 (by decide) (hE.w qw_212 rfl _) (fun _ h9 => h9) rfl hin rfl (by decide +kernel) rfl rfl (Nat.le_of_ble_eq_true rfl) dX2_init_10 (fun H102 locs9 h1 h2 h3 => ?_)
  rw [ap_set] at h1 h2
  replace hP : va_P (xD X) vwCl (ws ++ [(a, Sum.inr (4, [.ref q1, .int 0, .int 0])), (q1, Sum.inl (xc X 4, 8, Sum.inr (Sum.inr (Sum.inr (Sum.inr (fun _ => none))))))]) H102 := h1
  replace hD : va_D (xA X) (ws ++ [(a, Sum.inr (4, [.ref q1, .int 0, .int 0])), (q1, Sum.inl (xc X 4, 8, Sum.inr (Sum.inr (Sum.inr (Sum.inr (fun _ => none))))))]) := h2
  replace hS := h3
  clear h1 h2 h3
  refine lv_aload_n hx hb dX2_init_13 rfl (lv_at hl 0 rfl) ?_
  refine lv_iconst (v := 0) hx hb dX2_init_14 (by decide) ?_
  refine va_put (D := xD X) (ci := 4) (v := .int 0) (ty := .int) (C := RX2) (T := TX2) (N := 3) hx hb (hE.ws us_X2 ug_X2 _) (fun _ h => h) tyX2 tyX2_ok nmX2 hown hE.2.1 hP hD hS (ws.length + 0) (ap_at ws _ 0) rfl 1 (by decide) (hE.w qw_213 rfl _) (fun _ h9 => h9) rfl (by decide +kernel) rfl rfl (Nat.le_of_ble_eq_true rfl) dX2_init_15 (fun H103 locs9 h1 h2 h3 => ?_)
  rw [ap_set] at h1 h2
  replace hP : va_P (xD X) vwCl (ws ++ [(a, Sum.inr (4, [.ref q1, .int 0, .int 0])), (q1, Sum.inl (xc X 4, 8, Sum.inr (Sum.inr (Sum.inr (Sum.inr (fun _ => none))))))]) H103 := h1
  replace hD : va_D (xA X) (ws ++ [(a, Sum.inr (4, [.ref q1, .int 0, .int 0])), (q1, Sum.inl (xc X 4, 8, Sum.inr (Sum.inr (Sum.inr (Sum.inr (fun _ => none))))))]) := h2
  replace hS := h3
  clear h1 h2 h3
  refine lv_aload_n hx hb dX2_init_18 rfl (lv_at hl 0 rfl) ?_
  refine lv_iconst (v := 0) hx hb dX2_init_19 (by decide) ?_
  refine va_put (D := xD X) (ci := 4) (v := .int 0) (ty := .int) (C := RX2) (T := TX2) (N := 3) hx hb (hE.ws us_X2 ug_X2 _) (fun _ h => h) tyX2 tyX2_ok nmX2 hown hE.2.1 hP hD hS (ws.length + 0) (ap_at ws _ 0) rfl 2 (by decide) (hE.w qw_214 rfl _) (fun _ h9 => h9) rfl (by decide +kernel) rfl rfl (Nat.le_of_ble_eq_true rfl) dX2_init_20 (fun H104 locs9 h1 h2 h3 => ?_)
  rw [ap_set] at h1 h2
  replace hP : va_P (xD X) vwCl (ws ++ [(a, Sum.inr (4, [.ref q1, .int 0, .int 0])), (q1, Sum.inl (xc X 4, 8, Sum.inr (Sum.inr (Sum.inr (Sum.inr (fun _ => none))))))]) H104 := h1
  replace hD : va_D (xA X) (ws ++ [(a, Sum.inr (4, [.ref q1, .int 0, .int 0])), (q1, Sum.inl (xc X 4, 8, Sum.inr (Sum.inr (Sum.inr (Sum.inr (fun _ => none))))))]) := h2
  replace hS := h3
  clear h1 h2 h3
  refine lv_iconst (v := 0) hx hb dX2_init_23 (by decide) ?_
  refine lv_istore_n (lv' := [(1, .int 0), (0, .ref a)]) hx hb dX2_init_24 rfl hl (by decide) rfl (fun ls hl => ?_)
  exact X2_loop X l hfl ws a q1 hx hb hr hml hlk hown hE hAO hz 8 0 rfl (fun _ _ => 0) _ _ _ ls (fun k hk => absurd hk (Nat.not_lt_zero k)) hP hD hS hl
