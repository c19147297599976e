/-! the builder's bytes grow: copyOf, ensureCapacityInternal; by hand -/
theorem it_t {c A B : Prop} [Decidable c] (h : c) (a : A) : if c then A else B := by rwa [if_pos h]
theorem it_f {c A B : Prop} [Decidable c] (h : ¬ c) (b : B) : if c then A else B := by rwa [if_neg h]
def gB (G : GS) (b n : Nat) (f : Nat → Int32) : GS := ((fun q => if q = 188 then f else G.1 q), (b, n), G.2.2)
def Wd2 (X : Cx) (G : GS) (a n : Nat) (f : Nat → Int32) (t : State) : Prop := va_P (xD X) vwCl (pool X G ++ [(a, .inl (xc X 2, n, .inl f))]) t.heap ∧ va_D (xA X) (pool X G ++ [(a, .inl (xc X 2, n, .inl f))])
theorem pool_up (X : Cx) (G : GS) {e : Nat × va_E} {p : Nat} {x : Nat × va_E} (h : (pool X G)[p]? = some x) : (pool X G ++ [e])[p]? = some x := by
  rw [List.getElem?_append_left (List.getElem?_eq_some_iff.mp h).1]; exact h
theorem pool_199 (X : Cx) (G : GS) (e : Nat × va_E) : (pool X G ++ [e])[199]? = some e := by
  rw [List.getElem?_append_right (by rw [pool_len]; exact Nat.le_refl _), pool_len]; rfl
theorem pool_set199 (X : Cx) (G : GS) (e e' : Nat × va_E) : (pool X G ++ [e]).set 199 e' = pool X G ++ [e'] := by
  rw [List.set_append_right _ _ (by rw [pool_len]; exact Nat.le_refl _), pool_len]; rfl
set_option maxHeartbeats 4000000 in
set_option maxRecDepth 100000 in
theorem okJ7_copyOf_9075b (X : Cx) (l : Launch) (hfl : l.stackTraces = false) {o n m : Nat} {G : GS} (ho : o = G.2.1.1) (hgm : G.2.1.2 = m) (hlt : m < n) (hn : n ≤ 136) (hf : ∀ i, fits .byte (.int (G.1 188 i)) = true) :
    CT X l yJ7_copyOf_9075b cJ7_copyOf_9075b 3 (some (FieldType.array FieldType.byte)) 2 1 136 [.ref o, .int (nI n)] G (va_Qr (S := Nat) (fun _ => True) (fun u a t => a = u ∧ Wd2 X G u n (va_cpy (G.1 188) (fun _ => 0) 0 0 m) t) (xA X)) := by
  refine mbegin (by decide) (Nat.le_of_ble_eq_true rfl) (fun p e s m9 below meth c hx hb hr hml hlk hown hE hz ls hl hP hD hS => ?_)
  have hl : lv_has ls 3 [(0, .ref o), (1, .int (nI n))] := hl
  have hown : s.vm.findClass "java/util/Arrays" = some m9.cls := hown
  have hnn : ¬ nI n < 0 := nI_pos (by omega)
  have hnc : (nI n).toNatClampNeg = n := nI_clamp (by omega)
  have hmc : (nI m).toNatClampNeg = m := nI_clamp (by omega)
  refine lv_iload_n hx hb dJ7_copyOf_9075b_0 rfl (lv_at hl 1 rfl) ?_
  refine lv_aload_n hx hb dJ7_copyOf_9075b_1 rfl (lv_at hl 0 rfl) ?_
  refine alen_12o ho hx hb hE hP dJ7_copyOf_9075b_2 ?_
  refine lv_icmp_ne (tgt := 14) hx hb dJ7_copyOf_9075b_3 (by decide) (fun c1 => ?_) (fun c1 => absurd ((nI_eq (by omega) (by omega)).mp c1) (by omega))
  refine lv_iload_n hx hb dJ7_copyOf_9075b_14 rfl (lv_at hl 1 rfl) ?_
  refine va_newa (atype := .byte) (ty := .byte) hx hb (hE.w qw_317 rfl _) rfl hE.2.1 hP hD hS (fun q h => Nat.le_trans hz h) (N' := n) (a0 := (n, .inl (fun _ => 0))) (fun cA => rfl) hnn hnc (Nat.le_trans (Nat.mul_le_mul hn (Nat.le_of_ble_eq_true rfl : componentBytes FieldType.byte ≤ 8)) (Nat.le_of_ble_eq_true rfl)) (Nat.le_of_ble_eq_true rfl) (by show 0 + n ≤ 136; omega) dJ7_copyOf_9075b_15 (fun q cA H1 hK1 hP1 hD1 hS1 => ?_)
  have hcA : cA = xc X 2 := Option.some.inj ((hK1.2 8 (cA, .byte) rfl).2.symm.trans (hE.2.1.2 2 (xc X 2, .byte) rfl).2)
  subst hcA
  refine W.widen (k := 1) (n := 136) (Nat.le_of_ble_eq_true rfl) (by show 0 + n ≤ 136; omega) ?_
  refine lv_astore_n (lv' := [(2, .ref q), (0, .ref o), (1, .int (nI n))]) hx hb dJ7_copyOf_9075b_17 rfl hl (by decide) rfl (fun ls hl => ?_)
  refine lv_aload_n hx hb dJ7_copyOf_9075b_18 rfl (lv_at hl 1 rfl) ?_
  refine lv_iconst (v := 0) hx hb dJ7_copyOf_9075b_19 (by decide) ?_
  refine lv_aload_n hx hb dJ7_copyOf_9075b_20 rfl (lv_at hl 0 rfl) ?_
  refine lv_iconst (v := 0) hx hb dJ7_copyOf_9075b_21 (by decide) ?_
  refine lv_aload_n hx hb dJ7_copyOf_9075b_22 rfl (lv_at hl 1 rfl) ?_
  have h188 : (pool X G ++ [(q, Sum.inl (xc X 2, n, Sum.inl (fun _ => (0 : Int32))))])[188]? = some (o, .inl (xc X 2, m, .inl (G.1 188))) := by
    rw [ho, ← hgm]; exact pool_up X G (at_12 X G)
  refine va_alen hx hb hK1 hP1 188 2 h188 rfl (v := nI m) rfl dJ7_copyOf_9075b_23 ?_
  refine lv_iload_n hx hb dJ7_copyOf_9075b_24 rfl (lv_at hl 2 rfl) ?_
  refine va_mmin hx hb (hml.trans hl.1.symm) hown (hE.w qw_505 rfl _) (hE.w qw_506 rfl _) (hE.w qw_97 rfl _) (hE.w qw_507 rfl _) (Nat.le_of_ble_eq_true rfl) (Nat.le_of_ble_eq_true rfl) (Nat.le_of_ble_eq_true rfl) (Nat.le_of_ble_eq_true rfl) dJ7_copyOf_9075b_25 ?_
  rw [if_neg (nI_nlt (Nat.le_of_lt hlt) (by omega))]
  refine va_copyi (ty := .byte) hx hb (hml.trans hl.1.symm) hown (hE.w qw_508 rfl _) (hE.w qw_510 rfl _) (hE.w qw_509 rfl _) (hE.w qw_96 rfl _) hK1 hP1 hD1 hS1 188 199 2 8 h188 (pool_199 X G _) rfl rfl rfl (by decide) (by decide) (nI_pos (by omega)) (by rw [hmc]; show 0 + m ≤ m; omega) (by rw [hmc]; show 0 + m ≤ n; omega) (fun i _ => hf _) (Nat.le_of_ble_eq_true rfl) (Nat.le_of_ble_eq_true rfl) dJ7_copyOf_9075b_28 (fun H2 locs2 h1 h2 h3 => ?_)
  rw [pool_set199, hmc] at h1 h2
  refine lv_aload_n hx hb dJ7_copyOf_9075b_31 rfl (lv_at hl 0 rfl) ?_
  exact W.aret hx hb hr (Or.inr ⟨_, rfl⟩) (Or.inr ⟨_, rfl⟩) (fun t ht hW => ⟨⟨q, q, rfl, trivial, rfl, by rw [ht]; exact h1, h2⟩, h3.F ht⟩) h3.2.2 dJ7_copyOf_9075b_32 hlk
theorem kd_nsb0 : ∀ k : Nat, k < 199 → ¬ k = 188 → ¬ k = 187 → ¬ kd k = 11 ∧ ¬ kd k = 12 := by decide +kernel
theorem kd_nsb {k : Nat} : k < 199 → ¬ k = 188 → ¬ k = 187 → ¬ kd k = 11 ∧ ¬ kd k = 12 := kd_nsb0 k
theorem pool_gB (X : Cx) (G : GS) (u n : Nat) (f : Nat → Int32) {k : Nat} {q : Nat × va_E} (hk : (pool X (gB G u n f))[k]? = some q) : ((pool X G ++ [(u, Sum.inl (xc X 2, n, Sum.inl f))]).set 187 (xa X 187, Sum.inr (1, [.ref u, .int (G.1 187 1), .int (G.1 187 2), .int (G.1 187 3)])))[if k = 188 then 199 else k]? = some q := by
  have hl : k < 199 := by
    have := (List.getElem?_eq_some_iff.mp hk).1
    rwa [pool_len] at this
  rw [pool_get X _ hl] at hk
  by_cases h8 : k = 188
  · subst h8
    rw [if_pos rfl, List.getElem?_set_ne (by decide), pool_199]
    rw [← hk]; rfl
  · rw [if_neg h8]
    by_cases h7 : k = 187
    · subst h7
      rw [List.getElem?_set_self (by rw [List.length_append, pool_len]; exact Nat.le_of_ble_eq_true rfl), ← hk]; rfl
    · rw [List.getElem?_set_ne (fun e => h7 e.symm), pool_up X G (pool_get X G hl), ← hk]
      have e1 : adr X (gB G u n f) k = adr X G k := by unfold adr; rw [if_neg h8, if_neg h8]
      have h11 : ¬ kd k = 11 ∧ ¬ kd k = 12 := kd_nsb hl h8 h7
      have e2 : cell X (gB G u n f) k = cell X G k := by
        unfold cell cellF gB
        simp only [if_neg h8, if_neg h11.1, if_neg h11.2]
      rw [e1, e2]
def wpJ5_ensureCapacityInternal_d00df (post : GS → Prop) (a1 : Int32) (G : GS) : Prop :=
  ∃ q m : Nat, a1 = nI q ∧ G.2.1.2 = m ∧ G.1 187 1 = 0 ∧ q ≤ 64 ∧ m ≤ 64 ∧ (∀ i, fits .byte (.int (G.1 188 i)) = true) ∧ (q ≤ m → post G) ∧ (m < q → ∀ u : Nat, post (gB G u (m + if q - m < m + 2 then m + 2 else q - m) (va_cpy (G.1 188) (fun _ => 0) 0 0 m)))
set_option maxHeartbeats 4000000 in
set_option maxRecDepth 100000 in
theorem okJ5_ensureCapacityInternal_d00df (X : Cx) (l : Launch) (hfl : l.stackTraces = false) {post : GS → Prop} {a1 : Int32} {G : GS} (hw : wpJ5_ensureCapacityInternal_d00df post a1 G) : CT X l yJ5_ensureCapacityInternal_d00df cJ5_ensureCapacityInternal_d00df 3 none 3 1 136 [.ref (xa X 187), .int a1] G (Qv X post) := by
  obtain ⟨q, n0, rfl, hgm, hco, hq, hm0, hf, hw1, hw2⟩ := hw
  refine mbegin (by decide) (Nat.le_of_ble_eq_true rfl) (fun p e s m below meth c hx hb hr hml hlk hown hE hz ls hl hP hD hS => ?_)
  have hl : lv_has ls 3 [(0, .ref (xa X 187)), (1, .int (nI q))] := hl
  have hown : s.vm.findClass "java/lang/AbstractStringBuilder" = some m.cls := hown
  refine lv_aload_n hx hb dJ5_ensureCapacityInternal_d00df_0 rfl (lv_at hl 0 rfl) ?_
  refine gf_J4_0 (fun _ h9 => h9) hx hb hE hP hown rfl (hE.w qw_303 rfl _) dJ5_ensureCapacityInternal_d00df_1 ?_
  refine alen_12o rfl hx hb hE hP dJ5_ensureCapacityInternal_d00df_4 ?_
  refine lv_aload_n hx hb dJ5_ensureCapacityInternal_d00df_5 rfl (lv_at hl 0 rfl) ?_
  refine gf_J4_1 (fun _ h9 => h9) hx hb hE hP hown rfl (hE.w qw_304 rfl _) dJ5_ensureCapacityInternal_d00df_6 ?_
  refine lv_ishr hx hb dJ5_ensureCapacityInternal_d00df_9 ?_
  rw [hgm, hco, sb_shr0]
  refine lv_istore_n (lv' := [(2, .int (nI n0)), (0, .ref (xa X 187)), (1, .int (nI q))]) hx hb dJ5_ensureCapacityInternal_d00df_10 rfl hl (by decide) rfl (fun ls hl => ?_)
  refine lv_iload_n hx hb dJ5_ensureCapacityInternal_d00df_11 rfl (lv_at hl 2 rfl) ?_
  refine lv_iload_n hx hb dJ5_ensureCapacityInternal_d00df_12 rfl (lv_at hl 0 rfl) ?_
  refine lv_isub hx hb dJ5_ensureCapacityInternal_d00df_13 ?_
  have e1 : (nI q - nI n0).toInt = (q : Int) - n0 := pk_sub_toInt (by omega) (by omega)
  refine lv_if_le (tgt := 38) hx hb dJ5_ensureCapacityInternal_d00df_14 (by decide) (fun c1 => ?_) (fun c1 => ?_)
  · rw [Int32.le_iff_toInt_le, e1, Int32.toInt_zero] at c1
    refine W.widen (k := 1) (n := 136) (Nat.le_of_ble_eq_true rfl) (Nat.le_of_ble_eq_true rfl) ?_
    exact end_v hx hb hr hlk (hw1 (by omega)) hP hD hS dJ5_ensureCapacityInternal_d00df_38
  rw [Int32.le_iff_toInt_le, e1, Int32.toInt_zero] at c1
  have hlt : n0 < q := by omega
  replace hw2 := hw2 hlt
  generalize hcap : (n0 + if q - n0 < n0 + 2 then n0 + 2 else q - n0) = cap at hw2
  have hc1 : n0 < cap ∧ cap ≤ 130 := by
    rw [← hcap]; split <;> omega
  have hwn : wpJ5_newCapacity_0f7a4 (fun r G1 => r = nI cap ∧ G1 = G) (nI q) G := by
    intro o1 ho1
    refine ⟨ho1, fun z3 e3 z4 e4 z5 e5 z1 e6 => ?_⟩
    rw [hco, sb_shl0] at e4
    rw [hgm] at e3
    subst e3 e4
    rw [pk_sub (Nat.le_of_lt hlt)] at e5
    subst e5
    rw [hco, sb_shl0] at e6
    have e7 : nI n0 + (2 : Int32) = nI (n0 + 2) := nI_add n0 2
    have e8 : z1 = nI cap := by
      rw [e6, ← hcap, e7]
      by_cases h2 : q - n0 < n0 + 2
      · rw [if_pos h2, if_pos (nI_lt h2 (by omega))]; exact nI_add _ _
      · rw [if_neg h2, if_neg (nI_nlt (by omega) (by omega))]; exact nI_add _ _
    subst e8
    refine it_f (show ¬ nI cap ≤ 0 from fun h => by have := (nI_leI (a := cap) (b := 0) (by omega) (by omega)).mp h; omega) (it_f (show ¬ nI 2147483639 < nI cap from nI_nlt (by omega) (by decide)) (it_f (show ¬ nI cap = nI 2147483647 from fun h => by have := (nI_eq (a := cap) (b := 2147483647) (by omega) (by decide)).mp h; omega) ?_))
    exact And.intro (by rw [hco, sb_shr0]) rfl
  refine lv_aload_n hx hb dJ5_ensureCapacityInternal_d00df_17 rfl (lv_at hl 1 rfl) ?_
  refine lv_aload_n hx hb dJ5_ensureCapacityInternal_d00df_18 rfl (lv_at hl 1 rfl) ?_
  refine gf_J4_0 (fun _ h9 => h9) hx hb hE hP hown rfl (hE.w qw_303 rfl _) dJ5_ensureCapacityInternal_d00df_19 ?_
  refine lv_aload_n hx hb dJ5_ensureCapacityInternal_d00df_22 rfl (lv_at hl 1 rfl) ?_
  refine lv_iload_n hx hb dJ5_ensureCapacityInternal_d00df_23 rfl (lv_at hl 2 rfl) ?_
  refine call_i (run_U (cc := cJ5_ensureCapacityInternal_d00df) (As := [.int (nI q)]) (rest := [.ref G.2.1.1, .ref (xa X 187)]) (x := yJ5_newCapacity_0f7a4) (owner := "java/lang/AbstractStringBuilder") hx hb hml hown hE hz (okJ5_newCapacity_0f7a4 X l hfl hwn) qw_482 qw_2073 (sel_priv (Cond.privateMethod_at (hE.w qw_483 rfl #[])) (hE.w qw_484 rfl _) (by decide) (hE.w qw_514 rfl _) rfl) qw_484 qw_82 qw_485 rfl (myJ5_newCapacity_0f7a4).2 ⟨Nat.le_of_ble_eq_true rfl, Nat.le_of_ble_eq_true rfl⟩ (rv_J4 hE hP rfl) hP hD hS rfl hl.1 rfl (Nat.le_of_ble_eq_true rfl) dJ5_ensureCapacityInternal_d00df_24 ⟨Nat.le_of_ble_eq_true rfl, Nat.le_of_ble_eq_true rfl⟩) hS (fun r G1 H locs hw hP2 hD2 hS2 => ?_)
  obtain ⟨rfl, rfl⟩ := hw
  refine lv_aload_n hx hb dJ5_ensureCapacityInternal_d00df_27 rfl (lv_at hl 1 rfl) ?_
  refine gf_J4_1 (fun _ h9 => h9) hx hb hE hP2 hown rfl (hE.w qw_304 rfl _) dJ5_ensureCapacityInternal_d00df_28 ?_
  refine lv_ishl hx hb dJ5_ensureCapacityInternal_d00df_31 ?_
  rw [hco, sb_shl0]
  refine va_callr (run_S (cc := cJ5_ensureCapacityInternal_d00df) (As := [.ref G1.2.1.1, .int (nI cap)]) (rest := [.ref (xa X 187)]) hx hb hml hown hE hz (okJ7_copyOf_9075b X l hfl (o := G1.2.1.1) (n := cap) (m := n0) rfl hgm hc1.1 (by omega) hf) qw_495 qw_496 qw_106 qw_497 (myJ7_copyOf_9075b).2 ⟨Nat.le_of_ble_eq_true rfl, Nat.le_of_ble_eq_true rfl⟩ hP2 hD2 hS2 rfl hl.1 rfl (Nat.le_of_ble_eq_true rfl) dJ5_ensureCapacityInternal_d00df_32 ⟨Nat.le_of_ble_eq_true rfl, Nat.le_of_ble_eq_true rfl⟩) hS2 (fun q _ h => h) (fun q h => h) (fun u ra t H1 locs1 ht hvm _ hB hz1 hk1 hS1 => ?_)
  obtain ⟨rfl, hP1, hD1⟩ := hB
  rw [ht] at hP1
  refine va_put (D := xD X) (ci := 1) (v := .ref ra) (ty := .array .byte) (C := RJ4) (T := TJ4) (N := 4) hx hb (hE.ws us_J4 ug_J4 _) (fun _ h => h) tyJ4 tyJ4_ok nmJ4 hown hE.2.1 hP1 hD1 hS1 187 (pool_up X G1 (at_J4 X G1 (q := 187) rfl)) rfl 0 (by decide) (hE.w qw_303 rfl _) (fun _ h9 => h9) rfl (by decide +kernel) rfl rfl (Nat.le_of_ble_eq_true rfl) dJ5_ensureCapacityInternal_d00df_35 (fun H2 locs2 h1 h2 h3 => ?_)
  have hP3 : va_P (xD X) vwCl (pool X (gB G1 ra cap (va_cpy (G1.1 188) (fun _ => 0) 0 0 n0))) H2 := h1.by _ (fun k q hk => pool_gB X G1 ra cap _ hk)
  have hD3 : va_D (xA X) (pool X (gB G1 ra cap (va_cpy (G1.1 188) (fun _ => 0) 0 0 n0))) := h2.by _ (fun k q hk => pool_gB X G1 ra cap _ hk) (fun i j hi hj h => by
    rw [pool_len] at hi hj
    split at h <;> split at h <;> omega)
  exact end_v hx hb hr hlk (hw2 ra) hP3 hD3 h3 dJ5_ensureCapacityInternal_d00df_38
