/-! the law's loop over the script; printed by wip/whole/gen/gen_9a.py -/
set_option maxHeartbeats 4000000 in
set_option maxRecDepth 100000 in
theorem law_loop {p : Program} {e : Env} {s : State} {m : MethodId} {below : List Frame} {meth : Method} {c : Code} (l : Launch) (hfl : l.stackTraces = false) {b L : Nat} {xs : Nat → Int32} (hL : L ≤ 2560) (C0 : lw_At p s m meth c b L xs) {X : Cx} (hE : Ev X s s.heap) (hz : s.heap.size = X.2.2.2.2) :
    ∀ (k i : Nat) (G : GS) (H : Heap) (locs : List Loc) (ls : Array Slot), i + k = 512 → Inv G → va_P (xD X) vwCl (pool X G) H → va_D (xA X) (pool X G) → va_S (xA X) s.heap H locs → lv_has ls 9 [(0, .ref b), (1, .ref (xa X 165)), (2, .ref (xa X 189)), (3, .ref (xa X 197)), (4, .ref (xa X 198)), (5, .int (nI (5 * i)))] →
      W p l e room_1 s m #[Value.ref b] below meth c H locs (199 + 40 * i) (1731 + 3000 * i) (lw_Z below #[Value.ref b] s) (F0 m 28 ls []) := by
  obtain ⟨hx, hb, hr, hml, hown, hts, hX, hbl, hlocks, hgv⟩ := id C0
  have hbA : ¬ xA X b := fun h => by
    have h : X.2.2.2.2 ≤ b := h
    omega
  have hend : ∀ (H : Heap) (locs : List Loc) (ls : Array Slot) (cc ss : Nat), cc ≤ 603072 → ss ≤ 7211114 → va_S (xA X) s.heap H locs → W p l e room_1 s m #[Value.ref b] below meth c H locs cc ss (lw_Z below #[Value.ref b] s) (F0 m 2842 ls []) := by
    intro H locs ls cc ss h1 h2 hS
    refine va_forget (fun q hq => by rw [hz]; exact hS.2.2 q hq) ?_
    refine lv_iconst (v := 1) hx hb dL_law_2842 (by decide) ?_
    refine W.widen (k := 603072) (n := 7211114) h1 h2 ?_
    exact lw_ret (d0 := s.drawn) (Drawn.sameBut.refl s.drawn lw_cs) hx hb hr hlocks dL_law_2843
  intro k
  induction k with
  | zero =>
    intro i G H locs ls hi I hP hD hS hl
    refine lv_iload hx hb dL_law_28 (lv_at hl 5 rfl) ?_
    refine lv_aload_n hx hb dL_law_30 rfl (lv_at hl 0 rfl) ?_
    refine va_slen hx hb hX hbl hbA hS dL_law_31 ?_
    refine lv_iconst (v := 5) hx hb dL_law_32 (by decide) ?_
    refine lv_isub hx hb dL_law_33 ?_
    refine lv_icmp_gt (tgt := 2842) hx hb dL_law_34 (by decide) (fun _ => hend _ _ _ _ _ (by omega) (by omega) hS) (fun c => absurd ?_ c)
    rw [Int32.lt_iff_toInt_lt, show Int32.ofNat L - 5 = nI L - nI 5 from rfl, pk_sub_toInt (by omega) (by decide), nI_toInt (by omega)]
    omega
  | succ k ih =>
    intro i G H locs ls hi I hP hD hS hl
    have step : ∀ (G : GS) (H : Heap) (locs : List Loc) (ls : Array Slot), Inv G → va_P (xD X) vwCl (pool X G) H → va_D (xA X) (pool X G) → va_S (xA X) s.heap H locs → lv_has ls 9 [(0, .ref b), (1, .ref (xa X 165)), (2, .ref (xa X 189)), (3, .ref (xa X 197)), (4, .ref (xa X 198)), (5, .int (nI (5 * i)))] → W p l e room_1 s m #[Value.ref b] below meth c H locs (199 + 40 * i + 40) (1731 + 3000 * i + 3000) (lw_Z below #[Value.ref b] s) (F0 m 2836 ls []) := by
      intro G H locs ls I hP hD hS hl
      refine lv_iinc (v := nI (5 * (i + 1))) (lv' := [(5, .int (nI (5 * (i + 1)))), (0, .ref b), (1, .ref (xa X 165)), (2, .ref (xa X 189)), (3, .ref (xa X 197)), (4, .ref (xa X 198))]) hx hb dL_law_2836 hl (k := 5) rfl ?_ (by decide) rfl (fun ls hl => ?_)
      · rw [show Int32.ofInt 5 = nI 5 from rfl, nI_add]; rfl
      refine lv_goto (tgt := 28) hx hb dL_law_2839 (by decide) ?_
      exact ih (i + 1) G H locs ls (by omega) I hP hD hS (lv_sub hl [1, 2, 3, 4, 5, 0] rfl)
    refine lv_iload hx hb dL_law_28 (lv_at hl 5 rfl) ?_
    refine lv_aload_n hx hb dL_law_30 rfl (lv_at hl 0 rfl) ?_
    refine va_slen hx hb hX hbl hbA hS dL_law_31 ?_
    refine lv_iconst (v := 5) hx hb dL_law_32 (by decide) ?_
    refine lv_isub hx hb dL_law_33 ?_
    refine lv_icmp_gt (tgt := 2842) hx hb dL_law_34 (by decide) (fun _ => hend _ _ _ _ _ (by omega) (by omega) hS) (fun c => ?_)
    rw [Int32.lt_iff_toInt_lt, show Int32.ofNat L - 5 = nI L - nI 5 from rfl, pk_sub_toInt (by omega) (by decide), nI_toInt (by omega)] at c
    have hiL : 5 * i + 5 ≤ L := by omega
    have hv : ∀ j, j < 5 → vp_in (nI (5 * i) + nI j) L := fun j hj => by rw [nI_add]; exact vp_in_nI (by omega) (by omega)
    refine lv_aload_n hx hb dL_law_37 rfl (lv_at hl 0 rfl) ?_
    refine lv_iload hx hb dL_law_38 (lv_at hl 5 rfl) ?_
    refine va_sld hx hb hX hbl hbA hS (vp_in_nI (by omega) (by omega)) dL_law_40 ?_
    refine lv_bipush (v := 63) hx hb dL_law_41 (by decide) ?_
    refine lv_iand hx hb dL_law_43 ?_
    generalize xs (nI (5 * i)).toNatClampNeg &&& 63 = y
    have hc9 : 199 + 40 * i + 40 ≤ 603072 := by omega
    have hs9 : 1731 + 3000 * i + 3000 ≤ 7211114 := by omega
    by_cases o : y.toInt < 0 ∨ 51 < y.toInt
    · refine lv_tableOut (tgt := 2836) hx hb dL_law_44 o (by decide) ?_
      refine W.widen (k := 199 + 40 * i + 40) (n := 1731 + 3000 * i + 3000) (by omega) (by omega) ?_
      exact step G H locs ls I hP hD hS hl
    obtain ⟨j, hj, rfl⟩ : ∃ j : Nat, j ≤ 51 ∧ y = nI j := by
      refine nI_of2 (M := 51) (n := 51) (by decide) ?_ ?_
      · rw [Int32.lt_iff_toInt_lt]; exact fun g => o (Or.inl g)
      · rw [Int32.le_iff_toInt_le]; exact Int.not_lt.mp (fun g => o (Or.inr g))
    clear o
    obtain rfl | rfl | rfl | rfl | rfl | rfl | rfl | rfl | rfl | rfl | rfl | rfl | rfl | rfl | rfl | rfl | rfl | rfl | rfl | rfl | rfl | rfl | rfl | rfl | rfl | rfl | rfl | rfl | rfl | rfl | rfl | rfl | rfl | rfl | rfl | rfl | rfl | rfl | rfl | rfl | rfl | rfl | rfl | rfl | rfl | rfl | rfl | rfl | rfl | rfl | rfl | rfl : j = 0 ∨ j = 1 ∨ j = 2 ∨ j = 3 ∨ j = 4 ∨ j = 5 ∨ j = 6 ∨ j = 7 ∨ j = 8 ∨ j = 9 ∨ j = 10 ∨ j = 11 ∨ j = 12 ∨ j = 13 ∨ j = 14 ∨ j = 15 ∨ j = 16 ∨ j = 17 ∨ j = 18 ∨ j = 19 ∨ j = 20 ∨ j = 21 ∨ j = 22 ∨ j = 23 ∨ j = 24 ∨ j = 25 ∨ j = 26 ∨ j = 27 ∨ j = 28 ∨ j = 29 ∨ j = 30 ∨ j = 31 ∨ j = 32 ∨ j = 33 ∨ j = 34 ∨ j = 35 ∨ j = 36 ∨ j = 37 ∨ j = 38 ∨ j = 39 ∨ j = 40 ∨ j = 41 ∨ j = 42 ∨ j = 43 ∨ j = 44 ∨ j = 45 ∨ j = 46 ∨ j = 47 ∨ j = 48 ∨ j = 49 ∨ j = 50 ∨ j = 51 := by omega
    · refine lv_tableIn (off := 224) (tgt := 268) hx hb dL_law_44 (by decide) (by decide) (by decide) (by decide) ?_
      exact okL_law_0 l hfl C0 hE (Nat.le_of_eq hz.symm) hbA (K := Inv) hc9 hs9 (k_law_0 I hv) hP hD hS hl step
    · refine lv_tableIn (off := 280) (tgt := 324) hx hb dL_law_44 (by decide) (by decide) (by decide) (by decide) ?_
      exact okL_law_1 l hfl C0 hE (Nat.le_of_eq hz.symm) hbA (K := Inv) hc9 hs9 (k_law_1 I hv) hP hD hS hl step
    · refine lv_tableIn (off := 362) (tgt := 406) hx hb dL_law_44 (by decide) (by decide) (by decide) (by decide) ?_
      exact okL_law_2 l hfl C0 hE (Nat.le_of_eq hz.symm) hbA (K := Inv) hc9 hs9 (k_law_2 I hv) hP hD hS hl step
    · refine lv_tableIn (off := 444) (tgt := 488) hx hb dL_law_44 (by decide) (by decide) (by decide) (by decide) ?_
      exact okL_law_3 l hfl C0 hE (Nat.le_of_eq hz.symm) hbA (K := Inv) hc9 hs9 (k_law_3 I hv) hP hD hS hl step
    · refine lv_tableIn (off := 540) (tgt := 584) hx hb dL_law_44 (by decide) (by decide) (by decide) (by decide) ?_
      exact okL_law_4 l hfl C0 hE (Nat.le_of_eq hz.symm) hbA (K := Inv) hc9 hs9 (k_law_4 I hv) hP hD hS hl step
    · refine lv_tableIn (off := 608) (tgt := 652) hx hb dL_law_44 (by decide) (by decide) (by decide) (by decide) ?_
      exact okL_law_5 l hfl C0 hE (Nat.le_of_eq hz.symm) hbA (K := Inv) hc9 hs9 (k_law_5 I hv) hP hD hS hl step
    · refine lv_tableIn (off := 676) (tgt := 720) hx hb dL_law_44 (by decide) (by decide) (by decide) (by decide) ?_
      exact okL_law_6 l hfl C0 hE (Nat.le_of_eq hz.symm) hbA (K := Inv) hc9 hs9 (k_law_6 I hv) hP hD hS hl step
    · refine lv_tableIn (off := 739) (tgt := 783) hx hb dL_law_44 (by decide) (by decide) (by decide) (by decide) ?_
      exact okL_law_7 l hfl C0 hE (Nat.le_of_eq hz.symm) hbA (K := Inv) hc9 hs9 (k_law_7 I hv) hP hD hS hl step
    · refine lv_tableIn (off := 809) (tgt := 853) hx hb dL_law_44 (by decide) (by decide) (by decide) (by decide) ?_
      exact okL_law_8 l hfl C0 hE (Nat.le_of_eq hz.symm) hbA (K := Inv) hc9 hs9 (k_law_8 I hv) hP hD hS hl step
    · refine lv_tableIn (off := 877) (tgt := 921) hx hb dL_law_44 (by decide) (by decide) (by decide) (by decide) ?_
      exact okL_law_9 l hfl C0 hE (Nat.le_of_eq hz.symm) hbA (K := Inv) hc9 hs9 (k_law_9 I hv) hP hD hS hl step
    · refine lv_tableIn (off := 933) (tgt := 977) hx hb dL_law_44 (by decide) (by decide) (by decide) (by decide) ?_
      exact okL_law_10 l hfl C0 hE (Nat.le_of_eq hz.symm) hbA (K := Inv) hc9 hs9 (k_law_10 I) hP hD hS hl step
    · refine lv_tableIn (off := 946) (tgt := 990) hx hb dL_law_44 (by decide) (by decide) (by decide) (by decide) ?_
      exact okL_law_11 l hfl C0 hE (Nat.le_of_eq hz.symm) hbA (K := Inv) hc9 hs9 (k_law_11 I hv) hP hD hS hl step
    · refine lv_tableIn (off := 1016) (tgt := 1060) hx hb dL_law_44 (by decide) (by decide) (by decide) (by decide) ?_
      exact okL_law_12 l hfl C0 hE (Nat.le_of_eq hz.symm) hbA (K := Inv) hc9 hs9 (k_law_12 I hv) hP hD hS hl step
    · refine lv_tableIn (off := 1072) (tgt := 1116) hx hb dL_law_44 (by decide) (by decide) (by decide) (by decide) ?_
      exact okL_law_13 l hfl C0 hE (Nat.le_of_eq hz.symm) hbA (K := Inv) hc9 hs9 (k_law_13 I hv) hP hD hS hl step
    · refine lv_tableIn (off := 1128) (tgt := 1172) hx hb dL_law_44 (by decide) (by decide) (by decide) (by decide) ?_
      exact okL_law_14 l hfl C0 hE (Nat.le_of_eq hz.symm) hbA (K := Inv) hc9 hs9 (k_law_14 I hv) hP hD hS hl step
    · refine lv_tableIn (off := 1184) (tgt := 1228) hx hb dL_law_44 (by decide) (by decide) (by decide) (by decide) ?_
      exact okL_law_15 l hfl C0 hE (Nat.le_of_eq hz.symm) hbA (K := Inv) hc9 hs9 (k_law_15 I hv) hP hD hS hl step
    · refine lv_tableIn (off := 1240) (tgt := 1284) hx hb dL_law_44 (by decide) (by decide) (by decide) (by decide) ?_
      exact okL_law_16 l hfl C0 hE (Nat.le_of_eq hz.symm) hbA (K := Inv) hc9 hs9 (k_law_16 I hv) hP hD hS hl step
    · refine lv_tableIn (off := 1303) (tgt := 1347) hx hb dL_law_44 (by decide) (by decide) (by decide) (by decide) ?_
      exact okL_law_17 l hfl C0 hE (Nat.le_of_eq hz.symm) hbA (K := Inv) hc9 hs9 (k_law_17 I hv) hP hD hS hl step
    · refine lv_tableIn (off := 1359) (tgt := 1403) hx hb dL_law_44 (by decide) (by decide) (by decide) (by decide) ?_
      exact okL_law_18 l hfl C0 hE (Nat.le_of_eq hz.symm) hbA (K := Inv) hc9 hs9 (k_law_18 I hv) hP hD hS hl step
    · refine lv_tableIn (off := 1415) (tgt := 1459) hx hb dL_law_44 (by decide) (by decide) (by decide) (by decide) ?_
      exact okL_law_19 l hfl C0 hE (Nat.le_of_eq hz.symm) hbA (K := Inv) hc9 hs9 (k_law_19 I hv) hP hD hS hl step
    · refine lv_tableIn (off := 1471) (tgt := 1515) hx hb dL_law_44 (by decide) (by decide) (by decide) (by decide) ?_
      exact okL_law_20 l hfl C0 hE (Nat.le_of_eq hz.symm) hbA (K := Inv) hc9 hs9 (k_law_20 I hv) hP hD hS hl step
    · refine lv_tableIn (off := 1534) (tgt := 1578) hx hb dL_law_44 (by decide) (by decide) (by decide) (by decide) ?_
      exact okL_law_21 l hfl C0 hE (Nat.le_of_eq hz.symm) hbA (K := Inv) hc9 hs9 (k_law_21 I hv) hP hD hS hl step
    · refine lv_tableIn (off := 1590) (tgt := 1634) hx hb dL_law_44 (by decide) (by decide) (by decide) (by decide) ?_
      exact okL_law_22 l hfl C0 hE (Nat.le_of_eq hz.symm) hbA (K := Inv) hc9 hs9 (k_law_22 I hv) hP hD hS hl step
    · refine lv_tableIn (off := 1646) (tgt := 1690) hx hb dL_law_44 (by decide) (by decide) (by decide) (by decide) ?_
      exact okL_law_23 l hfl C0 hE (Nat.le_of_eq hz.symm) hbA (K := Inv) hc9 hs9 (k_law_23 I hv) hP hD hS hl step
    · refine lv_tableIn (off := 1702) (tgt := 1746) hx hb dL_law_44 (by decide) (by decide) (by decide) (by decide) ?_
      exact okL_law_24 l hfl C0 hE (Nat.le_of_eq hz.symm) hbA (K := Inv) hc9 hs9 (k_law_24 I hv) hP hD hS hl step
    · refine lv_tableIn (off := 1772) (tgt := 1816) hx hb dL_law_44 (by decide) (by decide) (by decide) (by decide) ?_
      exact okL_law_25 l hfl C0 hE (Nat.le_of_eq hz.symm) hbA (K := Inv) hc9 hs9 (k_law_25 I hv) hP hD hS hl step
    · refine lv_tableIn (off := 1842) (tgt := 1886) hx hb dL_law_44 (by decide) (by decide) (by decide) (by decide) ?_
      exact okL_law_26 l hfl C0 hE (Nat.le_of_eq hz.symm) hbA (K := Inv) hc9 hs9 (k_law_26 I hv) hP hD hS hl step
    · refine lv_tableIn (off := 1900) (tgt := 1944) hx hb dL_law_44 (by decide) (by decide) (by decide) (by decide) ?_
      exact okL_law_27 l hfl C0 hE (Nat.le_of_eq hz.symm) hbA (K := Inv) hc9 hs9 (k_law_27 I hv) hP hD hS hl step
    · refine lv_tableIn (off := 1958) (tgt := 2002) hx hb dL_law_44 (by decide) (by decide) (by decide) (by decide) ?_
      exact okL_law_28 l hfl C0 hE (Nat.le_of_eq hz.symm) hbA (K := Inv) hc9 hs9 (k_law_28 I hv) hP hD hS hl step
    · refine lv_tableIn (off := 2016) (tgt := 2060) hx hb dL_law_44 (by decide) (by decide) (by decide) (by decide) ?_
      exact okL_law_29 l hfl C0 hE (Nat.le_of_eq hz.symm) hbA (K := Inv) hc9 hs9 (k_law_29 I) hP hD hS hl step
    · refine lv_tableIn (off := 2029) (tgt := 2073) hx hb dL_law_44 (by decide) (by decide) (by decide) (by decide) ?_
      exact okL_law_30 l hfl C0 hE (Nat.le_of_eq hz.symm) hbA (K := Inv) hc9 hs9 (k_law_30 I) hP hD hS hl step
    · refine lv_tableIn (off := 2042) (tgt := 2086) hx hb dL_law_44 (by decide) (by decide) (by decide) (by decide) ?_
      exact okL_law_31 l hfl C0 hE (Nat.le_of_eq hz.symm) hbA (K := Inv) hc9 hs9 (k_law_31 I hv) hP hD hS hl step
    · refine lv_tableIn (off := 2098) (tgt := 2142) hx hb dL_law_44 (by decide) (by decide) (by decide) (by decide) ?_
      exact okL_law_32 l hfl C0 hE (Nat.le_of_eq hz.symm) hbA (K := Inv) hc9 hs9 (k_law_32 I hv) hP hD hS hl step
    · refine lv_tableIn (off := 2154) (tgt := 2198) hx hb dL_law_44 (by decide) (by decide) (by decide) (by decide) ?_
      exact okL_law_33 l hfl C0 hE (Nat.le_of_eq hz.symm) hbA (K := Inv) hc9 hs9 (k_law_33 I) hP hD hS hl step
    · refine lv_tableIn (off := 2167) (tgt := 2211) hx hb dL_law_44 (by decide) (by decide) (by decide) (by decide) ?_
      exact okL_law_34 l hfl C0 hE (Nat.le_of_eq hz.symm) hbA (K := Inv) hc9 hs9 (k_law_34 I) hP hD hS hl step
    · refine lv_tableIn (off := 2180) (tgt := 2224) hx hb dL_law_44 (by decide) (by decide) (by decide) (by decide) ?_
      exact okL_law_35 l hfl C0 hE (Nat.le_of_eq hz.symm) hbA (K := Inv) hc9 hs9 (k_law_35 I) hP hD hS hl step
    · refine lv_tableIn (off := 2193) (tgt := 2237) hx hb dL_law_44 (by decide) (by decide) (by decide) (by decide) ?_
      exact okL_law_36 l hfl C0 hE (Nat.le_of_eq hz.symm) hbA (K := Inv) hc9 hs9 (k_law_36 I) hP hD hS hl step
    · refine lv_tableIn (off := 2206) (tgt := 2250) hx hb dL_law_44 (by decide) (by decide) (by decide) (by decide) ?_
      exact okL_law_37 l hfl C0 hE (Nat.le_of_eq hz.symm) hbA (K := Inv) hc9 hs9 (k_law_37 I) hP hD hS hl step
    · refine lv_tableIn (off := 2219) (tgt := 2263) hx hb dL_law_44 (by decide) (by decide) (by decide) (by decide) ?_
      exact okL_law_38 l hfl C0 hE (Nat.le_of_eq hz.symm) hbA (K := Inv) hc9 hs9 (k_law_38 I) hP hD hS hl step
    · refine lv_tableIn (off := 2232) (tgt := 2276) hx hb dL_law_44 (by decide) (by decide) (by decide) (by decide) ?_
      exact okL_law_39 l hfl C0 hE (Nat.le_of_eq hz.symm) hbA (K := Inv) hc9 hs9 (k_law_39 I) hP hD hS hl step
    · refine lv_tableIn (off := 2297) (tgt := 2341) hx hb dL_law_44 (by decide) (by decide) (by decide) (by decide) ?_
      exact okL_law_40 l hfl C0 hE (Nat.le_of_eq hz.symm) hbA (K := Inv) hc9 hs9 (k_law_40 I) hP hD hS hl step
    · refine lv_tableIn (off := 2363) (tgt := 2407) hx hb dL_law_44 (by decide) (by decide) (by decide) (by decide) ?_
      exact okL_law_41 l hfl C0 hE (Nat.le_of_eq hz.symm) hbA (K := Inv) hc9 hs9 (k_law_41 I) hP hD hS hl step
    · refine lv_tableIn (off := 2376) (tgt := 2420) hx hb dL_law_44 (by decide) (by decide) (by decide) (by decide) ?_
      exact okL_law_42 l hfl C0 hE (Nat.le_of_eq hz.symm) hbA (K := Inv) hc9 hs9 (k_law_42 I hv) hP hD hS hl step
    · refine lv_tableIn (off := 2432) (tgt := 2476) hx hb dL_law_44 (by decide) (by decide) (by decide) (by decide) ?_
      exact okL_law_43 l hfl C0 hE (Nat.le_of_eq hz.symm) hbA (K := Inv) hc9 hs9 (k_law_43 I) hP hD hS hl step
    · refine lv_tableIn (off := 2445) (tgt := 2489) hx hb dL_law_44 (by decide) (by decide) (by decide) (by decide) ?_
      exact okL_law_44 l hfl C0 hE (Nat.le_of_eq hz.symm) hbA (K := Inv) hc9 hs9 (k_law_44 I hv) hP hD hS hl step
    · refine lv_tableIn (off := 2501) (tgt := 2545) hx hb dL_law_44 (by decide) (by decide) (by decide) (by decide) ?_
      exact okL_law_45 l hfl C0 hE (Nat.le_of_eq hz.symm) hbA (K := Inv) hc9 hs9 (k_law_45 I hv) hP hD hS hl step
    · refine lv_tableIn (off := 2559) (tgt := 2603) hx hb dL_law_44 (by decide) (by decide) (by decide) (by decide) ?_
      exact okL_law_46 l hfl C0 hE (Nat.le_of_eq hz.symm) hbA (K := Inv) hc9 hs9 (k_law_46 I) hP hD hS hl step
    · refine lv_tableIn (off := 2603) (tgt := 2647) hx hb dL_law_44 (by decide) (by decide) (by decide) (by decide) ?_
      exact okL_law_47 l hfl C0 hE (Nat.le_of_eq hz.symm) hbA (K := Inv) hc9 hs9 (k_law_47 I) hP hD hS hl step
    · refine lv_tableIn (off := 2647) (tgt := 2691) hx hb dL_law_44 (by decide) (by decide) (by decide) (by decide) ?_
      exact okL_law_48 l hfl C0 hE (Nat.le_of_eq hz.symm) hbA (K := Inv) hc9 hs9 (k_law_48 I) hP hD hS hl step
    · refine lv_tableIn (off := 2691) (tgt := 2735) hx hb dL_law_44 (by decide) (by decide) (by decide) (by decide) ?_
      exact okL_law_49 l hfl C0 hE (Nat.le_of_eq hz.symm) hbA (K := Inv) hc9 hs9 (k_law_49 I) hP hD hS hl step
    · refine lv_tableIn (off := 2735) (tgt := 2779) hx hb dL_law_44 (by decide) (by decide) (by decide) (by decide) ?_
      exact okL_law_50 l hfl C0 hE (Nat.le_of_eq hz.symm) hbA (K := Inv) hc9 hs9 (k_law_50 I) hP hD hS hl step
    · refine lv_tableIn (off := 2748) (tgt := 2792) hx hb dL_law_44 (by decide) (by decide) (by decide) (by decide) ?_
      exact okL_law_51 l hfl C0 hE (Nat.le_of_eq hz.symm) hbA (K := Inv) hc9 hs9 (k_law_51 I) hP hD hS hl step
