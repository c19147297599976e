def wpL_law_26 (K : GS → Prop) (L : Nat) (xs : Nat → Int32) (v5 : Int32) (G : GS) : Prop :=
  vp_in (v5 + 1) L ∧
  wpL_rate (fun (r3 : Int32) (G2 : GS) =>
  vp_in (v5 + 1) L ∧
    wpX9_rate (fun (r6 : Int32) (G5 : GS) =>
    wpX9_thrown (fun (r8 : Int32) (G7 : GS) =>
      if r8 = r3 then
        if r3 = 0 then
          vp_in 0 1 ∧
            if (lg_cmp (G7.2.2.1 (0 : Int32).toNatClampNeg) r6.toInt64) = 0 then
            K G7
          else
            False
        else
          K G7
      else
        False)  G5) (((xs (v5 + 1).toNatClampNeg).toUInt32 % 65536).toInt32) G2) (((xs (v5 + 1).toNatClampNeg).toUInt32 % 65536).toInt32) G
set_option maxHeartbeats 4000000 in
set_option maxRecDepth 100000 in
theorem okL_law_26 {p : Program} {e : Env} {s : State} {m : MethodId} {below : List Frame} {meth : Method} {c : Code} (l : Launch) (hfl : l.stackTraces = false) {b L : Nat} {xs : Nat → Int32} (C0 : lw_At p s m meth c b L xs) {X : Cx} (hE : Ev X s s.heap) (hz : (X.2.2.2.2) ≤ s.heap.size) (hbA : ¬ xA X b) {K : GS → Prop} {v5 : Int32} {G : GS} {H : Heap} {locs : List Loc} {ls : Array Slot} {cc0 ss0 : Nat} {Q : State → Prop} (hc9 : cc0 + 40 ≤ 603072) (hs9 : ss0 + 3000 ≤ 7211114) (hw : wpL_law_26 K L xs v5 G) (hP : va_P (xD X) vwCl (pool X G) H) (hD : va_D (xA X) (pool X G)) (hS : va_S (xA X) s.heap H locs) (hl : lv_has ls 9 [(0, .ref b), (1, .ref (xa X 165)), (2, .ref (xa X 189)), (3, .ref (xa X 197)), (4, .ref (xa X 198)), (5, .int v5)])
    (kk : ∀ (G : GS) (H : Heap) (locs : List Loc) (ls : Array Slot), K G → va_P (xD X) vwCl (pool X G) H → va_D (xA X) (pool X G) → va_S (xA X) s.heap H locs → lv_has ls 9 [(0, .ref b), (1, .ref (xa X 165)), (2, .ref (xa X 189)), (3, .ref (xa X 197)), (4, .ref (xa X 198)), (5, .int v5)] → W p l e room_1 s m #[Value.ref b] below meth c H locs (cc0 + 40) (ss0 + 3000) Q (F0 m 2836 ls [])) : W p l e room_1 s m #[Value.ref b] below meth c H locs cc0 ss0 Q (F0 m 1886 ls []) := by
  obtain ⟨hx, hb, hr, hml, hown, hts, hX, hbl, hlocks, hgv⟩ := id C0
  unfold wpL_law_26 at hw
  refine lv_aload_n hx hb dL_law_1886 rfl (lv_at hl 1 rfl) ?_
  refine lv_aload_n hx hb dL_law_1887 rfl (lv_at hl 0 rfl) ?_
  refine lv_iload hx hb dL_law_1888 (lv_at hl 5 rfl) ?_
  refine lv_iconst (v := 1) hx hb dL_law_1890 (by decide) ?_
  refine lv_iadd hx hb dL_law_1891 ?_
  obtain ⟨y1, hw⟩ := hw
  refine va_sld hx hb hX hbl hbA hS y1 dL_law_1892 ?_
  refine lv_i2c hx hb dL_law_1893 rfl ?_
  refine lv_aload_n hx hb dL_law_1894 rfl (lv_at hl 3 rfl) ?_
  refine call_i (run_SW (cc := cL_law) (As := [.ref (xa X 165), .int (((xs (v5 + 1).toNatClampNeg).toUInt32 % 65536).toInt32), .ref (xa X 197)]) (rest := []) hx hb hml hown hE hz (okL_rate X l hfl  hw) qw_1321 qw_1322 qw_73 qw_1323 (myL_rate).2 ⟨Nat.le_of_ble_eq_true rfl, Nat.le_of_ble_eq_true rfl⟩ hP hD hS rfl hl.1 rfl (Nat.le_of_ble_eq_true rfl) dL_law_1895 ⟨(by show _ ≤ 603072; omega), (by show _ ≤ 7211114; omega)⟩) hS (fun r3 G2 H locs hw hP hD hS => ?_)
  refine lv_istore (lv' := [(6, .int r3), (0, .ref b), (1, .ref (xa X 165)), (2, .ref (xa X 189)), (3, .ref (xa X 197)), (4, .ref (xa X 198)), (5, .int v5)]) hx hb dL_law_1898 hl (by decide) rfl (fun ls hl => ?_)
  refine lv_aload_n hx hb dL_law_1900 rfl (lv_at hl 3 rfl) ?_
  refine lv_aload_n hx hb dL_law_1901 rfl (lv_at hl 1 rfl) ?_
  refine lv_iload hx hb dL_law_1902 (lv_at hl 6 rfl) ?_
  refine lv_iconst (v := 1) hx hb dL_law_1904 (by decide) ?_
  refine lv_iadd hx hb dL_law_1905 ?_
  obtain ⟨y4, hw⟩ := hw
  refine va_sld hx hb hX hbl hbA hS y4 dL_law_1906 ?_
  refine lv_i2c hx hb dL_law_1907 rfl ?_
  refine call_i (run_V (cc := cL_law) (As := [.int (((xs (v5 + 1).toNatClampNeg).toUInt32 % 65536).toInt32)]) (rest := []) hx hb hml hown hE hz (okX9_rate X l hfl  hw) qw_1879 qw_1880 qw_1881 qw_86 qw_1882 (myX9_rate) ⟨Nat.le_of_ble_eq_true rfl, Nat.le_of_ble_eq_true rfl⟩ (rv_X9 hE hP rfl) hP hD hS rfl hl.1 rfl (Nat.le_of_ble_eq_true rfl) dL_law_1908 ⟨(by show _ ≤ 603072; omega), (by show _ ≤ 7211114; omega)⟩) hS (fun r6 G5 H locs hw hP hD hS => ?_)
  refine lv_istore (lv' := [(7, .int r6), (6, .int r3), (0, .ref b), (1, .ref (xa X 165)), (2, .ref (xa X 189)), (3, .ref (xa X 197)), (4, .ref (xa X 198)), (5, .int v5)]) hx hb dL_law_1911 hl (by decide) rfl (fun ls hl => ?_)
  refine lv_aload_n hx hb dL_law_1913 rfl (lv_at hl 4 rfl) ?_
  refine call_i (run_V (cc := cL_law) (As := []) (rest := []) hx hb hml hown hE hz (okX9_thrown X l hfl  hw) qw_1560 qw_1561 qw_1562 qw_86 qw_1563 (myX9_thrown) ⟨Nat.le_of_ble_eq_true rfl, Nat.le_of_ble_eq_true rfl⟩ (rv_X9 hE hP rfl) hP hD hS rfl hl.1 rfl (Nat.le_of_ble_eq_true rfl) dL_law_1914 ⟨(by show _ ≤ 603072; omega), (by show _ ≤ 7211114; omega)⟩) hS (fun r8 G7 H locs hw hP hD hS => ?_)
  refine lv_iload hx hb dL_law_1917 (lv_at hl 1 rfl) ?_
  refine lv_icmp_eq (tgt := 1924) hx hb dL_law_1919 (by decide) (fun c9 => ?_) (fun c9 => ?_)
  · replace hw := ite_t hw c9
    refine lv_iload hx hb dL_law_1924 (lv_at hl 1 rfl) ?_
    refine lv_if_ne (tgt := 1941) hx hb dL_law_1926 (by decide) (fun c10 => ?_) (fun c10 => ?_)
    · replace hw := ite_f hw c10
      refine lv_goto (tgt := 2836) hx hb dL_law_1941 (by decide) ?_
      refine W.widen (k := cc0 + 40) (n := ss0 + 3000) (by omega) (by omega) ?_
      exact kk G7 _ _ _ hw hP hD hS (lv_sub hl [2, 3, 4, 5, 6, 7] rfl)
    · replace hw := ite_t hw c10
      refine lv_aload_n hx hb dL_law_1929 rfl (lv_at hl 5 rfl) ?_
      refine lv_iconst (v := 0) hx hb dL_law_1930 (by decide) ?_
      obtain ⟨y11, hw⟩ := hw
      refine lald_14 hx hb hE hP y11 dL_law_1931 ?_
      refine lv_iload hx hb dL_law_1932 (lv_at hl 0 rfl) ?_
      refine lv_i2l hx hb dL_law_1934 rfl ?_
      refine W.lcmp hx hb dL_law_1935 ?_
      refine lv_if_eq (tgt := 1941) hx hb dL_law_1936 (by decide) (fun c12 => ?_) (fun c12 => ?_)
      · replace hw := ite_t hw c12
        refine lv_goto (tgt := 2836) hx hb dL_law_1941 (by decide) ?_
        refine W.widen (k := cc0 + 40) (n := ss0 + 3000) (by omega) (by omega) ?_
        exact kk G7 _ _ _ hw hP hD hS (lv_sub hl [2, 3, 4, 5, 6, 7] rfl)
      · replace hw := ite_f hw c12
        exact hw.elim
  · replace hw := ite_f hw c9
    exact hw.elim
def wpL_law_27 (K : GS → Prop) (L : Nat) (xs : Nat → Int32) (v5 : Int32) (G : GS) : Prop :=
  vp_in (v5 + 1) L ∧
  wpL_totalFlies (fun (r3 : Int32) (G2 : GS) =>
  vp_in (v5 + 1) L ∧
    wpX9_totalFlies (fun (r6 : Int32) (G5 : GS) =>
    wpX9_thrown (fun (r8 : Int32) (G7 : GS) =>
      if r8 = r3 then
        if r3 = 0 then
          vp_in 0 1 ∧
            if (lg_cmp (G7.2.2.1 (0 : Int32).toNatClampNeg) r6.toInt64) = 0 then
            K G7
          else
            False
        else
          K G7
      else
        False)  G5) (((xs (v5 + 1).toNatClampNeg).toUInt32 % 65536).toInt32) G2) (((xs (v5 + 1).toNatClampNeg).toUInt32 % 65536).toInt32) G
set_option maxHeartbeats 4000000 in
set_option maxRecDepth 100000 in
theorem okL_law_27 {p : Program} {e : Env} {s : State} {m : MethodId} {below : List Frame} {meth : Method} {c : Code} (l : Launch) (hfl : l.stackTraces = false) {b L : Nat} {xs : Nat → Int32} (C0 : lw_At p s m meth c b L xs) {X : Cx} (hE : Ev X s s.heap) (hz : (X.2.2.2.2) ≤ s.heap.size) (hbA : ¬ xA X b) {K : GS → Prop} {v5 : Int32} {G : GS} {H : Heap} {locs : List Loc} {ls : Array Slot} {cc0 ss0 : Nat} {Q : State → Prop} (hc9 : cc0 + 40 ≤ 603072) (hs9 : ss0 + 3000 ≤ 7211114) (hw : wpL_law_27 K L xs v5 G) (hP : va_P (xD X) vwCl (pool X G) H) (hD : va_D (xA X) (pool X G)) (hS : va_S (xA X) s.heap H locs) (hl : lv_has ls 9 [(0, .ref b), (1, .ref (xa X 165)), (2, .ref (xa X 189)), (3, .ref (xa X 197)), (4, .ref (xa X 198)), (5, .int v5)])
    (kk : ∀ (G : GS) (H : Heap) (locs : List Loc) (ls : Array Slot), K G → va_P (xD X) vwCl (pool X G) H → va_D (xA X) (pool X G) → va_S (xA X) s.heap H locs → lv_has ls 9 [(0, .ref b), (1, .ref (xa X 165)), (2, .ref (xa X 189)), (3, .ref (xa X 197)), (4, .ref (xa X 198)), (5, .int v5)] → W p l e room_1 s m #[Value.ref b] below meth c H locs (cc0 + 40) (ss0 + 3000) Q (F0 m 2836 ls [])) : W p l e room_1 s m #[Value.ref b] below meth c H locs cc0 ss0 Q (F0 m 1944 ls []) := by
  obtain ⟨hx, hb, hr, hml, hown, hts, hX, hbl, hlocks, hgv⟩ := id C0
  unfold wpL_law_27 at hw
  refine lv_aload_n hx hb dL_law_1944 rfl (lv_at hl 1 rfl) ?_
  refine lv_aload_n hx hb dL_law_1945 rfl (lv_at hl 0 rfl) ?_
  refine lv_iload hx hb dL_law_1946 (lv_at hl 5 rfl) ?_
  refine lv_iconst (v := 1) hx hb dL_law_1948 (by decide) ?_
  refine lv_iadd hx hb dL_law_1949 ?_
  obtain ⟨y1, hw⟩ := hw
  refine va_sld hx hb hX hbl hbA hS y1 dL_law_1950 ?_
  refine lv_i2c hx hb dL_law_1951 rfl ?_
  refine lv_aload_n hx hb dL_law_1952 rfl (lv_at hl 3 rfl) ?_
  refine call_i (run_SW (cc := cL_law) (As := [.ref (xa X 165), .int (((xs (v5 + 1).toNatClampNeg).toUInt32 % 65536).toInt32), .ref (xa X 197)]) (rest := []) hx hb hml hown hE hz (okL_totalFlies X l hfl  hw) qw_1328 qw_1329 qw_73 qw_1330 (myL_totalFlies).2 ⟨Nat.le_of_ble_eq_true rfl, Nat.le_of_ble_eq_true rfl⟩ hP hD hS rfl hl.1 rfl (Nat.le_of_ble_eq_true rfl) dL_law_1953 ⟨(by show _ ≤ 603072; omega), (by show _ ≤ 7211114; omega)⟩) hS (fun r3 G2 H locs hw hP hD hS => ?_)
  refine lv_istore (lv' := [(6, .int r3), (0, .ref b), (1, .ref (xa X 165)), (2, .ref (xa X 189)), (3, .ref (xa X 197)), (4, .ref (xa X 198)), (5, .int v5)]) hx hb dL_law_1956 hl (by decide) rfl (fun ls hl => ?_)
  refine lv_aload_n hx hb dL_law_1958 rfl (lv_at hl 3 rfl) ?_
  refine lv_aload_n hx hb dL_law_1959 rfl (lv_at hl 1 rfl) ?_
  refine lv_iload hx hb dL_law_1960 (lv_at hl 6 rfl) ?_
  refine lv_iconst (v := 1) hx hb dL_law_1962 (by decide) ?_
  refine lv_iadd hx hb dL_law_1963 ?_
  obtain ⟨y4, hw⟩ := hw
  refine va_sld hx hb hX hbl hbA hS y4 dL_law_1964 ?_
  refine lv_i2c hx hb dL_law_1965 rfl ?_
  refine call_i (run_V (cc := cL_law) (As := [.int (((xs (v5 + 1).toNatClampNeg).toUInt32 % 65536).toInt32)]) (rest := []) hx hb hml hown hE hz (okX9_totalFlies X l hfl  hw) qw_1883 qw_1884 qw_1885 qw_86 qw_1886 (myX9_totalFlies) ⟨Nat.le_of_ble_eq_true rfl, Nat.le_of_ble_eq_true rfl⟩ (rv_X9 hE hP rfl) hP hD hS rfl hl.1 rfl (Nat.le_of_ble_eq_true rfl) dL_law_1966 ⟨(by show _ ≤ 603072; omega), (by show _ ≤ 7211114; omega)⟩) hS (fun r6 G5 H locs hw hP hD hS => ?_)
  refine lv_istore (lv' := [(7, .int r6), (6, .int r3), (0, .ref b), (1, .ref (xa X 165)), (2, .ref (xa X 189)), (3, .ref (xa X 197)), (4, .ref (xa X 198)), (5, .int v5)]) hx hb dL_law_1969 hl (by decide) rfl (fun ls hl => ?_)
  refine lv_aload_n hx hb dL_law_1971 rfl (lv_at hl 4 rfl) ?_
  refine call_i (run_V (cc := cL_law) (As := []) (rest := []) hx hb hml hown hE hz (okX9_thrown X l hfl  hw) qw_1560 qw_1561 qw_1562 qw_86 qw_1563 (myX9_thrown) ⟨Nat.le_of_ble_eq_true rfl, Nat.le_of_ble_eq_true rfl⟩ (rv_X9 hE hP rfl) hP hD hS rfl hl.1 rfl (Nat.le_of_ble_eq_true rfl) dL_law_1972 ⟨(by show _ ≤ 603072; omega), (by show _ ≤ 7211114; omega)⟩) hS (fun r8 G7 H locs hw hP hD hS => ?_)
  refine lv_iload hx hb dL_law_1975 (lv_at hl 1 rfl) ?_
  refine lv_icmp_eq (tgt := 1982) hx hb dL_law_1977 (by decide) (fun c9 => ?_) (fun c9 => ?_)
  · replace hw := ite_t hw c9
    refine lv_iload hx hb dL_law_1982 (lv_at hl 1 rfl) ?_
    refine lv_if_ne (tgt := 1999) hx hb dL_law_1984 (by decide) (fun c10 => ?_) (fun c10 => ?_)
    · replace hw := ite_f hw c10
      refine lv_goto (tgt := 2836) hx hb dL_law_1999 (by decide) ?_
      refine W.widen (k := cc0 + 40) (n := ss0 + 3000) (by omega) (by omega) ?_
      exact kk G7 _ _ _ hw hP hD hS (lv_sub hl [2, 3, 4, 5, 6, 7] rfl)
    · replace hw := ite_t hw c10
      refine lv_aload_n hx hb dL_law_1987 rfl (lv_at hl 5 rfl) ?_
      refine lv_iconst (v := 0) hx hb dL_law_1988 (by decide) ?_
      obtain ⟨y11, hw⟩ := hw
      refine lald_14 hx hb hE hP y11 dL_law_1989 ?_
      refine lv_iload hx hb dL_law_1990 (lv_at hl 0 rfl) ?_
      refine lv_i2l hx hb dL_law_1992 rfl ?_
      refine W.lcmp hx hb dL_law_1993 ?_
      refine lv_if_eq (tgt := 1999) hx hb dL_law_1994 (by decide) (fun c12 => ?_) (fun c12 => ?_)
      · replace hw := ite_t hw c12
        refine lv_goto (tgt := 2836) hx hb dL_law_1999 (by decide) ?_
        refine W.widen (k := cc0 + 40) (n := ss0 + 3000) (by omega) (by omega) ?_
        exact kk G7 _ _ _ hw hP hD hS (lv_sub hl [2, 3, 4, 5, 6, 7] rfl)
      · replace hw := ite_f hw c12
        exact hw.elim
  · replace hw := ite_f hw c9
    exact hw.elim
def wpL_law_28 (K : GS → Prop) (L : Nat) (xs : Nat → Int32) (v5 : Int32) (G : GS) : Prop :=
  vp_in (v5 + 1) L ∧
  wpL_totalFliesByAccounts (fun (r3 : Int32) (G2 : GS) =>
  vp_in (v5 + 1) L ∧
    wpX9_totalFliesByAccounts (fun (r6 : Int32) (G5 : GS) =>
    wpX9_thrown (fun (r8 : Int32) (G7 : GS) =>
      if r8 = r3 then
        if r3 = 0 then
          vp_in 0 1 ∧
            if (lg_cmp (G7.2.2.1 (0 : Int32).toNatClampNeg) r6.toInt64) = 0 then
            K G7
          else
            False
        else
          K G7
      else
        False)  G5) (((xs (v5 + 1).toNatClampNeg).toUInt32 % 65536).toInt32) G2) (((xs (v5 + 1).toNatClampNeg).toUInt32 % 65536).toInt32) G
set_option maxHeartbeats 4000000 in
set_option maxRecDepth 100000 in
theorem okL_law_28 {p : Program} {e : Env} {s : State} {m : MethodId} {below : List Frame} {meth : Method} {c : Code} (l : Launch) (hfl : l.stackTraces = false) {b L : Nat} {xs : Nat → Int32} (C0 : lw_At p s m meth c b L xs) {X : Cx} (hE : Ev X s s.heap) (hz : (X.2.2.2.2) ≤ s.heap.size) (hbA : ¬ xA X b) {K : GS → Prop} {v5 : Int32} {G : GS} {H : Heap} {locs : List Loc} {ls : Array Slot} {cc0 ss0 : Nat} {Q : State → Prop} (hc9 : cc0 + 40 ≤ 603072) (hs9 : ss0 + 3000 ≤ 7211114) (hw : wpL_law_28 K L xs v5 G) (hP : va_P (xD X) vwCl (pool X G) H) (hD : va_D (xA X) (pool X G)) (hS : va_S (xA X) s.heap H locs) (hl : lv_has ls 9 [(0, .ref b), (1, .ref (xa X 165)), (2, .ref (xa X 189)), (3, .ref (xa X 197)), (4, .ref (xa X 198)), (5, .int v5)])
    (kk : ∀ (G : GS) (H : Heap) (locs : List Loc) (ls : Array Slot), K G → va_P (xD X) vwCl (pool X G) H → va_D (xA X) (pool X G) → va_S (xA X) s.heap H locs → lv_has ls 9 [(0, .ref b), (1, .ref (xa X 165)), (2, .ref (xa X 189)), (3, .ref (xa X 197)), (4, .ref (xa X 198)), (5, .int v5)] → W p l e room_1 s m #[Value.ref b] below meth c H locs (cc0 + 40) (ss0 + 3000) Q (F0 m 2836 ls [])) : W p l e room_1 s m #[Value.ref b] below meth c H locs cc0 ss0 Q (F0 m 2002 ls []) := by
  obtain ⟨hx, hb, hr, hml, hown, hts, hX, hbl, hlocks, hgv⟩ := id C0
  unfold wpL_law_28 at hw
  refine lv_aload_n hx hb dL_law_2002 rfl (lv_at hl 1 rfl) ?_
  refine lv_aload_n hx hb dL_law_2003 rfl (lv_at hl 0 rfl) ?_
  refine lv_iload hx hb dL_law_2004 (lv_at hl 5 rfl) ?_
  refine lv_iconst (v := 1) hx hb dL_law_2006 (by decide) ?_
  refine lv_iadd hx hb dL_law_2007 ?_
  obtain ⟨y1, hw⟩ := hw
  refine va_sld hx hb hX hbl hbA hS y1 dL_law_2008 ?_
  refine lv_i2c hx hb dL_law_2009 rfl ?_
  refine lv_aload_n hx hb dL_law_2010 rfl (lv_at hl 3 rfl) ?_
  refine call_i (run_SW (cc := cL_law) (As := [.ref (xa X 165), .int (((xs (v5 + 1).toNatClampNeg).toUInt32 % 65536).toInt32), .ref (xa X 197)]) (rest := []) hx hb hml hown hE hz (okL_totalFliesByAccounts X l hfl  hw) qw_1336 qw_1337 qw_73 qw_1338 (myL_totalFliesByAccounts).2 ⟨Nat.le_of_ble_eq_true rfl, Nat.le_of_ble_eq_true rfl⟩ hP hD hS rfl hl.1 rfl (Nat.le_of_ble_eq_true rfl) dL_law_2011 ⟨(by show _ ≤ 603072; omega), (by show _ ≤ 7211114; omega)⟩) hS (fun r3 G2 H locs hw hP hD hS => ?_)
  refine lv_istore (lv' := [(6, .int r3), (0, .ref b), (1, .ref (xa X 165)), (2, .ref (xa X 189)), (3, .ref (xa X 197)), (4, .ref (xa X 198)), (5, .int v5)]) hx hb dL_law_2014 hl (by decide) rfl (fun ls hl => ?_)
  refine lv_aload_n hx hb dL_law_2016 rfl (lv_at hl 3 rfl) ?_
  refine lv_aload_n hx hb dL_law_2017 rfl (lv_at hl 1 rfl) ?_
  refine lv_iload hx hb dL_law_2018 (lv_at hl 6 rfl) ?_
  refine lv_iconst (v := 1) hx hb dL_law_2020 (by decide) ?_
  refine lv_iadd hx hb dL_law_2021 ?_
  obtain ⟨y4, hw⟩ := hw
  refine va_sld hx hb hX hbl hbA hS y4 dL_law_2022 ?_
  refine lv_i2c hx hb dL_law_2023 rfl ?_
  refine call_i (run_V (cc := cL_law) (As := [.int (((xs (v5 + 1).toNatClampNeg).toUInt32 % 65536).toInt32)]) (rest := []) hx hb hml hown hE hz (okX9_totalFliesByAccounts X l hfl  hw) qw_1891 qw_1892 qw_1893 qw_86 qw_1894 (myX9_totalFliesByAccounts) ⟨Nat.le_of_ble_eq_true rfl, Nat.le_of_ble_eq_true rfl⟩ (rv_X9 hE hP rfl) hP hD hS rfl hl.1 rfl (Nat.le_of_ble_eq_true rfl) dL_law_2024 ⟨(by show _ ≤ 603072; omega), (by show _ ≤ 7211114; omega)⟩) hS (fun r6 G5 H locs hw hP hD hS => ?_)
  refine lv_istore (lv' := [(7, .int r6), (6, .int r3), (0, .ref b), (1, .ref (xa X 165)), (2, .ref (xa X 189)), (3, .ref (xa X 197)), (4, .ref (xa X 198)), (5, .int v5)]) hx hb dL_law_2027 hl (by decide) rfl (fun ls hl => ?_)
  refine lv_aload_n hx hb dL_law_2029 rfl (lv_at hl 4 rfl) ?_
  refine call_i (run_V (cc := cL_law) (As := []) (rest := []) hx hb hml hown hE hz (okX9_thrown X l hfl  hw) qw_1560 qw_1561 qw_1562 qw_86 qw_1563 (myX9_thrown) ⟨Nat.le_of_ble_eq_true rfl, Nat.le_of_ble_eq_true rfl⟩ (rv_X9 hE hP rfl) hP hD hS rfl hl.1 rfl (Nat.le_of_ble_eq_true rfl) dL_law_2030 ⟨(by show _ ≤ 603072; omega), (by show _ ≤ 7211114; omega)⟩) hS (fun r8 G7 H locs hw hP hD hS => ?_)
  refine lv_iload hx hb dL_law_2033 (lv_at hl 1 rfl) ?_
  refine lv_icmp_eq (tgt := 2040) hx hb dL_law_2035 (by decide) (fun c9 => ?_) (fun c9 => ?_)
  · replace hw := ite_t hw c9
    refine lv_iload hx hb dL_law_2040 (lv_at hl 1 rfl) ?_
    refine lv_if_ne (tgt := 2057) hx hb dL_law_2042 (by decide) (fun c10 => ?_) (fun c10 => ?_)
    · replace hw := ite_f hw c10
      refine lv_goto (tgt := 2836) hx hb dL_law_2057 (by decide) ?_
      refine W.widen (k := cc0 + 40) (n := ss0 + 3000) (by omega) (by omega) ?_
      exact kk G7 _ _ _ hw hP hD hS (lv_sub hl [2, 3, 4, 5, 6, 7] rfl)
    · replace hw := ite_t hw c10
      refine lv_aload_n hx hb dL_law_2045 rfl (lv_at hl 5 rfl) ?_
      refine lv_iconst (v := 0) hx hb dL_law_2046 (by decide) ?_
      obtain ⟨y11, hw⟩ := hw
      refine lald_14 hx hb hE hP y11 dL_law_2047 ?_
      refine lv_iload hx hb dL_law_2048 (lv_at hl 0 rfl) ?_
      refine lv_i2l hx hb dL_law_2050 rfl ?_
      refine W.lcmp hx hb dL_law_2051 ?_
      refine lv_if_eq (tgt := 2057) hx hb dL_law_2052 (by decide) (fun c12 => ?_) (fun c12 => ?_)
      · replace hw := ite_t hw c12
        refine lv_goto (tgt := 2836) hx hb dL_law_2057 (by decide) ?_
        refine W.widen (k := cc0 + 40) (n := ss0 + 3000) (by omega) (by omega) ?_
        exact kk G7 _ _ _ hw hP hD hS (lv_sub hl [2, 3, 4, 5, 6, 7] rfl)
      · replace hw := ite_f hw c12
        exact hw.elim
  · replace hw := ite_f hw c9
    exact hw.elim
def wpL_law_29 (K : GS → Prop) (L : Nat) (xs : Nat → Int32) (v5 : Int32) (G : GS) : Prop :=
  wpX8_totalValue (fun (r2 : Int32) (G1 : GS) =>
  wpX9_totalValue (fun (r4 : Int32) (G3 : GS) =>
    if r2 = r4 then
      K G3
    else
      False)  G1)  G
set_option maxHeartbeats 4000000 in
set_option maxRecDepth 100000 in
theorem okL_law_29 {p : Program} {e : Env} {s : State} {m : MethodId} {below : List Frame} {meth : Method} {c : Code} (l : Launch) (hfl : l.stackTraces = false) {b L : Nat} {xs : Nat → Int32} (C0 : lw_At p s m meth c b L xs) {X : Cx} (hE : Ev X s s.heap) (hz : (X.2.2.2.2) ≤ s.heap.size) (hbA : ¬ xA X b) {K : GS → Prop} {v5 : Int32} {G : GS} {H : Heap} {locs : List Loc} {ls : Array Slot} {cc0 ss0 : Nat} {Q : State → Prop} (hc9 : cc0 + 40 ≤ 603072) (hs9 : ss0 + 3000 ≤ 7211114) (hw : wpL_law_29 K L xs v5 G) (hP : va_P (xD X) vwCl (pool X G) H) (hD : va_D (xA X) (pool X G)) (hS : va_S (xA X) s.heap H locs) (hl : lv_has ls 9 [(0, .ref b), (1, .ref (xa X 165)), (2, .ref (xa X 189)), (3, .ref (xa X 197)), (4, .ref (xa X 198)), (5, .int v5)])
    (kk : ∀ (G : GS) (H : Heap) (locs : List Loc) (ls : Array Slot), K G → va_P (xD X) vwCl (pool X G) H → va_D (xA X) (pool X G) → va_S (xA X) s.heap H locs → lv_has ls 9 [(0, .ref b), (1, .ref (xa X 165)), (2, .ref (xa X 189)), (3, .ref (xa X 197)), (4, .ref (xa X 198)), (5, .int v5)] → W p l e room_1 s m #[Value.ref b] below meth c H locs (cc0 + 40) (ss0 + 3000) Q (F0 m 2836 ls [])) : W p l e room_1 s m #[Value.ref b] below meth c H locs cc0 ss0 Q (F0 m 2060 ls []) := by
  obtain ⟨hx, hb, hr, hml, hown, hts, hX, hbl, hlocks, hgv⟩ := id C0
  unfold wpL_law_29 at hw
  refine lv_aload_n hx hb dL_law_2060 rfl (lv_at hl 1 rfl) ?_
  refine call_i (run_V (cc := cL_law) (As := []) (rest := []) hx hb hml hown hE hz (okX8_totalValue X l hfl  hw) qw_350 qw_351 qw_352 qw_74 qw_353 (myX8_totalValue) ⟨Nat.le_of_ble_eq_true rfl, Nat.le_of_ble_eq_true rfl⟩ (rv_X8 hE hP rfl) hP hD hS rfl hl.1 rfl (Nat.le_of_ble_eq_true rfl) dL_law_2061 ⟨(by show _ ≤ 603072; omega), (by show _ ≤ 7211114; omega)⟩) hS (fun r2 G1 H locs hw hP hD hS => ?_)
  refine lv_aload_n hx hb dL_law_2064 rfl (lv_at hl 2 rfl) ?_
  refine call_i (run_V (cc := cL_law) (As := []) (rest := [.int r2]) hx hb hml hown hE hz (okX9_totalValue X l hfl  hw) qw_1895 qw_1896 qw_1897 qw_86 qw_1898 (myX9_totalValue) ⟨Nat.le_of_ble_eq_true rfl, Nat.le_of_ble_eq_true rfl⟩ (rv_X9 hE hP rfl) hP hD hS rfl hl.1 rfl (Nat.le_of_ble_eq_true rfl) dL_law_2065 ⟨(by show _ ≤ 603072; omega), (by show _ ≤ 7211114; omega)⟩) hS (fun r4 G3 H locs hw hP hD hS => ?_)
  refine lv_icmp_eq (tgt := 2836) hx hb dL_law_2068 (by decide) (fun c5 => ?_) (fun c5 => ?_)
  · replace hw := ite_t hw c5
    refine W.widen (k := cc0 + 40) (n := ss0 + 3000) (by omega) (by omega) ?_
    exact kk G3 _ _ _ hw hP hD hS (lv_sub hl [0, 1, 2, 3, 4, 5] rfl)
  · replace hw := ite_f hw c5
    exact hw.elim
def wpL_law_30 (K : GS → Prop) (L : Nat) (xs : Nat → Int32) (v5 : Int32) (G : GS) : Prop :=
  wpX8_totalValueByKinds (fun (r2 : Int32) (G1 : GS) =>
  wpX9_totalValueByKinds (fun (r4 : Int32) (G3 : GS) =>
    if r2 = r4 then
      K G3
    else
      False)  G1)  G
set_option maxHeartbeats 4000000 in
set_option maxRecDepth 100000 in
theorem okL_law_30 {p : Program} {e : Env} {s : State} {m : MethodId} {below : List Frame} {meth : Method} {c : Code} (l : Launch) (hfl : l.stackTraces = false) {b L : Nat} {xs : Nat → Int32} (C0 : lw_At p s m meth c b L xs) {X : Cx} (hE : Ev X s s.heap) (hz : (X.2.2.2.2) ≤ s.heap.size) (hbA : ¬ xA X b) {K : GS → Prop} {v5 : Int32} {G : GS} {H : Heap} {locs : List Loc} {ls : Array Slot} {cc0 ss0 : Nat} {Q : State → Prop} (hc9 : cc0 + 40 ≤ 603072) (hs9 : ss0 + 3000 ≤ 7211114) (hw : wpL_law_30 K L xs v5 G) (hP : va_P (xD X) vwCl (pool X G) H) (hD : va_D (xA X) (pool X G)) (hS : va_S (xA X) s.heap H locs) (hl : lv_has ls 9 [(0, .ref b), (1, .ref (xa X 165)), (2, .ref (xa X 189)), (3, .ref (xa X 197)), (4, .ref (xa X 198)), (5, .int v5)])
    (kk : ∀ (G : GS) (H : Heap) (locs : List Loc) (ls : Array Slot), K G → va_P (xD X) vwCl (pool X G) H → va_D (xA X) (pool X G) → va_S (xA X) s.heap H locs → lv_has ls 9 [(0, .ref b), (1, .ref (xa X 165)), (2, .ref (xa X 189)), (3, .ref (xa X 197)), (4, .ref (xa X 198)), (5, .int v5)] → W p l e room_1 s m #[Value.ref b] below meth c H locs (cc0 + 40) (ss0 + 3000) Q (F0 m 2836 ls [])) : W p l e room_1 s m #[Value.ref b] below meth c H locs cc0 ss0 Q (F0 m 2073 ls []) := by
  obtain ⟨hx, hb, hr, hml, hown, hts, hX, hbl, hlocks, hgv⟩ := id C0
  unfold wpL_law_30 at hw
  refine lv_aload_n hx hb dL_law_2073 rfl (lv_at hl 1 rfl) ?_
  refine call_i (run_V (cc := cL_law) (As := []) (rest := []) hx hb hml hown hE hz (okX8_totalValueByKinds X l hfl  hw) qw_362 qw_363 qw_364 qw_74 qw_365 (myX8_totalValueByKinds) ⟨Nat.le_of_ble_eq_true rfl, Nat.le_of_ble_eq_true rfl⟩ (rv_X8 hE hP rfl) hP hD hS rfl hl.1 rfl (Nat.le_of_ble_eq_true rfl) dL_law_2074 ⟨(by show _ ≤ 603072; omega), (by show _ ≤ 7211114; omega)⟩) hS (fun r2 G1 H locs hw hP hD hS => ?_)
  refine lv_aload_n hx hb dL_law_2077 rfl (lv_at hl 2 rfl) ?_
  refine call_i (run_V (cc := cL_law) (As := []) (rest := [.int r2]) hx hb hml hown hE hz (okX9_totalValueByKinds X l hfl  hw) qw_1903 qw_1904 qw_1905 qw_86 qw_1906 (myX9_totalValueByKinds) ⟨Nat.le_of_ble_eq_true rfl, Nat.le_of_ble_eq_true rfl⟩ (rv_X9 hE hP rfl) hP hD hS rfl hl.1 rfl (Nat.le_of_ble_eq_true rfl) dL_law_2078 ⟨(by show _ ≤ 603072; omega), (by show _ ≤ 7211114; omega)⟩) hS (fun r4 G3 H locs hw hP hD hS => ?_)
  refine lv_icmp_eq (tgt := 2836) hx hb dL_law_2081 (by decide) (fun c5 => ?_) (fun c5 => ?_)
  · replace hw := ite_t hw c5
    refine W.widen (k := cc0 + 40) (n := ss0 + 3000) (by omega) (by omega) ?_
    exact kk G3 _ _ _ hw hP hD hS (lv_sub hl [0, 1, 2, 3, 4, 5] rfl)
  · replace hw := ite_f hw c5
    exact hw.elim
def wpL_law_31 (K : GS → Prop) (L : Nat) (xs : Nat → Int32) (v5 : Int32) (G : GS) : Prop :=
  vp_in (v5 + 1) L ∧
  wpL_vaultByValue (fun (r3 : Int32) (G2 : GS) =>
  vp_in (v5 + 1) L ∧
    wpX9_vaultByValue (fun (r6 : Int32) (G5 : GS) =>
    wpX9_thrown (fun (r8 : Int32) (G7 : GS) =>
      if r8 = r3 then
        if r3 = 0 then
          vp_in 0 1 ∧
            if (lg_cmp (G7.2.2.1 (0 : Int32).toNatClampNeg) r6.toInt64) = 0 then
            K G7
          else
            False
        else
          K G7
      else
        False)  G5) (xs (v5 + 1).toNatClampNeg) G2) (xs (v5 + 1).toNatClampNeg) G
set_option maxHeartbeats 4000000 in
set_option maxRecDepth 100000 in
theorem okL_law_31 {p : Program} {e : Env} {s : State} {m : MethodId} {below : List Frame} {meth : Method} {c : Code} (l : Launch) (hfl : l.stackTraces = false) {b L : Nat} {xs : Nat → Int32} (C0 : lw_At p s m meth c b L xs) {X : Cx} (hE : Ev X s s.heap) (hz : (X.2.2.2.2) ≤ s.heap.size) (hbA : ¬ xA X b) {K : GS → Prop} {v5 : Int32} {G : GS} {H : Heap} {locs : List Loc} {ls : Array Slot} {cc0 ss0 : Nat} {Q : State → Prop} (hc9 : cc0 + 40 ≤ 603072) (hs9 : ss0 + 3000 ≤ 7211114) (hw : wpL_law_31 K L xs v5 G) (hP : va_P (xD X) vwCl (pool X G) H) (hD : va_D (xA X) (pool X G)) (hS : va_S (xA X) s.heap H locs) (hl : lv_has ls 9 [(0, .ref b), (1, .ref (xa X 165)), (2, .ref (xa X 189)), (3, .ref (xa X 197)), (4, .ref (xa X 198)), (5, .int v5)])
    (kk : ∀ (G : GS) (H : Heap) (locs : List Loc) (ls : Array Slot), K G → va_P (xD X) vwCl (pool X G) H → va_D (xA X) (pool X G) → va_S (xA X) s.heap H locs → lv_has ls 9 [(0, .ref b), (1, .ref (xa X 165)), (2, .ref (xa X 189)), (3, .ref (xa X 197)), (4, .ref (xa X 198)), (5, .int v5)] → W p l e room_1 s m #[Value.ref b] below meth c H locs (cc0 + 40) (ss0 + 3000) Q (F0 m 2836 ls [])) : W p l e room_1 s m #[Value.ref b] below meth c H locs cc0 ss0 Q (F0 m 2086 ls []) := by
  obtain ⟨hx, hb, hr, hml, hown, hts, hX, hbl, hlocks, hgv⟩ := id C0
  unfold wpL_law_31 at hw
  refine lv_aload_n hx hb dL_law_2086 rfl (lv_at hl 1 rfl) ?_
  refine lv_aload_n hx hb dL_law_2087 rfl (lv_at hl 0 rfl) ?_
  refine lv_iload hx hb dL_law_2088 (lv_at hl 5 rfl) ?_
  refine lv_iconst (v := 1) hx hb dL_law_2090 (by decide) ?_
  refine lv_iadd hx hb dL_law_2091 ?_
  obtain ⟨y1, hw⟩ := hw
  refine va_sld hx hb hX hbl hbA hS y1 dL_law_2092 ?_
  refine lv_aload_n hx hb dL_law_2093 rfl (lv_at hl 3 rfl) ?_
  refine call_i (run_SW (cc := cL_law) (As := [.ref (xa X 165), .int (xs (v5 + 1).toNatClampNeg), .ref (xa X 197)]) (rest := []) hx hb hml hown hE hz (okL_vaultByValue X l hfl  hw) qw_1344 qw_1345 qw_73 qw_1346 (myL_vaultByValue).2 ⟨Nat.le_of_ble_eq_true rfl, Nat.le_of_ble_eq_true rfl⟩ hP hD hS rfl hl.1 rfl (Nat.le_of_ble_eq_true rfl) dL_law_2094 ⟨(by show _ ≤ 603072; omega), (by show _ ≤ 7211114; omega)⟩) hS (fun r3 G2 H locs hw hP hD hS => ?_)
  refine lv_istore (lv' := [(6, .int r3), (0, .ref b), (1, .ref (xa X 165)), (2, .ref (xa X 189)), (3, .ref (xa X 197)), (4, .ref (xa X 198)), (5, .int v5)]) hx hb dL_law_2097 hl (by decide) rfl (fun ls hl => ?_)
  refine lv_aload_n hx hb dL_law_2099 rfl (lv_at hl 3 rfl) ?_
  refine lv_aload_n hx hb dL_law_2100 rfl (lv_at hl 1 rfl) ?_
  refine lv_iload hx hb dL_law_2101 (lv_at hl 6 rfl) ?_
  refine lv_iconst (v := 1) hx hb dL_law_2103 (by decide) ?_
  refine lv_iadd hx hb dL_law_2104 ?_
  obtain ⟨y4, hw⟩ := hw
  refine va_sld hx hb hX hbl hbA hS y4 dL_law_2105 ?_
  refine call_i (run_V (cc := cL_law) (As := [.int (xs (v5 + 1).toNatClampNeg)]) (rest := []) hx hb hml hown hE hz (okX9_vaultByValue X l hfl  hw) qw_1908 qw_1909 qw_1910 qw_86 qw_1911 (myX9_vaultByValue) ⟨Nat.le_of_ble_eq_true rfl, Nat.le_of_ble_eq_true rfl⟩ (rv_X9 hE hP rfl) hP hD hS rfl hl.1 rfl (Nat.le_of_ble_eq_true rfl) dL_law_2106 ⟨(by show _ ≤ 603072; omega), (by show _ ≤ 7211114; omega)⟩) hS (fun r6 G5 H locs hw hP hD hS => ?_)
  refine lv_istore (lv' := [(7, .int r6), (6, .int r3), (0, .ref b), (1, .ref (xa X 165)), (2, .ref (xa X 189)), (3, .ref (xa X 197)), (4, .ref (xa X 198)), (5, .int v5)]) hx hb dL_law_2109 hl (by decide) rfl (fun ls hl => ?_)
  refine lv_aload_n hx hb dL_law_2111 rfl (lv_at hl 4 rfl) ?_
  refine call_i (run_V (cc := cL_law) (As := []) (rest := []) hx hb hml hown hE hz (okX9_thrown X l hfl  hw) qw_1560 qw_1561 qw_1562 qw_86 qw_1563 (myX9_thrown) ⟨Nat.le_of_ble_eq_true rfl, Nat.le_of_ble_eq_true rfl⟩ (rv_X9 hE hP rfl) hP hD hS rfl hl.1 rfl (Nat.le_of_ble_eq_true rfl) dL_law_2112 ⟨(by show _ ≤ 603072; omega), (by show _ ≤ 7211114; omega)⟩) hS (fun r8 G7 H locs hw hP hD hS => ?_)
  refine lv_iload hx hb dL_law_2115 (lv_at hl 1 rfl) ?_
  refine lv_icmp_eq (tgt := 2122) hx hb dL_law_2117 (by decide) (fun c9 => ?_) (fun c9 => ?_)
  · replace hw := ite_t hw c9
    refine lv_iload hx hb dL_law_2122 (lv_at hl 1 rfl) ?_
    refine lv_if_ne (tgt := 2139) hx hb dL_law_2124 (by decide) (fun c10 => ?_) (fun c10 => ?_)
    · replace hw := ite_f hw c10
      refine lv_goto (tgt := 2836) hx hb dL_law_2139 (by decide) ?_
      refine W.widen (k := cc0 + 40) (n := ss0 + 3000) (by omega) (by omega) ?_
      exact kk G7 _ _ _ hw hP hD hS (lv_sub hl [2, 3, 4, 5, 6, 7] rfl)
    · replace hw := ite_t hw c10
      refine lv_aload_n hx hb dL_law_2127 rfl (lv_at hl 5 rfl) ?_
      refine lv_iconst (v := 0) hx hb dL_law_2128 (by decide) ?_
      obtain ⟨y11, hw⟩ := hw
      refine lald_14 hx hb hE hP y11 dL_law_2129 ?_
      refine lv_iload hx hb dL_law_2130 (lv_at hl 0 rfl) ?_
      refine lv_i2l hx hb dL_law_2132 rfl ?_
      refine W.lcmp hx hb dL_law_2133 ?_
      refine lv_if_eq (tgt := 2139) hx hb dL_law_2134 (by decide) (fun c12 => ?_) (fun c12 => ?_)
      · replace hw := ite_t hw c12
        refine lv_goto (tgt := 2836) hx hb dL_law_2139 (by decide) ?_
        refine W.widen (k := cc0 + 40) (n := ss0 + 3000) (by omega) (by omega) ?_
        exact kk G7 _ _ _ hw hP hD hS (lv_sub hl [2, 3, 4, 5, 6, 7] rfl)
      · replace hw := ite_f hw c12
        exact hw.elim
  · replace hw := ite_f hw c9
    exact hw.elim
def wpL_law_32 (K : GS → Prop) (L : Nat) (xs : Nat → Int32) (v5 : Int32) (G : GS) : Prop :=
  vp_in (v5 + 1) L ∧
  wpL_kindByValue (fun (r3 : Int32) (G2 : GS) =>
  vp_in (v5 + 1) L ∧
    wpX9_kindByValue (fun (r6 : Int32) (G5 : GS) =>
    wpX9_thrown (fun (r8 : Int32) (G7 : GS) =>
      if r8 = r3 then
        if r3 = 0 then
          vp_in 0 1 ∧
            if (lg_cmp (G7.2.2.1 (0 : Int32).toNatClampNeg) r6.toInt64) = 0 then
            K G7
          else
            False
        else
          K G7
      else
        False)  G5) (xs (v5 + 1).toNatClampNeg) G2) (xs (v5 + 1).toNatClampNeg) G
set_option maxHeartbeats 4000000 in
set_option maxRecDepth 100000 in
theorem okL_law_32 {p : Program} {e : Env} {s : State} {m : MethodId} {below : List Frame} {meth : Method} {c : Code} (l : Launch) (hfl : l.stackTraces = false) {b L : Nat} {xs : Nat → Int32} (C0 : lw_At p s m meth c b L xs) {X : Cx} (hE : Ev X s s.heap) (hz : (X.2.2.2.2) ≤ s.heap.size) (hbA : ¬ xA X b) {K : GS → Prop} {v5 : Int32} {G : GS} {H : Heap} {locs : List Loc} {ls : Array Slot} {cc0 ss0 : Nat} {Q : State → Prop} (hc9 : cc0 + 40 ≤ 603072) (hs9 : ss0 + 3000 ≤ 7211114) (hw : wpL_law_32 K L xs v5 G) (hP : va_P (xD X) vwCl (pool X G) H) (hD : va_D (xA X) (pool X G)) (hS : va_S (xA X) s.heap H locs) (hl : lv_has ls 9 [(0, .ref b), (1, .ref (xa X 165)), (2, .ref (xa X 189)), (3, .ref (xa X 197)), (4, .ref (xa X 198)), (5, .int v5)])
    (kk : ∀ (G : GS) (H : Heap) (locs : List Loc) (ls : Array Slot), K G → va_P (xD X) vwCl (pool X G) H → va_D (xA X) (pool X G) → va_S (xA X) s.heap H locs → lv_has ls 9 [(0, .ref b), (1, .ref (xa X 165)), (2, .ref (xa X 189)), (3, .ref (xa X 197)), (4, .ref (xa X 198)), (5, .int v5)] → W p l e room_1 s m #[Value.ref b] below meth c H locs (cc0 + 40) (ss0 + 3000) Q (F0 m 2836 ls [])) : W p l e room_1 s m #[Value.ref b] below meth c H locs cc0 ss0 Q (F0 m 2142 ls []) := by
  obtain ⟨hx, hb, hr, hml, hown, hts, hX, hbl, hlocks, hgv⟩ := id C0
  unfold wpL_law_32 at hw
  refine lv_aload_n hx hb dL_law_2142 rfl (lv_at hl 1 rfl) ?_
  refine lv_aload_n hx hb dL_law_2143 rfl (lv_at hl 0 rfl) ?_
  refine lv_iload hx hb dL_law_2144 (lv_at hl 5 rfl) ?_
  refine lv_iconst (v := 1) hx hb dL_law_2146 (by decide) ?_
  refine lv_iadd hx hb dL_law_2147 ?_
  obtain ⟨y1, hw⟩ := hw
  refine va_sld hx hb hX hbl hbA hS y1 dL_law_2148 ?_
  refine lv_aload_n hx hb dL_law_2149 rfl (lv_at hl 3 rfl) ?_
  refine call_i (run_SW (cc := cL_law) (As := [.ref (xa X 165), .int (xs (v5 + 1).toNatClampNeg), .ref (xa X 197)]) (rest := []) hx hb hml hown hE hz (okL_kindByValue X l hfl  hw) qw_1360 qw_1361 qw_73 qw_1362 (myL_kindByValue).2 ⟨Nat.le_of_ble_eq_true rfl, Nat.le_of_ble_eq_true rfl⟩ hP hD hS rfl hl.1 rfl (Nat.le_of_ble_eq_true rfl) dL_law_2150 ⟨(by show _ ≤ 603072; omega), (by show _ ≤ 7211114; omega)⟩) hS (fun r3 G2 H locs hw hP hD hS => ?_)
  refine lv_istore (lv' := [(6, .int r3), (0, .ref b), (1, .ref (xa X 165)), (2, .ref (xa X 189)), (3, .ref (xa X 197)), (4, .ref (xa X 198)), (5, .int v5)]) hx hb dL_law_2153 hl (by decide) rfl (fun ls hl => ?_)
  refine lv_aload_n hx hb dL_law_2155 rfl (lv_at hl 3 rfl) ?_
  refine lv_aload_n hx hb dL_law_2156 rfl (lv_at hl 1 rfl) ?_
  refine lv_iload hx hb dL_law_2157 (lv_at hl 6 rfl) ?_
  refine lv_iconst (v := 1) hx hb dL_law_2159 (by decide) ?_
  refine lv_iadd hx hb dL_law_2160 ?_
  obtain ⟨y4, hw⟩ := hw
  refine va_sld hx hb hX hbl hbA hS y4 dL_law_2161 ?_
  refine call_i (run_V (cc := cL_law) (As := [.int (xs (v5 + 1).toNatClampNeg)]) (rest := []) hx hb hml hown hE hz (okX9_kindByValue X l hfl  hw) qw_1916 qw_1917 qw_1918 qw_86 qw_1919 (myX9_kindByValue) ⟨Nat.le_of_ble_eq_true rfl, Nat.le_of_ble_eq_true rfl⟩ (rv_X9 hE hP rfl) hP hD hS rfl hl.1 rfl (Nat.le_of_ble_eq_true rfl) dL_law_2162 ⟨(by show _ ≤ 603072; omega), (by show _ ≤ 7211114; omega)⟩) hS (fun r6 G5 H locs hw hP hD hS => ?_)
  refine lv_istore (lv' := [(7, .int r6), (6, .int r3), (0, .ref b), (1, .ref (xa X 165)), (2, .ref (xa X 189)), (3, .ref (xa X 197)), (4, .ref (xa X 198)), (5, .int v5)]) hx hb dL_law_2165 hl (by decide) rfl (fun ls hl => ?_)
  refine lv_aload_n hx hb dL_law_2167 rfl (lv_at hl 4 rfl) ?_
  refine call_i (run_V (cc := cL_law) (As := []) (rest := []) hx hb hml hown hE hz (okX9_thrown X l hfl  hw) qw_1560 qw_1561 qw_1562 qw_86 qw_1563 (myX9_thrown) ⟨Nat.le_of_ble_eq_true rfl, Nat.le_of_ble_eq_true rfl⟩ (rv_X9 hE hP rfl) hP hD hS rfl hl.1 rfl (Nat.le_of_ble_eq_true rfl) dL_law_2168 ⟨(by show _ ≤ 603072; omega), (by show _ ≤ 7211114; omega)⟩) hS (fun r8 G7 H locs hw hP hD hS => ?_)
  refine lv_iload hx hb dL_law_2171 (lv_at hl 1 rfl) ?_
  refine lv_icmp_eq (tgt := 2178) hx hb dL_law_2173 (by decide) (fun c9 => ?_) (fun c9 => ?_)
  · replace hw := ite_t hw c9
    refine lv_iload hx hb dL_law_2178 (lv_at hl 1 rfl) ?_
    refine lv_if_ne (tgt := 2195) hx hb dL_law_2180 (by decide) (fun c10 => ?_) (fun c10 => ?_)
    · replace hw := ite_f hw c10
      refine lv_goto (tgt := 2836) hx hb dL_law_2195 (by decide) ?_
      refine W.widen (k := cc0 + 40) (n := ss0 + 3000) (by omega) (by omega) ?_
      exact kk G7 _ _ _ hw hP hD hS (lv_sub hl [2, 3, 4, 5, 6, 7] rfl)
    · replace hw := ite_t hw c10
      refine lv_aload_n hx hb dL_law_2183 rfl (lv_at hl 5 rfl) ?_
      refine lv_iconst (v := 0) hx hb dL_law_2184 (by decide) ?_
      obtain ⟨y11, hw⟩ := hw
      refine lald_14 hx hb hE hP y11 dL_law_2185 ?_
      refine lv_iload hx hb dL_law_2186 (lv_at hl 0 rfl) ?_
      refine lv_i2l hx hb dL_law_2188 rfl ?_
      refine W.lcmp hx hb dL_law_2189 ?_
      refine lv_if_eq (tgt := 2195) hx hb dL_law_2190 (by decide) (fun c12 => ?_) (fun c12 => ?_)
      · replace hw := ite_t hw c12
        refine lv_goto (tgt := 2836) hx hb dL_law_2195 (by decide) ?_
        refine W.widen (k := cc0 + 40) (n := ss0 + 3000) (by omega) (by omega) ?_
        exact kk G7 _ _ _ hw hP hD hS (lv_sub hl [2, 3, 4, 5, 6, 7] rfl)
      · replace hw := ite_f hw c12
        exact hw.elim
  · replace hw := ite_f hw c9
    exact hw.elim
def wpL_law_33 (K : GS → Prop) (L : Nat) (xs : Nat → Int32) (v5 : Int32) (G : GS) : Prop :=
  wpX8_day (fun (r2 : Int32) (G1 : GS) =>
  wpX9_day (fun (r4 : Int32) (G3 : GS) =>
    if r2 = r4 then
      K G3
    else
      False)  G1)  G
set_option maxHeartbeats 4000000 in
set_option maxRecDepth 100000 in
theorem okL_law_33 {p : Program} {e : Env} {s : State} {m : MethodId} {below : List Frame} {meth : Method} {c : Code} (l : Launch) (hfl : l.stackTraces = false) {b L : Nat} {xs : Nat → Int32} (C0 : lw_At p s m meth c b L xs) {X : Cx} (hE : Ev X s s.heap) (hz : (X.2.2.2.2) ≤ s.heap.size) (hbA : ¬ xA X b) {K : GS → Prop} {v5 : Int32} {G : GS} {H : Heap} {locs : List Loc} {ls : Array Slot} {cc0 ss0 : Nat} {Q : State → Prop} (hc9 : cc0 + 40 ≤ 603072) (hs9 : ss0 + 3000 ≤ 7211114) (hw : wpL_law_33 K L xs v5 G) (hP : va_P (xD X) vwCl (pool X G) H) (hD : va_D (xA X) (pool X G)) (hS : va_S (xA X) s.heap H locs) (hl : lv_has ls 9 [(0, .ref b), (1, .ref (xa X 165)), (2, .ref (xa X 189)), (3, .ref (xa X 197)), (4, .ref (xa X 198)), (5, .int v5)])
    (kk : ∀ (G : GS) (H : Heap) (locs : List Loc) (ls : Array Slot), K G → va_P (xD X) vwCl (pool X G) H → va_D (xA X) (pool X G) → va_S (xA X) s.heap H locs → lv_has ls 9 [(0, .ref b), (1, .ref (xa X 165)), (2, .ref (xa X 189)), (3, .ref (xa X 197)), (4, .ref (xa X 198)), (5, .int v5)] → W p l e room_1 s m #[Value.ref b] below meth c H locs (cc0 + 40) (ss0 + 3000) Q (F0 m 2836 ls [])) : W p l e room_1 s m #[Value.ref b] below meth c H locs cc0 ss0 Q (F0 m 2198 ls []) := by
  obtain ⟨hx, hb, hr, hml, hown, hts, hX, hbl, hlocks, hgv⟩ := id C0
  unfold wpL_law_33 at hw
  refine lv_aload_n hx hb dL_law_2198 rfl (lv_at hl 1 rfl) ?_
  refine call_i (run_V (cc := cL_law) (As := []) (rest := []) hx hb hml hown hE hz (okX8_day X l hfl  hw) qw_378 qw_379 qw_380 qw_74 qw_381 (myX8_day) ⟨Nat.le_of_ble_eq_true rfl, Nat.le_of_ble_eq_true rfl⟩ (rv_X8 hE hP rfl) hP hD hS rfl hl.1 rfl (Nat.le_of_ble_eq_true rfl) dL_law_2199 ⟨(by show _ ≤ 603072; omega), (by show _ ≤ 7211114; omega)⟩) hS (fun r2 G1 H locs hw hP hD hS => ?_)
  refine lv_aload_n hx hb dL_law_2202 rfl (lv_at hl 2 rfl) ?_
  refine call_i (run_V (cc := cL_law) (As := []) (rest := [.int r2]) hx hb hml hown hE hz (okX9_day X l hfl  hw) qw_1923 qw_1924 qw_1925 qw_86 qw_1926 (myX9_day) ⟨Nat.le_of_ble_eq_true rfl, Nat.le_of_ble_eq_true rfl⟩ (rv_X9 hE hP rfl) hP hD hS rfl hl.1 rfl (Nat.le_of_ble_eq_true rfl) dL_law_2203 ⟨(by show _ ≤ 603072; omega), (by show _ ≤ 7211114; omega)⟩) hS (fun r4 G3 H locs hw hP hD hS => ?_)
  refine lv_icmp_eq (tgt := 2836) hx hb dL_law_2206 (by decide) (fun c5 => ?_) (fun c5 => ?_)
  · replace hw := ite_t hw c5
    refine W.widen (k := cc0 + 40) (n := ss0 + 3000) (by omega) (by omega) ?_
    exact kk G3 _ _ _ hw hP hD hS (lv_sub hl [0, 1, 2, 3, 4, 5] rfl)
  · replace hw := ite_f hw c5
    exact hw.elim
def wpL_law_34 (K : GS → Prop) (L : Nat) (xs : Nat → Int32) (v5 : Int32) (G : GS) : Prop :=
  wpX8_mintedTotal (fun (r2 : Int32) (G1 : GS) =>
  wpX9_mintedTotal (fun (r4 : Int32) (G3 : GS) =>
    if r2 = r4 then
      K G3
    else
      False)  G1)  G
set_option maxHeartbeats 4000000 in
set_option maxRecDepth 100000 in
theorem okL_law_34 {p : Program} {e : Env} {s : State} {m : MethodId} {below : List Frame} {meth : Method} {c : Code} (l : Launch) (hfl : l.stackTraces = false) {b L : Nat} {xs : Nat → Int32} (C0 : lw_At p s m meth c b L xs) {X : Cx} (hE : Ev X s s.heap) (hz : (X.2.2.2.2) ≤ s.heap.size) (hbA : ¬ xA X b) {K : GS → Prop} {v5 : Int32} {G : GS} {H : Heap} {locs : List Loc} {ls : Array Slot} {cc0 ss0 : Nat} {Q : State → Prop} (hc9 : cc0 + 40 ≤ 603072) (hs9 : ss0 + 3000 ≤ 7211114) (hw : wpL_law_34 K L xs v5 G) (hP : va_P (xD X) vwCl (pool X G) H) (hD : va_D (xA X) (pool X G)) (hS : va_S (xA X) s.heap H locs) (hl : lv_has ls 9 [(0, .ref b), (1, .ref (xa X 165)), (2, .ref (xa X 189)), (3, .ref (xa X 197)), (4, .ref (xa X 198)), (5, .int v5)])
    (kk : ∀ (G : GS) (H : Heap) (locs : List Loc) (ls : Array Slot), K G → va_P (xD X) vwCl (pool X G) H → va_D (xA X) (pool X G) → va_S (xA X) s.heap H locs → lv_has ls 9 [(0, .ref b), (1, .ref (xa X 165)), (2, .ref (xa X 189)), (3, .ref (xa X 197)), (4, .ref (xa X 198)), (5, .int v5)] → W p l e room_1 s m #[Value.ref b] below meth c H locs (cc0 + 40) (ss0 + 3000) Q (F0 m 2836 ls [])) : W p l e room_1 s m #[Value.ref b] below meth c H locs cc0 ss0 Q (F0 m 2211 ls []) := by
  obtain ⟨hx, hb, hr, hml, hown, hts, hX, hbl, hlocks, hgv⟩ := id C0
  unfold wpL_law_34 at hw
  refine lv_aload_n hx hb dL_law_2211 rfl (lv_at hl 1 rfl) ?_
  refine call_i (run_V (cc := cL_law) (As := []) (rest := []) hx hb hml hown hE hz (okX8_mintedTotal X l hfl  hw) qw_382 qw_383 qw_384 qw_74 qw_385 (myX8_mintedTotal) ⟨Nat.le_of_ble_eq_true rfl, Nat.le_of_ble_eq_true rfl⟩ (rv_X8 hE hP rfl) hP hD hS rfl hl.1 rfl (Nat.le_of_ble_eq_true rfl) dL_law_2212 ⟨(by show _ ≤ 603072; omega), (by show _ ≤ 7211114; omega)⟩) hS (fun r2 G1 H locs hw hP hD hS => ?_)
  refine lv_aload_n hx hb dL_law_2215 rfl (lv_at hl 2 rfl) ?_
  refine call_i (run_V (cc := cL_law) (As := []) (rest := [.int r2]) hx hb hml hown hE hz (okX9_mintedTotal X l hfl  hw) qw_1927 qw_1928 qw_1929 qw_86 qw_1930 (myX9_mintedTotal) ⟨Nat.le_of_ble_eq_true rfl, Nat.le_of_ble_eq_true rfl⟩ (rv_X9 hE hP rfl) hP hD hS rfl hl.1 rfl (Nat.le_of_ble_eq_true rfl) dL_law_2216 ⟨(by show _ ≤ 603072; omega), (by show _ ≤ 7211114; omega)⟩) hS (fun r4 G3 H locs hw hP hD hS => ?_)
  refine lv_icmp_eq (tgt := 2836) hx hb dL_law_2219 (by decide) (fun c5 => ?_) (fun c5 => ?_)
  · replace hw := ite_t hw c5
    refine W.widen (k := cc0 + 40) (n := ss0 + 3000) (by omega) (by omega) ?_
    exact kk G3 _ _ _ hw hP hD hS (lv_sub hl [0, 1, 2, 3, 4, 5] rfl)
  · replace hw := ite_f hw c5
    exact hw.elim
def wpL_law_35 (K : GS → Prop) (L : Nat) (xs : Nat → Int32) (v5 : Int32) (G : GS) : Prop :=
  wpX8_redeemedTotal (fun (r2 : Int32) (G1 : GS) =>
  wpX9_redeemedTotal (fun (r4 : Int32) (G3 : GS) =>
    if r2 = r4 then
      K G3
    else
      False)  G1)  G
set_option maxHeartbeats 4000000 in
set_option maxRecDepth 100000 in
theorem okL_law_35 {p : Program} {e : Env} {s : State} {m : MethodId} {below : List Frame} {meth : Method} {c : Code} (l : Launch) (hfl : l.stackTraces = false) {b L : Nat} {xs : Nat → Int32} (C0 : lw_At p s m meth c b L xs) {X : Cx} (hE : Ev X s s.heap) (hz : (X.2.2.2.2) ≤ s.heap.size) (hbA : ¬ xA X b) {K : GS → Prop} {v5 : Int32} {G : GS} {H : Heap} {locs : List Loc} {ls : Array Slot} {cc0 ss0 : Nat} {Q : State → Prop} (hc9 : cc0 + 40 ≤ 603072) (hs9 : ss0 + 3000 ≤ 7211114) (hw : wpL_law_35 K L xs v5 G) (hP : va_P (xD X) vwCl (pool X G) H) (hD : va_D (xA X) (pool X G)) (hS : va_S (xA X) s.heap H locs) (hl : lv_has ls 9 [(0, .ref b), (1, .ref (xa X 165)), (2, .ref (xa X 189)), (3, .ref (xa X 197)), (4, .ref (xa X 198)), (5, .int v5)])
    (kk : ∀ (G : GS) (H : Heap) (locs : List Loc) (ls : Array Slot), K G → va_P (xD X) vwCl (pool X G) H → va_D (xA X) (pool X G) → va_S (xA X) s.heap H locs → lv_has ls 9 [(0, .ref b), (1, .ref (xa X 165)), (2, .ref (xa X 189)), (3, .ref (xa X 197)), (4, .ref (xa X 198)), (5, .int v5)] → W p l e room_1 s m #[Value.ref b] below meth c H locs (cc0 + 40) (ss0 + 3000) Q (F0 m 2836 ls [])) : W p l e room_1 s m #[Value.ref b] below meth c H locs cc0 ss0 Q (F0 m 2224 ls []) := by
  obtain ⟨hx, hb, hr, hml, hown, hts, hX, hbl, hlocks, hgv⟩ := id C0
  unfold wpL_law_35 at hw
  refine lv_aload_n hx hb dL_law_2224 rfl (lv_at hl 1 rfl) ?_
  refine call_i (run_V (cc := cL_law) (As := []) (rest := []) hx hb hml hown hE hz (okX8_redeemedTotal X l hfl  hw) qw_386 qw_387 qw_388 qw_74 qw_389 (myX8_redeemedTotal) ⟨Nat.le_of_ble_eq_true rfl, Nat.le_of_ble_eq_true rfl⟩ (rv_X8 hE hP rfl) hP hD hS rfl hl.1 rfl (Nat.le_of_ble_eq_true rfl) dL_law_2225 ⟨(by show _ ≤ 603072; omega), (by show _ ≤ 7211114; omega)⟩) hS (fun r2 G1 H locs hw hP hD hS => ?_)
  refine lv_aload_n hx hb dL_law_2228 rfl (lv_at hl 2 rfl) ?_
  refine call_i (run_V (cc := cL_law) (As := []) (rest := [.int r2]) hx hb hml hown hE hz (okX9_redeemedTotal X l hfl  hw) qw_1931 qw_1932 qw_1933 qw_86 qw_1934 (myX9_redeemedTotal) ⟨Nat.le_of_ble_eq_true rfl, Nat.le_of_ble_eq_true rfl⟩ (rv_X9 hE hP rfl) hP hD hS rfl hl.1 rfl (Nat.le_of_ble_eq_true rfl) dL_law_2229 ⟨(by show _ ≤ 603072; omega), (by show _ ≤ 7211114; omega)⟩) hS (fun r4 G3 H locs hw hP hD hS => ?_)
  refine lv_icmp_eq (tgt := 2836) hx hb dL_law_2232 (by decide) (fun c5 => ?_) (fun c5 => ?_)
  · replace hw := ite_t hw c5
    refine W.widen (k := cc0 + 40) (n := ss0 + 3000) (by omega) (by omega) ?_
    exact kk G3 _ _ _ hw hP hD hS (lv_sub hl [0, 1, 2, 3, 4, 5] rfl)
  · replace hw := ite_f hw c5
    exact hw.elim
def wpL_law_36 (K : GS → Prop) (L : Nat) (xs : Nat → Int32) (v5 : Int32) (G : GS) : Prop :=
  wpX8_evaporatedTotal (fun (r2 : Int32) (G1 : GS) =>
  wpX9_evaporatedTotal (fun (r4 : Int32) (G3 : GS) =>
    if r2 = r4 then
      K G3
    else
      False)  G1)  G
set_option maxHeartbeats 4000000 in
set_option maxRecDepth 100000 in
theorem okL_law_36 {p : Program} {e : Env} {s : State} {m : MethodId} {below : List Frame} {meth : Method} {c : Code} (l : Launch) (hfl : l.stackTraces = false) {b L : Nat} {xs : Nat → Int32} (C0 : lw_At p s m meth c b L xs) {X : Cx} (hE : Ev X s s.heap) (hz : (X.2.2.2.2) ≤ s.heap.size) (hbA : ¬ xA X b) {K : GS → Prop} {v5 : Int32} {G : GS} {H : Heap} {locs : List Loc} {ls : Array Slot} {cc0 ss0 : Nat} {Q : State → Prop} (hc9 : cc0 + 40 ≤ 603072) (hs9 : ss0 + 3000 ≤ 7211114) (hw : wpL_law_36 K L xs v5 G) (hP : va_P (xD X) vwCl (pool X G) H) (hD : va_D (xA X) (pool X G)) (hS : va_S (xA X) s.heap H locs) (hl : lv_has ls 9 [(0, .ref b), (1, .ref (xa X 165)), (2, .ref (xa X 189)), (3, .ref (xa X 197)), (4, .ref (xa X 198)), (5, .int v5)])
    (kk : ∀ (G : GS) (H : Heap) (locs : List Loc) (ls : Array Slot), K G → va_P (xD X) vwCl (pool X G) H → va_D (xA X) (pool X G) → va_S (xA X) s.heap H locs → lv_has ls 9 [(0, .ref b), (1, .ref (xa X 165)), (2, .ref (xa X 189)), (3, .ref (xa X 197)), (4, .ref (xa X 198)), (5, .int v5)] → W p l e room_1 s m #[Value.ref b] below meth c H locs (cc0 + 40) (ss0 + 3000) Q (F0 m 2836 ls [])) : W p l e room_1 s m #[Value.ref b] below meth c H locs cc0 ss0 Q (F0 m 2237 ls []) := by
  obtain ⟨hx, hb, hr, hml, hown, hts, hX, hbl, hlocks, hgv⟩ := id C0
  unfold wpL_law_36 at hw
  refine lv_aload_n hx hb dL_law_2237 rfl (lv_at hl 1 rfl) ?_
  refine call_i (run_V (cc := cL_law) (As := []) (rest := []) hx hb hml hown hE hz (okX8_evaporatedTotal X l hfl  hw) qw_390 qw_391 qw_392 qw_74 qw_393 (myX8_evaporatedTotal) ⟨Nat.le_of_ble_eq_true rfl, Nat.le_of_ble_eq_true rfl⟩ (rv_X8 hE hP rfl) hP hD hS rfl hl.1 rfl (Nat.le_of_ble_eq_true rfl) dL_law_2238 ⟨(by show _ ≤ 603072; omega), (by show _ ≤ 7211114; omega)⟩) hS (fun r2 G1 H locs hw hP hD hS => ?_)
  refine lv_aload_n hx hb dL_law_2241 rfl (lv_at hl 2 rfl) ?_
  refine call_i (run_V (cc := cL_law) (As := []) (rest := [.int r2]) hx hb hml hown hE hz (okX9_evaporatedTotal X l hfl  hw) qw_1935 qw_1936 qw_1937 qw_86 qw_1938 (myX9_evaporatedTotal) ⟨Nat.le_of_ble_eq_true rfl, Nat.le_of_ble_eq_true rfl⟩ (rv_X9 hE hP rfl) hP hD hS rfl hl.1 rfl (Nat.le_of_ble_eq_true rfl) dL_law_2242 ⟨(by show _ ≤ 603072; omega), (by show _ ≤ 7211114; omega)⟩) hS (fun r4 G3 H locs hw hP hD hS => ?_)
  refine lv_icmp_eq (tgt := 2836) hx hb dL_law_2245 (by decide) (fun c5 => ?_) (fun c5 => ?_)
  · replace hw := ite_t hw c5
    refine W.widen (k := cc0 + 40) (n := ss0 + 3000) (by omega) (by omega) ?_
    exact kk G3 _ _ _ hw hP hD hS (lv_sub hl [0, 1, 2, 3, 4, 5] rfl)
  · replace hw := ite_f hw c5
    exact hw.elim
def wpL_law_37 (K : GS → Prop) (L : Nat) (xs : Nat → Int32) (v5 : Int32) (G : GS) : Prop :=
  wpX8_auditTotal (fun (r2 : Int32) (G1 : GS) =>
  wpX9_auditTotal (fun (r4 : Int32) (G3 : GS) =>
    if r2 = r4 then
      K G3
    else
      False)  G1)  G
set_option maxHeartbeats 4000000 in
set_option maxRecDepth 100000 in
theorem okL_law_37 {p : Program} {e : Env} {s : State} {m : MethodId} {below : List Frame} {meth : Method} {c : Code} (l : Launch) (hfl : l.stackTraces = false) {b L : Nat} {xs : Nat → Int32} (C0 : lw_At p s m meth c b L xs) {X : Cx} (hE : Ev X s s.heap) (hz : (X.2.2.2.2) ≤ s.heap.size) (hbA : ¬ xA X b) {K : GS → Prop} {v5 : Int32} {G : GS} {H : Heap} {locs : List Loc} {ls : Array Slot} {cc0 ss0 : Nat} {Q : State → Prop} (hc9 : cc0 + 40 ≤ 603072) (hs9 : ss0 + 3000 ≤ 7211114) (hw : wpL_law_37 K L xs v5 G) (hP : va_P (xD X) vwCl (pool X G) H) (hD : va_D (xA X) (pool X G)) (hS : va_S (xA X) s.heap H locs) (hl : lv_has ls 9 [(0, .ref b), (1, .ref (xa X 165)), (2, .ref (xa X 189)), (3, .ref (xa X 197)), (4, .ref (xa X 198)), (5, .int v5)])
    (kk : ∀ (G : GS) (H : Heap) (locs : List Loc) (ls : Array Slot), K G → va_P (xD X) vwCl (pool X G) H → va_D (xA X) (pool X G) → va_S (xA X) s.heap H locs → lv_has ls 9 [(0, .ref b), (1, .ref (xa X 165)), (2, .ref (xa X 189)), (3, .ref (xa X 197)), (4, .ref (xa X 198)), (5, .int v5)] → W p l e room_1 s m #[Value.ref b] below meth c H locs (cc0 + 40) (ss0 + 3000) Q (F0 m 2836 ls [])) : W p l e room_1 s m #[Value.ref b] below meth c H locs cc0 ss0 Q (F0 m 2250 ls []) := by
  obtain ⟨hx, hb, hr, hml, hown, hts, hX, hbl, hlocks, hgv⟩ := id C0
  unfold wpL_law_37 at hw
  refine lv_aload_n hx hb dL_law_2250 rfl (lv_at hl 1 rfl) ?_
  refine call_i (run_V (cc := cL_law) (As := []) (rest := []) hx hb hml hown hE hz (okX8_auditTotal X l hfl  hw) qw_394 qw_395 qw_396 qw_74 qw_397 (myX8_auditTotal) ⟨Nat.le_of_ble_eq_true rfl, Nat.le_of_ble_eq_true rfl⟩ (rv_X8 hE hP rfl) hP hD hS rfl hl.1 rfl (Nat.le_of_ble_eq_true rfl) dL_law_2251 ⟨(by show _ ≤ 603072; omega), (by show _ ≤ 7211114; omega)⟩) hS (fun r2 G1 H locs hw hP hD hS => ?_)
  refine lv_aload_n hx hb dL_law_2254 rfl (lv_at hl 2 rfl) ?_
  refine call_i (run_V (cc := cL_law) (As := []) (rest := [.int r2]) hx hb hml hown hE hz (okX9_auditTotal X l hfl  hw) qw_1939 qw_1940 qw_1941 qw_86 qw_1942 (myX9_auditTotal) ⟨Nat.le_of_ble_eq_true rfl, Nat.le_of_ble_eq_true rfl⟩ (rv_X9 hE hP rfl) hP hD hS rfl hl.1 rfl (Nat.le_of_ble_eq_true rfl) dL_law_2255 ⟨(by show _ ≤ 603072; omega), (by show _ ≤ 7211114; omega)⟩) hS (fun r4 G3 H locs hw hP hD hS => ?_)
  refine lv_icmp_eq (tgt := 2836) hx hb dL_law_2258 (by decide) (fun c5 => ?_) (fun c5 => ?_)
  · replace hw := ite_t hw c5
    refine W.widen (k := cc0 + 40) (n := ss0 + 3000) (by omega) (by omega) ?_
    exact kk G3 _ _ _ hw hP hD hS (lv_sub hl [0, 1, 2, 3, 4, 5] rfl)
  · replace hw := ite_f hw c5
    exact hw.elim
def wpL_law_38 (K : GS → Prop) (L : Nat) (xs : Nat → Int32) (v5 : Int32) (G : GS) : Prop :=
  wpX8_soundAuditTotal (fun (r2 : Int32) (G1 : GS) =>
  wpX9_soundAuditTotal (fun (r4 : Int32) (G3 : GS) =>
    if r2 = r4 then
      K G3
    else
      False)  G1)  G
set_option maxHeartbeats 4000000 in
set_option maxRecDepth 100000 in
theorem okL_law_38 {p : Program} {e : Env} {s : State} {m : MethodId} {below : List Frame} {meth : Method} {c : Code} (l : Launch) (hfl : l.stackTraces = false) {b L : Nat} {xs : Nat → Int32} (C0 : lw_At p s m meth c b L xs) {X : Cx} (hE : Ev X s s.heap) (hz : (X.2.2.2.2) ≤ s.heap.size) (hbA : ¬ xA X b) {K : GS → Prop} {v5 : Int32} {G : GS} {H : Heap} {locs : List Loc} {ls : Array Slot} {cc0 ss0 : Nat} {Q : State → Prop} (hc9 : cc0 + 40 ≤ 603072) (hs9 : ss0 + 3000 ≤ 7211114) (hw : wpL_law_38 K L xs v5 G) (hP : va_P (xD X) vwCl (pool X G) H) (hD : va_D (xA X) (pool X G)) (hS : va_S (xA X) s.heap H locs) (hl : lv_has ls 9 [(0, .ref b), (1, .ref (xa X 165)), (2, .ref (xa X 189)), (3, .ref (xa X 197)), (4, .ref (xa X 198)), (5, .int v5)])
    (kk : ∀ (G : GS) (H : Heap) (locs : List Loc) (ls : Array Slot), K G → va_P (xD X) vwCl (pool X G) H → va_D (xA X) (pool X G) → va_S (xA X) s.heap H locs → lv_has ls 9 [(0, .ref b), (1, .ref (xa X 165)), (2, .ref (xa X 189)), (3, .ref (xa X 197)), (4, .ref (xa X 198)), (5, .int v5)] → W p l e room_1 s m #[Value.ref b] below meth c H locs (cc0 + 40) (ss0 + 3000) Q (F0 m 2836 ls [])) : W p l e room_1 s m #[Value.ref b] below meth c H locs cc0 ss0 Q (F0 m 2263 ls []) := by
  obtain ⟨hx, hb, hr, hml, hown, hts, hX, hbl, hlocks, hgv⟩ := id C0
  unfold wpL_law_38 at hw
  refine lv_aload_n hx hb dL_law_2263 rfl (lv_at hl 1 rfl) ?_
  refine call_i (run_V (cc := cL_law) (As := []) (rest := []) hx hb hml hown hE hz (okX8_soundAuditTotal X l hfl  hw) qw_398 qw_399 qw_400 qw_74 qw_401 (myX8_soundAuditTotal) ⟨Nat.le_of_ble_eq_true rfl, Nat.le_of_ble_eq_true rfl⟩ (rv_X8 hE hP rfl) hP hD hS rfl hl.1 rfl (Nat.le_of_ble_eq_true rfl) dL_law_2264 ⟨(by show _ ≤ 603072; omega), (by show _ ≤ 7211114; omega)⟩) hS (fun r2 G1 H locs hw hP hD hS => ?_)
  refine lv_aload_n hx hb dL_law_2267 rfl (lv_at hl 2 rfl) ?_
  refine call_i (run_V (cc := cL_law) (As := []) (rest := [.int r2]) hx hb hml hown hE hz (okX9_soundAuditTotal X l hfl  hw) qw_1943 qw_1944 qw_1945 qw_86 qw_1946 (myX9_soundAuditTotal) ⟨Nat.le_of_ble_eq_true rfl, Nat.le_of_ble_eq_true rfl⟩ (rv_X9 hE hP rfl) hP hD hS rfl hl.1 rfl (Nat.le_of_ble_eq_true rfl) dL_law_2268 ⟨(by show _ ≤ 603072; omega), (by show _ ≤ 7211114; omega)⟩) hS (fun r4 G3 H locs hw hP hD hS => ?_)
  refine lv_icmp_eq (tgt := 2836) hx hb dL_law_2271 (by decide) (fun c5 => ?_) (fun c5 => ?_)
  · replace hw := ite_t hw c5
    refine W.widen (k := cc0 + 40) (n := ss0 + 3000) (by omega) (by omega) ?_
    exact kk G3 _ _ _ hw hP hD hS (lv_sub hl [0, 1, 2, 3, 4, 5] rfl)
  · replace hw := ite_f hw c5
    exact hw.elim
