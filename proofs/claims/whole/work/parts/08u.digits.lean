/-! numbers in the output text on both sides; the digits printed by wip/whole/gen/gen_u.py -/
section TEXT
variable {G : GS} {post : Int32 → GS → Prop} {pn : Nat → GS → Prop} {pv : GS → Prop} {l : List Nat}
theorem upd_fit {f : Nat → Int32} {i c : Nat} (hf : ∀ j, fits .byte (.int (f j)) = true) (hc : c < 128) (j : Nat) : fits .byte (.int (upd f i (nI c) j)) = true := by
  by_cases e : j = i
  · subst e; rw [upd_at]; exact (fits_b c hc).1
  · rw [upd_ne _ _ e]; exact hf j
theorem upd_at_eq {f : Nat → Int32} {i j : Nat} {x : Int32} (e : j = i) : upd f i x j = x := by subst e; exact upd_at _ _ _
theorem getChars_of {v e : Nat} (hv : v < 2 ^ 31) (h : ∃ nn, wlJ6_getChars_ba4f3_22 post (nI v) (nI e) G.2.1.1 nn G (-nI v) (nI e) 0) : wpJ6_getChars_ba4f3 post (nI v) (nI e) G.2.1.1 G := by
  unfold wpJ6_getChars_ba4f3
  refine ifT (nI_pos' hv) ?_
  unfold wbJ6_getChars_ba4f3_12
  exact ifT rfl h
theorem s_int {G0 : GS} {v : Nat} (hv : v < 100000) (I : KT G0 l G) (hl : l.length + (dg v).length ≤ 34) (k : ∀ G' : GS, KT G0 (l ++ dg v) G' → pn 187 G') : wpJ4_append_bf812 pn (nI v) G := by
  obtain ⟨h, h2, h3, h4⟩ := I
  unfold wpJ4_append_bf812 wpJ5_append_c97b9
  rintro z rfl
  refine s_size hv ?_
  rintro y rfl
  rw [h.2.1, nI_add]
  refine s_ens h h2 h3 hl (fun G1 g1 g2 g3 g4 g5 g6 => ?_)
  unfold wpJ5_isLatin1_aae02
  refine ifF (by decide) (ifT g1.1 (ifF (by decide) ?_))
  rintro o rfl
  have hc : G1.2.1.2 < 2 ^ 30 := by unfold cap2 at g2; omega
  have fin : ∀ G2 : GS, G2.2 = G1.2 → (∀ q, q ≠ 188 → G2.1 q = G1.1 q) → (∀ i, fits .byte (.int (G2.1 188 i)) = true) → (∀ i, i < l.length → G2.1 188 i = G1.1 188 i) → (∀ j c, (dg v)[j]? = some c → G2.1 188 (l.length + j) = nI c ∧ c < 128) → ∀ G12 : GS, G12 = gI G2 187 3 (nI (l.length + (dg v).length)) → 187 = 187 ∧ pn 187 G12 := by
    rintro G2 a1 a2 a3 a4 a5 G12 rfl
    have b88 : (gI G2 187 3 (nI (l.length + (dg v).length))).1 188 = G2.1 188 := gI_ne _ _ _ (by decide)
    refine ⟨rfl, k _ ⟨TX_app g1 ?_ ?_ ?_ ?_ ?_, ?_, ?_, frB_tr h4 (frB_tr g5 ⟨fun q a b => ?_, ?_⟩)⟩⟩
    · rw [gI_at, upd_ne _ _ (by decide), a2 187 (by decide)]; exact g1.1
    · rw [gI_at, upd_at]
    · rw [b88]; exact a3
    · rw [b88]; exact a4
    · rw [b88]; exact a5
    · show cap2 G2.2.1.2; rw [a1]; exact g2
    · show _ ≤ G2.2.1.2; rw [a1, List.length_append]; exact g4
    · rw [gI_ne _ _ _ a, a2 q b]
    · show G2.2.2 = _; rw [a1]
  generalize hE : l.length + (dg v).length = e at *
  refine getChars_of (by omega) ?_
  rcases dg_len v with ⟨c1, d⟩ | ⟨c1, c2, d⟩ | ⟨c1, c2, d⟩ | ⟨c1, c2, d⟩ | ⟨c1, d⟩
  · have ed : dg v = [48 + v] := by unfold dg; rw [if_pos c1]
    refine ⟨0 + 1, gc_lo (w := v) (by omega) (by omega) hc (fun _ => ⟨by omega, fin _ rfl (fun q hq => ?_) ?_ (fun i hi => ?_) ?_⟩) (fun g => by omega)⟩
    · simp (disch := omega) only [gI_ne]
    · simp only [gI_at]
      exact fun j => (fun j => upd_fit (g1.2.2.1) (by omega) j) j
    · simp (disch := omega) only [gI_at, upd_ne]
    · intro j c hj
      rw [ed] at hj
      simp only [gI_at]
      by_cases j0 : j = 0
      · subst j0
        have ec : 48 + v = c := by simpa using hj
        subst ec
        refine ⟨?_, by omega⟩
        simp (disch := omega) only [upd_at_eq, upd_ne]
      exact absurd (List.getElem?_eq_some_iff.mp hj).1 (by simp only [List.length_cons, List.length_nil]; omega)
  · have ed : dg v = [48 + v / 10, 48 + v % 10] := by unfold dg; rw [if_neg (show ¬ v < 10 by omega), if_pos c2]
    refine ⟨0 + 1, gc_lo (w := v) (by omega) (by omega) hc (fun g => by omega) (fun _ => ⟨by omega, fin _ rfl (fun q hq => ?_) ?_ (fun i hi => ?_) ?_⟩)⟩
    · simp (disch := omega) only [gI_ne]
    · simp only [gI_at]
      exact fun j => (fun j => upd_fit (fun j => upd_fit (g1.2.2.1) (by omega) j) (by omega) j) j
    · simp (disch := omega) only [gI_at, upd_ne]
    · intro j c hj
      rw [ed] at hj
      simp only [gI_at]
      by_cases j0 : j = 0
      · subst j0
        have ec : 48 + v / 10 = c := by simpa using hj
        subst ec
        refine ⟨?_, by omega⟩
        simp (disch := omega) only [upd_at_eq, upd_ne]
      by_cases j1 : j = 1
      · subst j1
        have ec : 48 + v % 10 = c := by simpa using hj
        subst ec
        refine ⟨?_, by omega⟩
        simp (disch := omega) only [upd_at_eq, upd_ne]
      exact absurd (List.getElem?_eq_some_iff.mp hj).1 (by simp only [List.length_cons, List.length_nil]; omega)
  · have ed : dg v = [48 + v / 100, 48 + v % 100 / 10, 48 + v % 100 % 10] := by unfold dg; rw [if_neg (show ¬ v < 10 by omega), if_neg (show ¬ v < 100 by omega), if_pos c2]
    refine ⟨1 + 1, gc_hi (w := v) (by omega) hv (by omega) hc (by omega) ?_⟩
    refine gc_lo (G := gI (gI G1 188 (e - 1) _) 188 (e - 2) _) (w := v / 100) (m := 0) (by omega) (by show _ ≤ G1.2.1.2; omega) hc (fun _ => ⟨by omega, fin _ rfl (fun q hq => ?_) ?_ (fun i hi => ?_) ?_⟩) (fun g => by omega)
    · simp (disch := omega) only [gI_ne]
    · simp only [gI_at]
      exact fun j => (fun j => upd_fit (fun j => upd_fit (fun j => upd_fit (g1.2.2.1) (by omega) j) (by omega) j) (by omega) j) j
    · simp (disch := omega) only [gI_at, upd_ne]
    · intro j c hj
      rw [ed] at hj
      simp only [gI_at]
      by_cases j0 : j = 0
      · subst j0
        have ec : 48 + v / 100 = c := by simpa using hj
        subst ec
        refine ⟨?_, by omega⟩
        simp (disch := omega) only [upd_at_eq, upd_ne]
      by_cases j1 : j = 1
      · subst j1
        have ec : 48 + v % 100 / 10 = c := by simpa using hj
        subst ec
        refine ⟨?_, by omega⟩
        simp (disch := omega) only [upd_at_eq, upd_ne]
      by_cases j2 : j = 2
      · subst j2
        have ec : 48 + v % 100 % 10 = c := by simpa using hj
        subst ec
        refine ⟨?_, by omega⟩
        simp (disch := omega) only [upd_at_eq, upd_ne]
      exact absurd (List.getElem?_eq_some_iff.mp hj).1 (by simp only [List.length_cons, List.length_nil]; omega)
  · have ed : dg v = [48 + v / 100 / 10, 48 + v / 100 % 10, 48 + v % 100 / 10, 48 + v % 100 % 10] := by unfold dg; rw [if_neg (show ¬ v < 10 by omega), if_neg (show ¬ v < 100 by omega), if_neg (show ¬ v < 1000 by omega), if_pos c2]
    refine ⟨1 + 1, gc_hi (w := v) (by omega) hv (by omega) hc (by omega) ?_⟩
    refine gc_lo (G := gI (gI G1 188 (e - 1) _) 188 (e - 2) _) (w := v / 100) (m := 0) (by omega) (by show _ ≤ G1.2.1.2; omega) hc (fun g => by omega) (fun _ => ⟨by omega, fin _ rfl (fun q hq => ?_) ?_ (fun i hi => ?_) ?_⟩)
    · simp (disch := omega) only [gI_ne]
    · simp only [gI_at]
      exact fun j => (fun j => upd_fit (fun j => upd_fit (fun j => upd_fit (fun j => upd_fit (g1.2.2.1) (by omega) j) (by omega) j) (by omega) j) (by omega) j) j
    · simp (disch := omega) only [gI_at, upd_ne]
    · intro j c hj
      rw [ed] at hj
      simp only [gI_at]
      by_cases j0 : j = 0
      · subst j0
        have ec : 48 + v / 100 / 10 = c := by simpa using hj
        subst ec
        refine ⟨?_, by omega⟩
        simp (disch := omega) only [upd_at_eq, upd_ne]
      by_cases j1 : j = 1
      · subst j1
        have ec : 48 + v / 100 % 10 = c := by simpa using hj
        subst ec
        refine ⟨?_, by omega⟩
        simp (disch := omega) only [upd_at_eq, upd_ne]
      by_cases j2 : j = 2
      · subst j2
        have ec : 48 + v % 100 / 10 = c := by simpa using hj
        subst ec
        refine ⟨?_, by omega⟩
        simp (disch := omega) only [upd_at_eq, upd_ne]
      by_cases j3 : j = 3
      · subst j3
        have ec : 48 + v % 100 % 10 = c := by simpa using hj
        subst ec
        refine ⟨?_, by omega⟩
        simp (disch := omega) only [upd_at_eq, upd_ne]
      exact absurd (List.getElem?_eq_some_iff.mp hj).1 (by simp only [List.length_cons, List.length_nil]; omega)
  · have ed : dg v = [48 + v / 100 / 100, 48 + v / 100 % 100 / 10, 48 + v / 100 % 100 % 10, 48 + v % 100 / 10, 48 + v % 100 % 10] := by unfold dg; rw [if_neg (show ¬ v < 10 by omega), if_neg (show ¬ v < 100 by omega), if_neg (show ¬ v < 1000 by omega), if_neg (show ¬ v < 10000 by omega)]
    refine ⟨2 + 1, gc_hi (w := v) (by omega) hv (by omega) hc (by omega) ?_⟩
    refine gc_hi (G := gI (gI G1 188 (e - 1) _) 188 (e - 2) _) (w := v / 100) (m := 1) (by omega) (by omega) (by show _ ≤ G1.2.1.2; omega) hc (by omega) ?_
    refine gc_lo (G := gI (gI (gI (gI G1 188 (e - 1) _) 188 (e - 2) _) 188 (e - 2 - 1) _) 188 (e - 2 - 2) _) (w := v / 100 / 100) (m := 0) (by omega) (by show _ ≤ G1.2.1.2; omega) hc (fun _ => ⟨by omega, fin _ rfl (fun q hq => ?_) ?_ (fun i hi => ?_) ?_⟩) (fun g => by omega)
    · simp (disch := omega) only [gI_ne]
    · simp only [gI_at]
      exact fun j => (fun j => upd_fit (fun j => upd_fit (fun j => upd_fit (fun j => upd_fit (fun j => upd_fit (g1.2.2.1) (by omega) j) (by omega) j) (by omega) j) (by omega) j) (by omega) j) j
    · simp (disch := omega) only [gI_at, upd_ne]
    · intro j c hj
      rw [ed] at hj
      simp only [gI_at]
      by_cases j0 : j = 0
      · subst j0
        have ec : 48 + v / 100 / 100 = c := by simpa using hj
        subst ec
        refine ⟨?_, by omega⟩
        simp (disch := omega) only [upd_at_eq, upd_ne]
      by_cases j1 : j = 1
      · subst j1
        have ec : 48 + v / 100 % 100 / 10 = c := by simpa using hj
        subst ec
        refine ⟨?_, by omega⟩
        simp (disch := omega) only [upd_at_eq, upd_ne]
      by_cases j2 : j = 2
      · subst j2
        have ec : 48 + v / 100 % 100 % 10 = c := by simpa using hj
        subst ec
        refine ⟨?_, by omega⟩
        simp (disch := omega) only [upd_at_eq, upd_ne]
      by_cases j3 : j = 3
      · subst j3
        have ec : 48 + v % 100 / 10 = c := by simpa using hj
        subst ec
        refine ⟨?_, by omega⟩
        simp (disch := omega) only [upd_at_eq, upd_ne]
      by_cases j4 : j = 4
      · subst j4
        have ec : 48 + v % 100 % 10 = c := by simpa using hj
        subst ec
        refine ⟨?_, by omega⟩
        simp (disch := omega) only [upd_at_eq, upd_ne]
      exact absurd (List.getElem?_eq_some_iff.mp hj).1 (by simp only [List.length_cons, List.length_nil]; omega)
end TEXT
