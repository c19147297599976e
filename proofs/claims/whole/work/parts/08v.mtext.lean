/-! the model's text; both renders; the digits printed by wip/whole/gen/gen_v.py -/
def frM (G G' : GS) : Prop := (∀ q, q ≠ 189 → q ≠ 194 → G'.1 q = G.1 q) ∧ (∀ k, k ≠ 9 → G'.1 189 k = G.1 189 k) ∧ G'.2 = G.2
def KM (G : GS) (l : List Nat) (G' : GS) : Prop := TM G'.1 l ∧ frM G G'
theorem nar_c2 : ∀ c, c < 128 → vp_nar .char (((nI c).toUInt32 % 65536).toInt32) = nI c := by decide +kernel
section RENDER
variable {G G0 : GS} {post : Int32 → GS → Prop} {pv : GS → Prop} {l : List Nat}
theorem m_writes {c : Nat} (hc : c < 128) (I : KM G0 l G) (hl : l.length < 60) (k : ∀ G' : GS, KM G0 (l ++ [c]) G' → pv G') : wpX9_writes pv (nI c) G := by
  obtain ⟨⟨t1, t2⟩, f1, f2, f3⟩ := I
  unfold wpX9_writes
  rw [t1]
  refine ⟨vp_in_nI hl (by decide), ?_⟩
  rintro G2 rfl G3 rfl
  rw [nI_clamp (by omega), nar_c2 c hc, gI_ne _ _ _ (show 189 ≠ 194 by decide), t1, nI_1]
  have a94 : (gI (gI G 194 l.length (nI c)) 189 9 (nI (l.length + 1))).1 194 = upd (G.1 194) l.length (nI c) := by rw [gI_ne _ _ _ (by decide), gI_at]
  refine k _ ⟨TM_app ⟨t1, t2⟩ ?_ ?_ ?_, fun q a b => ?_, fun q a => ?_, f3⟩
  · rw [gI_at, upd_at]; rfl
  · intro i hi; rw [a94, upd_ne _ _ (by omega)]
  · intro j d hd
    cases j with
    | zero =>
      have e : c = d := by simpa using hd
      subst e
      rw [a94, Nat.add_zero, upd_at]
    | succ j => simp at hd
  · rw [gI_ne _ _ _ a, gI_ne _ _ _ b]; exact f1 q a b
  · rw [gI_at, upd_ne _ _ a, gI_ne _ _ _ (by decide)]; exact f2 q a
theorem wr_step {v u m : Nat} (hv : v < 100000) (hu : 0 < u) (hu2 : u < 100000) (I : KM G0 l G) (hl : l.length < 60) (k : ∀ G' : GS, KM G0 (l ++ [48 + v / u % 10]) G' → wlX9_writesNumber_20 pv (nI v) m G' (nI (u / 10))) : wlX9_writesNumber_20 pv (nI v) (m + 1) G (nI u) := by
  rw [wlX9_writesNumber_20]
  refine ifF (nI_nle hu (by omega)) ⟨nI_ne0 hu (by omega), ?_⟩
  have hd : v / u < 2 ^ 31 := Nat.lt_of_le_of_lt (Nat.div_le_self v u) (by omega)
  rw [pk_div (by omega) hu (by omega), show nI (v / u) - nI (v / u) / 10 * 10 = nI (v / u % 10) from pk_rem hd (by decide) (by decide), show (48 : Int32) = nI 48 from rfl, nI_add]
  have := Nat.mod_lt (v / u) (show 0 < 10 by decide)
  refine m_writes (by omega) I hl (fun G' I' => ?_)
  rintro z rfl
  rw [div10 (by omega)]
  exact k G' I'
theorem wr_end {a : Int32} {m : Nat} (h : pv G) : wlX9_writesNumber_20 pv a (m + 1) G (nI 0) := by
  rw [wlX9_writesNumber_20]
  exact ifT (by decide) h
theorem un_step {v u m : Nat} (hv : v < 100000) (hu : 0 < u) (hu2 : u < 1000000) (h1 : v / u ≤ 9 → ∃ nn, wlX9_writesNumber_20 pv (nI v) nn G (nI u)) (h2 : 9 < v / u → wlX9_writesNumber_2 pv (nI v) m G (nI (u * 10))) : wlX9_writesNumber_2 pv (nI v) (m + 1) G (nI u) := by
  have hd : v / u < 2 ^ 31 := Nat.lt_of_le_of_lt (Nat.div_le_self v u) (by omega)
  rw [wlX9_writesNumber_2]
  refine ⟨nI_ne0 hu (by omega), ?_⟩
  rw [pk_div (by omega) hu (by omega)]
  by_cases c : v / u ≤ 9
  · exact ifT (nI_le c (by decide)) (h1 c)
  · refine ifF (nI_ge (a := 9) (by omega) (by omega)) ?_
    rintro z rfl
    rw [show (10 : Int32) = nI 10 from rfl, pk_mul]
    exact h2 (by omega)
theorem wr_1 {v : Nat} (h1 : 0 ≤ v) (h2 : v < 10) (I : KM G0 l G) (hl : l.length + 5 < 60) (k : ∀ G' : GS, KM G0 (l ++ dg v) G' → pv G') : ∃ nn, wlX9_writesNumber_20 pv (nI v) nn G (nI 1) := by
  have ed : dg v = [48 + v] := by unfold dg; rw [if_pos (show v < 10 by omega)]
  refine ⟨2, ?_⟩
  refine wr_step (u := 1) (m := 1) (by omega) (by decide) (by decide) I (by omega) (fun G1 I => ?_)
  have e0 : 48 + v / 1 % 10 = 48 + v := by omega
  rw [e0] at I
  refine wr_end (m := 0) (k _ ?_)
  rw [ed]
  simpa only [List.append_assoc, List.cons_append, List.nil_append] using I
theorem wr_2 {v : Nat} (h1 : 10 ≤ v) (h2 : v < 100) (I : KM G0 l G) (hl : l.length + 5 < 60) (k : ∀ G' : GS, KM G0 (l ++ dg v) G' → pv G') : ∃ nn, wlX9_writesNumber_20 pv (nI v) nn G (nI 10) := by
  have ed : dg v = [48 + v / 10, 48 + v % 10] := by unfold dg; rw [if_neg (show ¬ v < 10 by omega), if_pos (show v < 100 by omega)]
  refine ⟨3, ?_⟩
  refine wr_step (u := 10) (m := 2) (by omega) (by decide) (by decide) I (by omega) (fun G1 I => ?_)
  refine wr_step (u := 1) (m := 1) (by omega) (by decide) (by decide) I (by simp only [List.length_append, List.length_cons, List.length_nil]; omega) (fun G2 I => ?_)
  have e0 : 48 + v / 10 % 10 = 48 + v / 10 := by omega
  have e1 : 48 + v / 1 % 10 = 48 + v % 10 := by omega
  rw [e0, e1] at I
  refine wr_end (m := 0) (k _ ?_)
  rw [ed]
  simpa only [List.append_assoc, List.cons_append, List.nil_append] using I
theorem wr_3 {v : Nat} (h1 : 100 ≤ v) (h2 : v < 1000) (I : KM G0 l G) (hl : l.length + 5 < 60) (k : ∀ G' : GS, KM G0 (l ++ dg v) G' → pv G') : ∃ nn, wlX9_writesNumber_20 pv (nI v) nn G (nI 100) := by
  have ed : dg v = [48 + v / 100, 48 + v % 100 / 10, 48 + v % 100 % 10] := by unfold dg; rw [if_neg (show ¬ v < 10 by omega), if_neg (show ¬ v < 100 by omega), if_pos (show v < 1000 by omega)]
  refine ⟨4, ?_⟩
  refine wr_step (u := 100) (m := 3) (by omega) (by decide) (by decide) I (by omega) (fun G1 I => ?_)
  refine wr_step (u := 10) (m := 2) (by omega) (by decide) (by decide) I (by simp only [List.length_append, List.length_cons, List.length_nil]; omega) (fun G2 I => ?_)
  refine wr_step (u := 1) (m := 1) (by omega) (by decide) (by decide) I (by simp only [List.length_append, List.length_cons, List.length_nil]; omega) (fun G3 I => ?_)
  have e0 : 48 + v / 100 % 10 = 48 + v / 100 := by omega
  have e1 : 48 + v / 10 % 10 = 48 + v % 100 / 10 := by omega
  have e2 : 48 + v / 1 % 10 = 48 + v % 100 % 10 := by omega
  rw [e0, e1, e2] at I
  refine wr_end (m := 0) (k _ ?_)
  rw [ed]
  simpa only [List.append_assoc, List.cons_append, List.nil_append] using I
theorem wr_4 {v : Nat} (h1 : 1000 ≤ v) (h2 : v < 10000) (I : KM G0 l G) (hl : l.length + 5 < 60) (k : ∀ G' : GS, KM G0 (l ++ dg v) G' → pv G') : ∃ nn, wlX9_writesNumber_20 pv (nI v) nn G (nI 1000) := by
  have ed : dg v = [48 + v / 100 / 10, 48 + v / 100 % 10, 48 + v % 100 / 10, 48 + v % 100 % 10] := by unfold dg; rw [if_neg (show ¬ v < 10 by omega), if_neg (show ¬ v < 100 by omega), if_neg (show ¬ v < 1000 by omega), if_pos (show v < 10000 by omega)]
  refine ⟨5, ?_⟩
  refine wr_step (u := 1000) (m := 4) (by omega) (by decide) (by decide) I (by omega) (fun G1 I => ?_)
  refine wr_step (u := 100) (m := 3) (by omega) (by decide) (by decide) I (by simp only [List.length_append, List.length_cons, List.length_nil]; omega) (fun G2 I => ?_)
  refine wr_step (u := 10) (m := 2) (by omega) (by decide) (by decide) I (by simp only [List.length_append, List.length_cons, List.length_nil]; omega) (fun G3 I => ?_)
  refine wr_step (u := 1) (m := 1) (by omega) (by decide) (by decide) I (by simp only [List.length_append, List.length_cons, List.length_nil]; omega) (fun G4 I => ?_)
  have e0 : 48 + v / 1000 % 10 = 48 + v / 100 / 10 := by omega
  have e1 : 48 + v / 100 % 10 = 48 + v / 100 % 10 := by omega
  have e2 : 48 + v / 10 % 10 = 48 + v % 100 / 10 := by omega
  have e3 : 48 + v / 1 % 10 = 48 + v % 100 % 10 := by omega
  rw [e0, e1, e2, e3] at I
  refine wr_end (m := 0) (k _ ?_)
  rw [ed]
  simpa only [List.append_assoc, List.cons_append, List.nil_append] using I
theorem wr_5 {v : Nat} (h1 : 10000 ≤ v) (h2 : v < 100000) (I : KM G0 l G) (hl : l.length + 5 < 60) (k : ∀ G' : GS, KM G0 (l ++ dg v) G' → pv G') : ∃ nn, wlX9_writesNumber_20 pv (nI v) nn G (nI 10000) := by
  have ed : dg v = [48 + v / 100 / 100, 48 + v / 100 % 100 / 10, 48 + v / 100 % 100 % 10, 48 + v % 100 / 10, 48 + v % 100 % 10] := by unfold dg; rw [if_neg (show ¬ v < 10 by omega), if_neg (show ¬ v < 100 by omega), if_neg (show ¬ v < 1000 by omega), if_neg (show ¬ v < 10000 by omega)]
  refine ⟨6, ?_⟩
  refine wr_step (u := 10000) (m := 5) (by omega) (by decide) (by decide) I (by omega) (fun G1 I => ?_)
  refine wr_step (u := 1000) (m := 4) (by omega) (by decide) (by decide) I (by simp only [List.length_append, List.length_cons, List.length_nil]; omega) (fun G2 I => ?_)
  refine wr_step (u := 100) (m := 3) (by omega) (by decide) (by decide) I (by simp only [List.length_append, List.length_cons, List.length_nil]; omega) (fun G3 I => ?_)
  refine wr_step (u := 10) (m := 2) (by omega) (by decide) (by decide) I (by simp only [List.length_append, List.length_cons, List.length_nil]; omega) (fun G4 I => ?_)
  refine wr_step (u := 1) (m := 1) (by omega) (by decide) (by decide) I (by simp only [List.length_append, List.length_cons, List.length_nil]; omega) (fun G5 I => ?_)
  have e0 : 48 + v / 10000 % 10 = 48 + v / 100 / 100 := by omega
  have e1 : 48 + v / 1000 % 10 = 48 + v / 100 % 100 / 10 := by omega
  have e2 : 48 + v / 100 % 10 = 48 + v / 100 % 100 % 10 := by omega
  have e3 : 48 + v / 10 % 10 = 48 + v % 100 / 10 := by omega
  have e4 : 48 + v / 1 % 10 = 48 + v % 100 % 10 := by omega
  rw [e0, e1, e2, e3, e4] at I
  refine wr_end (m := 0) (k _ ?_)
  rw [ed]
  simpa only [List.append_assoc, List.cons_append, List.nil_append] using I
theorem m_number {v : Nat} (hv : v < 100000) (I : KM G0 l G) (hl : l.length + 5 < 60) (k : ∀ G' : GS, KM G0 (l ++ dg v) G' → pv G') : wpX9_writesNumber pv (nI v) G := by
  refine ⟨5 + 1, ?_⟩
  refine un_step (u := 1) (m := 4 + 1) hv (by decide) (by decide) (fun c => wr_1 (by omega) (by omega) I hl k) (fun c1 => ?_)
  refine un_step (u := 10) (m := 3 + 1) hv (by decide) (by decide) (fun c => wr_2 (by omega) (by omega) I hl k) (fun c2 => ?_)
  refine un_step (u := 100) (m := 2 + 1) hv (by decide) (by decide) (fun c => wr_3 (by omega) (by omega) I hl k) (fun c3 => ?_)
  refine un_step (u := 1000) (m := 1 + 1) hv (by decide) (by decide) (fun c => wr_4 (by omega) (by omega) I hl k) (fun c4 => ?_)
  refine un_step (u := 10000) (m := 0 + 1) hv (by decide) (by decide) (fun c => wr_5 (by omega) (by omega) I hl k) (fun c5 => ?_)
  omega
/-- the text of a vault before its frozen days; of the rates -/
def tv (f : Nat → Nat) : List Nat := [] ++ [ltr 0] ++ dg (f 0) ++ [ltr 1] ++ dg (f 1) ++ [ltr 2] ++ dg (f 2) ++ [43] ++ dg (f 3) ++ [126] ++ dg (f 4) ++ [119] ++ dg (f 5)
def tr (f : Nat → Nat) : List Nat := [] ++ [ltr 0] ++ dg (f 0) ++ [44] ++ [ltr 1] ++ dg (f 1) ++ [44] ++ [ltr 2] ++ dg (f 2)
theorem s_set0 (h : OI G.1 G.2.1.2) (k : ∀ G' : GS, KT G [] G' → pv G') : wpJ4_setLength_d00df pv 0 G := by
  obtain ⟨h1, h2, h3, len, l1, l2, l4, l5, l6⟩ := h
  have set : ∀ G1 : GS, G1.2 = G.2 → (∀ q, q ≠ 187 → G1.1 q = G.1 q) → G1.1 187 1 = 0 → wbJ5_setLength_d00df_76 pv 0 G1 := by
    intro G1 a b c
    unfold wbJ5_setLength_d00df_76
    rintro G5 rfl
    have e88 : (gI G1 187 3 0).1 188 = G.1 188 := by rw [gI_ne _ _ _ (by decide), b 188 (by decide)]
    refine k _ ⟨⟨?_, ?_, ?_, ?_⟩, ?_, Nat.zero_le _, fun q x y => ?_, ?_⟩
    · rw [gI_at, upd_ne _ _ (by decide)]; exact c
    · rw [gI_at, upd_at]; rfl
    · rw [e88]; exact h3
    · intro i d hd; simp at hd
    · show cap2 G1.2.1.2; rw [a]; exact h2
    · rw [gI_ne _ _ _ x, b q x]
    · show G1.2.2 = _; rw [a]
  unfold wpJ4_setLength_d00df wpJ5_setLength_d00df
  refine ifT (by decide) ?_
  refine ⟨0, G.2.1.2, rfl, rfl, h1, by decide, by omega, h3, fun _ => ?_, fun e => absurd e (Nat.not_lt_zero _)⟩
  show if 0 ≤ G.1 187 3 then (if G.1 187 3 ≤ 0 then wbJ5_setLength_d00df_76 (fun G1 => pv G1) 0 G else ∀ (G7 : GS), G7 = gI G 187 2 1 → wbJ5_setLength_d00df_76 (fun G1 => pv G1) 0 G7) else False
  rw [l4]
  refine ifT (nI_pos' (by omega)) ?_
  by_cases c : nI len ≤ 0
  · exact ifT c (set G rfl (fun _ _ => rfl) h1)
  · refine ifF c ?_
    rintro G7 rfl
    exact set _ rfl (fun q hq => gI_ne _ _ _ hq) (by rw [gI_at, upd_ne _ _ (by decide)]; exact h1)
theorem Inv_out {G' : GS} (I : Inv G) (h1 : ∀ q, q ≠ 187 → q ≠ 188 → q ≠ 189 → q ≠ 194 → G'.1 q = G.1 q) (h2 : ∀ k, k ≠ 0 → k ≠ 9 → G'.1 189 k = G.1 189 k) (h3 : OI G'.1 G'.2.1.2) : Inv G' := by
  obtain ⟨a, b, c, d, e, f⟩ := I
  refine ⟨?_, HI_fr b (fun q _ _ => h1 q (by omega) (by omega) (by omega) (by omega)) (h1 _ (by decide) (by decide) (by decide) (by decide)) (h1 _ (by decide) (by decide) (by decide) (by decide)) (h2 _ (by decide) (by decide)) (h2 _ (by decide) (by decide)), SI_fr c (fun q _ _ => h1 q (by omega) (by omega) (by omega) (by omega)) (by rw [h1 165 (by decide) (by decide) (by decide) (by decide)]) (h2 _ (by decide) (by decide)) (h1 _ (by decide) (by decide) (by decide) (by decide)), EI_fr d (by rw [h1 165 (by decide) (by decide) (by decide) (by decide)]) (by rw [h1 165 (by decide) (by decide) (by decide) (by decide)]) (h2 _ (by decide) (by decide)) (h2 _ (by decide) (by decide)), XI_fr e (by rw [h1 168 (by decide) (by decide) (by decide) (by decide)]) (h1 _ (by decide) (by decide) (by decide) (by decide)) (h2 _ (by decide) (by decide)) (h1 _ (by decide) (by decide) (by decide) (by decide)), h3⟩
  rw [lg_same (M := G.1) (M' := G'.1) (b := 0) (fun q _ h => h1 q (by omega) (by omega) (by omega) (by omega)), h1 190 (by decide) (by decide) (by decide) (by decide)]
  exact a
/-- behind both renders -/
theorem ren_end {Gc Gm : GS} {t : List Nat} (I : Inv G) (hc : KT G t Gc) {y : Int64} (hm : KM (gI (gI (gL Gc 0 y) 189 0 0) 189 9 0) t Gm) (ht : t.length ≤ 30) : Inv Gm ∧ Gm.1 189 0 = 0 ∧ Gm.2.2.1 0 = y ∧ Gm.1 189 9 = nI t.length := by
  obtain ⟨⟨a1, a2, a3, a4⟩, b1, b2, c1, c2⟩ := hc
  obtain ⟨⟨d1, d2⟩, e1, e2, e3⟩ := hm
  have m87 : Gm.1 187 = Gc.1 187 := by rw [e1 _ (by decide) (by decide), gI_ne _ _ _ (by decide), gI_ne _ _ _ (by decide), gL_1]
  have m88 : Gm.1 188 = Gc.1 188 := by rw [e1 _ (by decide) (by decide), gI_ne _ _ _ (by decide), gI_ne _ _ _ (by decide), gL_1]
  refine ⟨Inv_out I (fun q x1 x2 x3 x4 => ?_) (fun k x1 x2 => ?_) ?_, ?_, ?_, d1⟩
  · rw [e1 q x3 x4, gI_ne _ _ _ x3, gI_ne _ _ _ x3, gL_1, c1 q x1 x2]
  · rw [e2 k x2, gI_at, upd_ne _ _ x2, gI_at, upd_ne _ _ x1, gL_1, c1 189 (by decide) (by decide)]
  · rw [show Gm.2.1.2 = Gc.2.1.2 by rw [e3]; rfl]
    unfold OI
    rw [m87, m88]
    refine ⟨a1, b1, a3, t.length, ht, b2, a2, d1, fun i hi => ?_⟩
    obtain ⟨x1, x2⟩ := a4 i _ (List.getElem?_eq_getElem hi)
    exact ⟨t[i], x2, x1, d2 i _ (List.getElem?_eq_getElem hi)⟩
  · rw [e2 0 (by decide), gI_at, upd_ne _ _ (by decide), gI_at, upd_at]
  · rw [e3]; exact gL_at Gc y
end RENDER
