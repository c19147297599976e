/-! the output text on both sides -/
def TX (M : Nat → Nat → Int32) (l : List Nat) : Prop :=
  M 187 1 = 0 ∧ M 187 3 = nI l.length ∧ (∀ i, fits .byte (.int (M 188 i)) = true) ∧ ∀ i c, l[i]? = some c → M 188 i = nI c ∧ c < 128
def TM (M : Nat → Nat → Int32) (l : List Nat) : Prop := M 189 9 = nI l.length ∧ ∀ i c, l[i]? = some c → M 194 i = nI c
def cap2 (n : Nat) : Prop := n = 16 ∨ n = 34
/-- only the builder's places are other -/
def frB (G G' : GS) : Prop := (∀ q, q ≠ 187 → q ≠ 188 → G'.1 q = G.1 q) ∧ G'.2.2 = G.2.2
theorem frB_rf (G : GS) : frB G G := ⟨fun _ _ _ => rfl, rfl⟩
theorem frB_tr {G G1 G2 : GS} (h1 : frB G G1) (h2 : frB G1 G2) : frB G G2 := ⟨fun q a b => (h2.1 q a b).trans (h1.1 q a b), h2.2.trans h1.2⟩
theorem fits_b : ∀ c, c < 128 → fits .byte (.int (nI c)) = true ∧ vp_nar .byte (nI c).toInt8.toInt32 = nI c ∧ vp_nar .byte (nI c) = nI c := by decide +kernel
theorem dig_tab : ∀ r, r < 100 → DOl.getD r 0 = nI (48 + r % 10) ∧ DTl.getD r 0 = nI (48 + r / 10) := by decide +kernel
theorem getE_app {l ds : List Nat} {i c : Nat} (h : (l ++ ds)[i]? = some c) : (i < l.length ∧ l[i]? = some c) ∨ (l.length ≤ i ∧ ds[i - l.length]? = some c) := by
  by_cases e : i < l.length
  · rw [List.getElem?_append_left e] at h; exact Or.inl ⟨e, h⟩
  · rw [List.getElem?_append_right (by omega)] at h; exact Or.inr ⟨by omega, h⟩
theorem TX_app {M M' : Nat → Nat → Int32} {l ds : List Nat} (h : TX M l) (h1 : M' 187 1 = 0) (h3 : M' 187 3 = nI (l.length + ds.length)) (hf : ∀ i, fits .byte (.int (M' 188 i)) = true) (ho : ∀ i, i < l.length → M' 188 i = M 188 i) (hn : ∀ j c, ds[j]? = some c → M' 188 (l.length + j) = nI c ∧ c < 128) : TX M' (l ++ ds) := by
  refine ⟨h1, by rw [List.length_append]; exact h3, hf, fun i c e => ?_⟩
  rcases getE_app e with ⟨e1, e2⟩ | ⟨e1, e2⟩
  · rw [ho i e1]; exact h.2.2.2 i c e2
  · have := hn _ c e2
    rwa [show l.length + (i - l.length) = i by omega] at this
theorem TM_app {M M' : Nat → Nat → Int32} {l ds : List Nat} (h : TM M l) (h3 : M' 189 9 = nI (l.length + ds.length)) (ho : ∀ i, i < l.length → M' 194 i = M 194 i) (hn : ∀ j c, ds[j]? = some c → M' 194 (l.length + j) = nI c) : TM M' (l ++ ds) := by
  refine ⟨by rw [List.length_append]; exact h3, fun i c e => ?_⟩
  rcases getE_app e with ⟨e1, e2⟩ | ⟨e1, e2⟩
  · rw [ho i e1]; exact h.2 i c e2
  · have := hn _ c e2
    rwa [show l.length + (i - l.length) = i by omega] at this
theorem gB_1 (G : GS) (b n : Nat) (f : Nat → Int32) (q : Nat) : (gB G b n f).1 q = if q = 188 then f else G.1 q := rfl
section TEXT
variable {G : GS} {post : Int32 → GS → Prop} {pn : Nat → GS → Prop} {pv : GS → Prop} {l : List Nat}
theorem s_ens {q : Nat} (h : TX G.1 l) (hc : cap2 G.2.1.2) (hl : l.length ≤ G.2.1.2) (hq : q ≤ 34) (k : ∀ G' : GS, TX G'.1 l → cap2 G'.2.1.2 → l.length ≤ G'.2.1.2 → q ≤ G'.2.1.2 → frB G G' → G'.1 187 = G.1 187 → pv G') : wpJ5_ensureCapacityInternal_d00df pv (nI q) G := by
  unfold cap2 at hc
  refine ⟨q, G.2.1.2, rfl, rfl, h.1, by omega, by omega, h.2.2.1, fun e => k G h hc hl e (frB_rf G) rfl, fun e u => ?_⟩
  have e16 : G.2.1.2 = 16 := by omega
  have ec : 16 + (if q - 16 < 16 + 2 then 16 + 2 else q - 16) = 34 := by split <;> omega
  rw [e16, ec]
  have m187 : (gB G u 34 (va_cpy (G.1 188) (fun _ => 0) 0 0 16)).1 187 = G.1 187 := by rw [gB_1, if_neg (by decide)]
  have m188 : (gB G u 34 (va_cpy (G.1 188) (fun _ => 0) 0 0 16)).1 188 = va_cpy (G.1 188) (fun _ => 0) 0 0 16 := by rw [gB_1, if_pos rfl]
  have inn : ∀ i, i < 16 → va_cpy (G.1 188) (fun _ => (0 : Int32)) 0 0 16 i = G.1 188 i := fun i hi => by
    rw [pk_cpy_in (Nat.zero_le i) (by omega), Nat.zero_add, Nat.sub_zero]
  refine k _ ⟨by rw [m187]; exact h.1, by rw [m187]; exact h.2.1, fun i => ?_, fun i c ei => ?_⟩ (Or.inr rfl) ?_ hq ⟨fun p a b => by rw [gB_1, if_neg b], rfl⟩ m187
  · rw [m188]
    by_cases hi : i < 16
    · rw [inn i hi]; exact h.2.2.1 i
    · rw [pk_cpy_out (by omega)]; decide
  · have hi : i < l.length := (List.getElem?_eq_some_iff.mp ei).1
    rw [m188, inn i (by omega)]
    exact h.2.2.2 i c ei
  · show l.length ≤ 34
    omega
/-- what every row of the text hands on -/
def KT (G : GS) (l : List Nat) (G' : GS) : Prop := TX G'.1 l ∧ cap2 G'.2.1.2 ∧ l.length ≤ G'.2.1.2 ∧ frB G G'
theorem s_chr {G0 : GS} {c : Nat} (hc : c < 128) (I : KT G0 l G) (hl : l.length + 1 ≤ 34) (k : ∀ G' : GS, KT G0 (l ++ [c]) G' → pn 187 G') : wpJ4_append_cf468 pn (nI c) G := by
  obtain ⟨h, h2, h3, h4⟩ := I
  obtain ⟨f1, f2, f3⟩ := fits_b c hc
  unfold wpJ4_append_cf468 wpJ5_append_3fe6f
  rw [h.2.1, nI_1]
  refine s_ens h h2 h3 hl (fun G1 g1 g2 g3 g4 g5 g6 => ?_)
  unfold wpJ5_isLatin1_aae02
  refine ifF (by decide) (ifT g1.1 (ifF (by decide) ?_))
  unfold wpJ1_canEncode_fc78d
  refine ifF (nI_nlt (a := 255) (by omega) (by decide)) (ifF (by decide) ?_)
  rintro o rfl G9 rfl
  refine ⟨rfl, ?_⟩
  rw [g1.2.1, nI_1, nI_clamp (by omega), f2]
  refine ⟨vp_in_nI (show l.length < G1.2.1.2 by omega) (by show G1.2.1.2 < 2 ^ 31; unfold cap2 at g2; omega), ?_⟩
  rintro G11 rfl
  have a87 : (gI (gI G1 187 3 (nI (l.length + 1))) 188 l.length (nI c)).1 187 = upd (G1.1 187) 3 (nI (l.length + 1)) := by rw [gI_ne _ _ _ (by decide), gI_at]
  have a88 : (gI (gI G1 187 3 (nI (l.length + 1))) 188 l.length (nI c)).1 188 = upd (G1.1 188) l.length (nI c) := by rw [gI_at, gI_ne _ _ _ (by decide)]
  refine ⟨rfl, k _ ⟨TX_app g1 ?_ ?_ ?_ ?_ ?_, g2, ?_, frB_tr h4 (frB_tr g5 ⟨fun q a b => ?_, rfl⟩)⟩⟩
  · rw [a87, upd_ne _ _ (by decide)]; exact g1.1
  · rw [a87, upd_at]; rfl
  · intro i
    rw [a88]
    by_cases e : i = l.length
    · subst e; rw [upd_at]; exact f1
    · rw [upd_ne _ _ e]; exact g1.2.2.1 i
  · intro i hi; rw [a88, upd_ne _ _ (by omega)]
  · intro j d hd
    cases j with
    | zero =>
      have e : c = d := by simpa using hd
      subst e
      rw [a88, Nat.add_zero, upd_at]
      exact ⟨rfl, hc⟩
    | succ j => simp at hd
  · rw [List.length_append]; exact g4
  · rw [gI_ne _ _ _ b, gI_ne _ _ _ a]
/-- the digits -/
def dg (v : Nat) : List Nat :=
  if v < 10 then [48 + v] else if v < 100 then [48 + v / 10, 48 + v % 10] else if v < 1000 then [48 + v / 100, 48 + v % 100 / 10, 48 + v % 100 % 10]
  else if v < 10000 then [48 + v / 100 / 10, 48 + v / 100 % 10, 48 + v % 100 / 10, 48 + v % 100 % 10]
  else [48 + v / 100 / 100, 48 + v / 100 % 100 / 10, 48 + v / 100 % 100 % 10, 48 + v % 100 / 10, 48 + v % 100 % 10]
theorem dg_len (v : Nat) : (v < 10 ∧ (dg v).length = 1) ∨ (10 ≤ v ∧ v < 100 ∧ (dg v).length = 2) ∨ (100 ≤ v ∧ v < 1000 ∧ (dg v).length = 3) ∨ (1000 ≤ v ∧ v < 10000 ∧ (dg v).length = 4) ∨ (10000 ≤ v ∧ (dg v).length = 5) := by
  unfold dg
  by_cases c1 : v < 10
  · rw [if_pos c1]; exact Or.inl ⟨c1, rfl⟩
  rw [if_neg c1]
  by_cases c2 : v < 100
  · rw [if_pos c2]; exact Or.inr (Or.inl ⟨by omega, c2, rfl⟩)
  rw [if_neg c2]
  by_cases c3 : v < 1000
  · rw [if_pos c3]; exact Or.inr (Or.inr (Or.inl ⟨by omega, c3, rfl⟩))
  rw [if_neg c3]
  by_cases c4 : v < 10000
  · rw [if_pos c4]; exact Or.inr (Or.inr (Or.inr (Or.inl ⟨by omega, c4, rfl⟩)))
  rw [if_neg c4]
  exact Or.inr (Or.inr (Or.inr (Or.inr ⟨by omega, rfl⟩)))
theorem sz_step {a : Int32} {i v m : Nat} (hi : i < 9) (hv : v < 2 ^ 31) (h1 : 10 ^ i ≤ v → wlJ6_stringSize_0f7a4_16 post a m G (-nI v) 0 (-nI (10 ^ (i + 1))) (nI (i + 1))) (h2 : v < 10 ^ i → post (nI i) G) : wlJ6_stringSize_0f7a4_16 post a (m + 1) G (-nI v) 0 (-nI (10 ^ i)) (nI i) := by
  have hp : 10 ^ i < 2 ^ 31 := Nat.lt_of_le_of_lt (Nat.pow_le_pow_right (by decide) (show i ≤ 9 by omega)) (by decide)
  rw [wlJ6_stringSize_0f7a4_16]
  refine ifF (nI_ge (b := 10) (by omega) (by decide)) ?_
  by_cases c : 10 ^ i ≤ v
  · refine ifT ((sb_nle hv hp).mpr c) ?_
    rintro z rfl y rfl
    rw [nI_1, show (10 : Int32) * -nI (10 ^ i) = -nI (10 ^ (i + 1)) by
      rw [show (10 : Int32) = nI 10 from rfl, Int32.mul_neg, pk_mul, Nat.pow_succ, Nat.mul_comm]]
    exact h1 c
  · refine ifF (fun g => c ((sb_nle hv hp).mp g)) ?_
    rw [Int32.add_zero]
    exact h2 (by omega)
theorem s_size {v : Nat} (hv : v < 100000) (h : post (nI (dg v).length) G) : wpJ6_stringSize_0f7a4 post (nI v) G := by
  have dl := dg_len v
  unfold wpJ6_stringSize_0f7a4
  refine ifF (nI_pos (by omega)) ⟨5 + 1, ?_⟩
  have fin : ∀ i, (dg v).length = i → post (nI i) G := fun i e => e ▸ h
  refine sz_step (i := 1) (m := 4 + 1) (by decide) (by omega) (fun c1 => ?_) (fun c1 => fin 1 (by simp at c1; omega))
  refine sz_step (i := 2) (m := 3 + 1) (by decide) (by omega) (fun c2 => ?_) (fun c2 => fin 2 (by simp at c1 c2; omega))
  refine sz_step (i := 3) (m := 2 + 1) (by decide) (by omega) (fun c3 => ?_) (fun c3 => fin 3 (by simp at c2 c3; omega))
  refine sz_step (i := 4) (m := 1 + 1) (by decide) (by omega) (fun c4 => ?_) (fun c4 => fin 4 (by simp at c3 c4; omega))
  refine sz_step (i := 5) (m := 0 + 1) (by decide) (by omega) (fun c5 => ?_) (fun c5 => fin 5 (by simp at c4 c5; omega))
  exact absurd hv (by simp at c5; omega)
theorem gc_lo {a b : Int32} {w e m : Nat} (hw : w < 100) (he : e ≤ G.2.1.2) (hcap : G.2.1.2 < 2 ^ 30) (h1 : w < 10 → 1 ≤ e ∧ post (nI (e - 1)) (gI G 188 (e - 1) (nI (48 + w)))) (h2 : 10 ≤ w → 2 ≤ e ∧ post (nI (e - 2)) (gI (gI G 188 (e - 1) (nI (48 + w % 10))) 188 (e - 2) (nI (48 + w / 10)))) : wlJ6_getChars_ba4f3_22 post a b G.2.1.1 (m + 1) G (-nI w) (nI e) 0 := by
  obtain ⟨t1, t2⟩ := dig_tab w hw
  have e1 : 1 ≤ e := by
    by_cases c : w < 10
    · exact (h1 c).1
    · have := (h2 (by omega)).1; omega
  rw [wlJ6_getChars_ba4f3_22]
  refine ifT ((sb_nlt (a := 100) (by decide) (by omega)).mpr hw) ?_
  rintro z rfl
  rw [Int32.neg_neg, nI_clamp (show w < 2 ^ 31 by omega), t1, t2, (fits_b _ (by omega)).2.2, (fits_b _ (by omega)).2.2, show nI e + (-1) = nI (e - 1) by rw [show e = e - 1 + 1 by omega, pk_m1, Nat.add_sub_cancel], nI_clamp (show e - 1 < 2 ^ 31 by omega)]
  refine ⟨vp_in_nI hw (by decide), rfl, vp_in_nI (by omega) (by omega), ?_⟩
  rintro G7 rfl
  by_cases c : w < 10
  · refine ifT ((sb_nle (a := 9) (by decide) (by omega)).mpr (by omega)) ?_
    unfold wbJ6_getChars_ba4f3_104
    rw [show w % 10 = w by omega]
    exact ifT rfl (h1 c).2
  · have e2 := (h2 (by omega)).1
    refine ifF (fun g => c (by have := (sb_nle (a := 9) (by decide) (by omega)).mp g; omega)) ?_
    rintro y rfl
    rw [show nI (e - 1) + (-1) = nI (e - 2) by rw [show e - 1 = e - 2 + 1 by omega, pk_m1], nI_clamp (show e - 2 < 2 ^ 31 by omega)]
    refine ⟨vp_in_nI hw (by decide), rfl, vp_in_nI (n := e - 2) (by show e - 2 < G.2.1.2; omega) (by show G.2.1.2 < _; omega), ?_⟩
    rintro G23 rfl
    unfold wbJ6_getChars_ba4f3_104
    exact ifT rfl (h2 (by omega)).2
theorem gc_hi {a b : Int32} {w e m : Nat} (hw : 100 ≤ w) (hw2 : w < 100000) (he : e ≤ G.2.1.2) (hcap : G.2.1.2 < 2 ^ 30) (e2 : 2 ≤ e) (h : wlJ6_getChars_ba4f3_22 post a b G.2.1.1 m (gI (gI G 188 (e - 1) (nI (48 + w % 100 % 10))) 188 (e - 2) (nI (48 + w % 100 / 10))) (-nI (w / 100)) (nI (e - 2)) 0) : wlJ6_getChars_ba4f3_22 post a b G.2.1.1 (m + 1) G (-nI w) (nI e) 0 := by
  obtain ⟨t1, t2⟩ := dig_tab (w % 100) (Nat.mod_lt _ (by decide))
  rw [wlJ6_getChars_ba4f3_22]
  refine ifF (fun g => by have := (sb_nlt (a := 100) (by decide) (by omega)).mp g; omega) ?_
  rintro z rfl y rfl x rfl
  rw [sb_ndiv (by omega), sb_nrem (by omega), nI_clamp (show w % 100 < 2 ^ 31 by omega), t1, t2, (fits_b _ (by omega)).2.2, (fits_b _ (by omega)).2.2, show nI e + (-1) = nI (e - 1) by rw [show e = e - 1 + 1 by omega, pk_m1, Nat.add_sub_cancel], nI_clamp (show e - 1 < 2 ^ 31 by omega)]
  refine ⟨vp_in_nI (Nat.mod_lt _ (by decide)) (by decide), rfl, vp_in_nI (by omega) (by omega), ?_⟩
  rintro G7 rfl u rfl
  rw [show nI (e - 1) + (-1) = nI (e - 2) by rw [show e - 1 = e - 2 + 1 by omega, pk_m1], nI_clamp (show e - 2 < 2 ^ 31 by omega)]
  refine ⟨vp_in_nI (Nat.mod_lt _ (by decide)) (by decide), rfl, vp_in_nI (n := e - 2) (by show e - 2 < G.2.1.2; omega) (by show G.2.1.2 < _; omega), ?_⟩
  rintro G23 rfl
  exact h
end TEXT
