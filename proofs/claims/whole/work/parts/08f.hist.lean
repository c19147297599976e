/-! strings, the refusals' throw, the history -/
theorem byte_kind : ∀ c, c < 256 → (((103 : Int32) = (nI c).toInt8.toInt32) ↔ c = 103) ∧ (((109 : Int32) = (nI c).toInt8.toInt32) ↔ c = 109) ∧ (((104 : Int32) = (nI c).toInt8.toInt32) ↔ c = 104) := by decide +kernel
theorem kn_out {x : Int32} (h : x < 0 ∨ 255 < x) : kn x = -1 := by
  unfold kn
  rw [if_neg (fun e => by subst e; exact absurd h (by decide)), if_neg (fun e => by subst e; exact absurd h (by decide)), if_neg (fun e => by subst e; exact absurd h (by decide))]
section STR
variable {G : GS} {post : Int32 → GS → Prop} {pv : GS → Prop}
theorem s_len {k len : Nat} (hl : LTl.getD k 0 = len) (hb : len < 2 ^ 31) (h : post (nI len) G) : wpJ0_length_8abf5 post k G := by
  unfold wpJ0_length_8abf5 wpJ0_coder_7d493
  refine ifF (by decide) ?_
  show post (nI (LTl.getD k 0) >>> ((0 : Int32) &&& 31)) G
  rw [hl, sc_shr0 hb]
  exact h
theorem ixc_step {i m b c : Nat} (hi : i < 3) (hb : (LTb.getD 0 []).getD i 0 = nI b) (he : (nI b = (nI c).toInt8.toInt32) ↔ c = b) (h : c = b → post (nI i) G) (h2 : c ≠ b → wlJ1_indexOfChar_4cfef_7 post 0 (nI c) 0 (nI 3) m G ((nI c).toInt8.toInt32) (nI (i + 1))) : wlJ1_indexOfChar_4cfef_7 post 0 (nI c) 0 (nI 3) (m + 1) G ((nI c).toInt8.toInt32) (nI i) := by
  rw [wlJ1_indexOfChar_4cfef_7]
  refine ifF (nI_ge hi (by decide)) ?_
  refine ⟨vp_in_nI (show i < LTl.getD 0 0 from hi) (by decide), ?_⟩
  rw [nI_clamp (by omega), hb]
  by_cases e : c = b
  · exact ifT (he.mpr e) (h e)
  · refine ifF (fun g => e (he.mp g)) ?_
    rintro z rfl
    rw [nI_1]
    exact h2 e
theorem s_kind {x : Int32} (h : post (kn x) G) : wpJ0_indexOf_0f7a4 post 0 x G := by
  unfold wpJ0_indexOf_0f7a4 wpJ0_indexOf_7cf53 wpJ0_isLatin1_aae02
  refine ifF (by decide) (ifT rfl ?_)
  refine ifF (by decide) ?_
  refine s_len (len := 3) rfl (by decide) ?_
  unfold wpJ1_indexOf_4cfef wpJ1_canEncode_9a6ad
  by_cases c1 : x < 0
  · rw [kn_out (Or.inl c1)] at h
    exact ifT c1 (ifT rfl h)
  refine ifF c1 ?_
  by_cases c2 : 255 < x
  · rw [kn_out (Or.inr c2)] at h
    exact ifT c2 (ifT rfl h)
  refine ifF c2 (ifF (by decide) ?_)
  obtain ⟨c, hc, rfl⟩ := nI_of2 (M := 255) (n := 255) (by decide) c1 (Int32.not_lt.mp c2)
  obtain ⟨e1, e2, e3⟩ := byte_kind c (by omega)
  rintro z rfl y rfl
  refine ifT (by decide) ?_
  unfold wpJ1_indexOfChar_4cfef
  rintro z rfl
  refine ⟨3 + 1, ?_⟩
  have k1 : (nI c = 103) ↔ c = 103 := nI_eq (b := 103) (by omega) (by decide)
  have k2 : (nI c = 109) ↔ c = 109 := nI_eq (b := 109) (by omega) (by decide)
  have k3 : (nI c = 104) ↔ c = 104 := nI_eq (b := 104) (by omega) (by decide)
  unfold kn at h
  refine ixc_step (i := 0) (m := 2 + 1) (b := 103) (by decide) rfl e1 (fun e => ?_) (fun n1 => ?_)
  · rw [if_pos (k1.mpr e)] at h; exact h
  rw [if_neg (fun g => n1 (k1.mp g))] at h
  refine ixc_step (i := 1) (m := 1 + 1) (b := 109) (by decide) rfl e2 (fun e => ?_) (fun n2 => ?_)
  · rw [if_pos (k2.mpr e)] at h; exact h
  rw [if_neg (fun g => n2 (k2.mp g))] at h
  refine ixc_step (i := 2) (m := 0 + 1) (b := 104) (by decide) rfl e3 (fun e => ?_) (fun n3 => ?_)
  · rw [if_pos (k3.mpr e)] at h; exact h
  rw [if_neg (fun g => n3 (k3.mp g))] at h
  rw [wlJ1_indexOfChar_4cfef_7]
  exact ifT (nI_le (a := 3) (b := 3) (by decide) (by decide)) h
theorem byte_char : ∀ b, b < 128 → ((nI b &&& 255).toUInt32 % 65536).toInt32 = nI b := by decide +kernel
theorem s_charAt {k i len b : Nat} (hl : LTl.getD k 0 = len) (hb : (LTb.getD k []).getD i 0 = nI b) (hi : i < len) (hn : len < 2 ^ 31) (hc : b < 128) (h : post (nI b) G) : wpJ0_charAt_5068e post k (nI i) G := by
  unfold wpJ0_charAt_5068e wpJ0_isLatin1_aae02
  refine ifF (by decide) (ifT rfl ?_)
  refine ifF (by decide) ?_
  unfold wpJ1_charAt_3b067 wpJ0_checkIndex_df160 wpJ3_checkIndex_8e157
  intro rf
  rw [hl]
  refine ifF (nI_pos (by omega)) ?_
  refine ifT (nI_lt hi hn) ?_
  rw [nI_clamp (by omega), hb, byte_char b hc]
  have e := (pk_charN (q := b) (by omega)).1
  exact ⟨vp_in_nI hi hn, e, e, h⟩
end STR
/-- what is thrown at a refusal -/
def xn (o : Nat) : String := if o = 1 then "java/lang/IndexOutOfBoundsException" else if o = 2 then "java/lang/IllegalArgumentException" else if o = 3 then "java/lang/IllegalStateException" else "java/lang/UnsupportedOperationException"
theorem s_demand0 {G : GS} {pv : GS → Prop} {xpost : String → GS → Prop} (h : pv G) : wpX8_demand pv xpost 0 G := by
  unfold wpX8_demand wpOrd
  refine ⟨vp_in_nI (by decide) (by decide), ?_⟩
  rintro z rfl
  exact ifT (by decide) h
theorem s_demand {G : GS} {pv : GS → Prop} {xpost : String → GS → Prop} {o : Nat} (h0 : 1 ≤ o) (h5 : o < 5) (h : xpost (xn o) G) : wpX8_demand pv xpost o G := by
  unfold wpX8_demand wpOrd
  refine ⟨vp_in_nI (by omega) (by decide), ?_⟩
  rintro z rfl
  obtain rfl | rfl | rfl | rfl : o = 1 ∨ o = 2 ∨ o = 3 ∨ o = 4 := by omega
  · exact ifF (by decide) (ifT (by decide) h)
  · exact ifF (by decide) (ifF (by decide) (ifT (by decide) h))
  · exact ifF (by decide) (ifF (by decide) (ifF (by decide) (ifT (by decide) h)))
  · exact ifF (by decide) (ifF (by decide) (ifF (by decide) (ifF (by decide) (ifT (by decide) h))))
/-- what stands after the class has remembered the row a; after the model has kept the row w -/
def s1 (s : Nat) : Nat := if s = 8 then 8 else s + 1
def f1 (f s : Nat) : Nat := if s = 8 then (f + 1) % 8 else f
def RemX (j s : Nat) (a : Nat → Int32) (G G' : GS) : Prop :=
  G'.1 166 1 = nI ((j + 1) % 8) ∧ G'.1 166 2 = nI (s1 s) ∧ lg G'.1 (45 + 15 * ((j + 1) % 8)) = a ∧ (∀ q, q ≠ 166 → (q < 45 + 15 * ((j + 1) % 8) ∨ 45 + 15 * ((j + 1) % 8) + 15 ≤ q) → G'.1 q = G.1 q) ∧ G'.2 = G.2
def RemM (f s : Nat) (w : Nat → Int32) (G G' : GS) : Prop :=
  G'.1 189 5 = nI (s1 s) ∧ G'.1 189 6 = nI (f1 f s) ∧ (∀ k, k < 56 → G'.1 191 (56 * ((f1 f s + s1 s + 7) % 8) + k) = w k) ∧ (∀ k, (k < 56 * ((f1 f s + s1 s + 7) % 8) ∨ 56 * ((f1 f s + s1 s + 7) % 8) + 56 ≤ k) → G'.1 191 k = G.1 191 k) ∧ (∀ q, q ≠ 189 → q ≠ 191 → G'.1 q = G.1 q) ∧ (∀ k, k ≠ 5 → k ≠ 6 → G'.1 189 k = G.1 189 k) ∧ G'.2 = G.2
theorem mod8 {x : Nat} (h : x < 2 ^ 31) : nI x - nI x / 8 * 8 = nI (x % 8) := pk_rem h (by decide) (by decide)
theorem s_remember {G : GS} {pv : GS → Prop} {c j s : Nat} (hc : c = 0 ∨ c = 30) (hj : j < 8) (hs : s ≤ 8) (h1 : G.1 166 1 = nI j) (h2 : G.1 166 2 = nI s) (h : ∀ G' : GS, RemX j s (lg G.1 c) G G' → pv G') : wpX2_remember pv c G := by
  unfold wpX2_remember
  rintro G2 rfl
  rw [gI_at, upd_at, h1, nI_1, mod8 (by omega)]
  have hm : (j + 1) % 8 < 8 := Nat.mod_lt _ (by decide)
  refine ⟨vp_in_nI hm (by decide), ?_⟩
  rw [nI_clamp (by omega)]
  refine s_copy (by omega) (by omega) (by omega) (fun G' g => ?_)
  obtain ⟨g1, g2, g3⟩ := g
  rw [lg_ne _ _ (by omega)] at g1
  rintro G5 rfl
  have e2 : G'.1 166 = upd (G.1 166) 1 (nI ((j + 1) % 8)) := by rw [g2 166 (by omega), gI_at]
  refine h _ ⟨?_, ?_, ?_, ?_, g3⟩
  · rw [gI_at, upd_ne _ _ (by decide), e2, upd_at]
  · rw [gI_at, upd_at, e2, upd_ne _ _ (by decide), h2, nI_1]
    unfold s1
    by_cases e : s = 8
    · subst e
      exact (if_pos (by decide)).trans rfl
    · have l : ¬ (8 : Int32) < nI (s + 1) := nI_nlt (a := 8) (b := s + 1) (by omega) (by decide)
      rw [if_neg l, if_neg e]
  · rw [lg_ne _ _ (by omega)]; exact g1
  · intro q q1 q2
    rw [gI_ne _ _ _ q1, g2 q q2, gI_ne _ _ _ q1]
theorem m_keepsB {G : GS} {pv : GS → Prop} {f c : Nat} (hf : f < 8) (hc : c < 8) (h5 : G.1 189 5 = nI c) (h6 : G.1 189 6 = nI f) (h : ∀ G' : GS, CPd 191 (56 * ((f + c) % 8)) 193 0 56 G G' → pv (gI G' 189 5 (nI (c + 1)))) : wbX9_keeps_32 pv G := by
  unfold wbX9_keeps_32
  rintro z rfl
  rw [h5, h6, nI_add, mod8 (by omega)]
  refine ⟨56 + 1, lp_keeps (Nat.mod_lt _ (by decide)) (fun G' g => ?_) 56 0 G rfl (CP_0 _ _ _ _)⟩
  rw [g.2.2.1 189 (by decide), h5, nI_1]
  exact h G' g
theorem m_keeps {G : GS} {pv : GS → Prop} {f s : Nat} (hf : f < 8) (hs : s ≤ 8) (h5 : G.1 189 5 = nI s) (h6 : G.1 189 6 = nI f) (h : ∀ G' : GS, RemM f s (G.1 193) G G' → pv G') : wpX9_keeps pv G := by
  unfold wpX9_keeps
  rw [h5]
  by_cases e : s = 8
  · subst e
    refine ifT rfl ?_
    rintro G1 rfl G2 rfl
    refine m_keepsB (f := (f + 1) % 8) (c := 7) (Nat.mod_lt _ (by decide)) (by decide) ?_ ?_ (fun G' g => ?_)
    · rw [gI_at, upd_at, gI_at, upd_ne _ _ (by decide), h5]; rfl
    · rw [gI_at, upd_ne _ _ (by decide), gI_at, upd_at, h6, nI_1, mod8 (by omega)]
    · obtain ⟨g1, g2, g3, g4⟩ := g
      have e1 : f1 f 8 = (f + 1) % 8 := if_pos rfl
      have e2 : s1 8 = 8 := if_pos rfl
      have e3 : ((f + 1) % 8 + 8 + 7) % 8 = ((f + 1) % 8 + 7) % 8 := by omega
      unfold RemM at h
      rw [e1, e2, e3] at h
      have k9 : G'.1 189 = upd (upd (G.1 189) 6 (nI ((f + 1) % 8))) 5 (nI 7) := by
        rw [g3 189 (by decide), gI_at, gI_at, upd_ne _ _ (by decide), h5, h6, nI_1, mod8 (by omega)]; rfl
      refine h _ ⟨?_, ?_, ?_, ?_, ?_, ?_, g4⟩
      · rw [gI_at, upd_at]
      · rw [gI_at, upd_ne _ _ (by decide), k9, upd_ne _ _ (by decide), upd_at]
      · intro k hk
        rw [gI_ne _ _ _ (by decide), g1 k hk, Nat.zero_add, gI_ne _ _ _ (by decide), gI_ne _ _ _ (by decide)]
      · intro k hk
        rw [gI_ne _ _ _ (by decide), g2 k hk, gI_ne _ _ _ (by decide), gI_ne _ _ _ (by decide)]
      · intro q q1 q2
        rw [gI_ne _ _ _ q1, g3 q q2, gI_ne _ _ _ q1, gI_ne _ _ _ q1]
      · intro k k1 k2
        rw [gI_at, upd_ne _ _ k1, k9, upd_ne _ _ k1, upd_ne _ _ k2]
  · refine ifF (fun g => e ((nI_eq (b := 8) (by omega) (by decide)).mp g)) ?_
    refine m_keepsB hf (by omega) h5 h6 (fun G' g => ?_)
    obtain ⟨g1, g2, g3, g4⟩ := g
    have e1 : f1 f s = f := if_neg e
    have e2 : s1 s = s + 1 := if_neg e
    have e3 : (f + (s + 1) + 7) % 8 = (f + s) % 8 := by omega
    unfold RemM at h
    rw [e1, e2, e3] at h
    refine h _ ⟨?_, ?_, ?_, ?_, ?_, ?_, g4⟩
    · rw [gI_at, upd_at]
    · rw [gI_at, upd_ne _ _ (by decide), g3 189 (by decide), h6]
    · intro k hk
      rw [gI_ne _ _ _ (by decide), g1 k hk, Nat.zero_add]
    · intro k hk
      rw [gI_ne _ _ _ (by decide), g2 k hk]
    · intro q q1 q2
      rw [gI_ne _ _ _ q1, g3 q q2]
    · intro k k1 k2
      rw [gI_at, upd_ne _ _ k1, g3 189 (by decide)]
/-- the model keeps the row that it has copied first -/
theorem m_remembers {G : GS} {pv : GS → Prop} {f s : Nat} (hf : f < 8) (hs : s ≤ 8) (h5 : G.1 189 5 = nI s) (h6 : G.1 189 6 = nI f) (h : ∀ G1 G' : GS, CPd 193 0 190 0 56 G G1 → RemM f s (G1.1 193) G1 G' → pv G') : wpX9_remembers pv G := by
  unfold wpX9_remembers
  refine m_copies (fun G1 g => ?_)
  refine m_keeps hf hs (by rw [g.2.2.1 189 (by decide)]; exact h5) (by rw [g.2.2.1 189 (by decide)]; exact h6) (fun G' r => ?_)
  exact h G1 G' g r
