/-! copies of ledgers and rows -/
theorem cpy3 (f g : Nat → Int32) {k : Nat} (h : k < 3) : va_cpy f g (0 : Int32).toNatClampNeg (0 : Int32).toNatClampNeg (3 : Int32).toNatClampNeg k = f k := by
  show va_cpy f g 0 0 3 k = f k
  rw [pk_cpy_in (Nat.zero_le k) (by omega), Nat.zero_add, Nat.sub_zero]
/-- G' is G but for the ledger at b, which is the row a -/
def Lgd (b : Nat) (a : Nat → Int32) (G G' : GS) : Prop := lg G'.1 b = a ∧ (∀ q, q < b ∨ b + 15 ≤ q → G'.1 q = G.1 q) ∧ G'.2 = G.2
section COPY
variable {G : GS} {pv : GS → Prop}
theorem s_vcopy {q0 q1 : Nat} (h1 : q0 ≠ q1) (h2 : q0 ≠ q1 + 5) (h3 : q0 + 5 ≠ q1) (hl0 : ln (q0 + 5) = 3) (hl1 : ln (q1 + 5) = 3) (h : ∀ G' : GS, (∀ j, 1 ≤ j → j < 6 → G'.1 q0 j = G.1 q1 j) → (∀ k, k < 3 → G'.1 (q0 + 5) k = G.1 (q1 + 5) k) → (∀ q, q ≠ q0 → q ≠ q0 + 5 → G'.1 q = G.1 q) → G'.2 = G.2 → pv G') : wpX7_copyFrom pv q0 q1 G := by
  unfold wpX7_copyFrom
  refine ⟨by rw [hl0, hl1]; decide, ?_⟩
  rintro G1 rfl G3 rfl G4 rfl G5 rfl G6 rfl G7 rfl
  refine h _ ?_ ?_ ?_ rfl
  · intro j h0 hj
    obtain rfl | rfl | rfl | rfl | rfl : j = 1 ∨ j = 2 ∨ j = 3 ∨ j = 4 ∨ j = 5 := by omega
    all_goals simp (disch := omega) only [gI_at, gI_ne, gA_ne, upd_at, upd_ne]
  · intro k hk
    simp (disch := omega) only [gI_ne, gA_at]
    exact cpy3 _ _ hk
  · intro q ha hb
    simp (disch := omega) only [gI_ne, gA_ne]
def CPv (b c i : Nat) (G G0 : GS) : Prop :=
  (∀ v, v < i → (∀ j, 1 ≤ j → j < 6 → G0.1 (b + 1 + 4 + v) j = G.1 (c + 1 + 4 + v) j) ∧ (∀ k, k < 3 → G0.1 (b + 1 + 4 + v + 5) k = G.1 (c + 1 + 4 + v + 5) k)) ∧ (∀ q, q < b ∨ b + 15 ≤ q → G0.1 q = G.1 q) ∧ (∀ q, b ≤ q → q < b + 5 → G0.1 q = G.1 q) ∧ G0.2 = G.2
theorem s_copy_step {b c i m : Nat} (hb : b + 15 ≤ 165) (hc : c + 15 ≤ 165) (hd : b + 15 ≤ c ∨ c + 15 ≤ b) (hi : i < 5) {G0 : GS} (I : CPv b c i G G0) (h : ∀ G1 : GS, CPv b c (i + 1) G G1 → wlX3_copyFrom_2 pv b c m G1 (nI (i + 1))) : wlX3_copyFrom_2 pv b c (m + 1) G0 (nI i) := by
  rw [wlX3_copyFrom_2]
  refine ifF (nI_ge hi (by decide)) ?_
  refine ⟨vp_in_nI hi (by decide), vp_in_nI hi (by decide), ?_⟩
  rw [nI_clamp (by omega)]
  refine s_vcopy (by omega) (by omega) (by omega) (ln3 (by omega)) (ln3 (by omega)) (fun G1 g1 g2 g3 g4 => ?_)
  rintro z rfl
  rw [nI_1]
  refine h G1 ⟨fun v hv => ?_, fun q hq => ?_, fun q h1 h2 => ?_, g4.trans I.2.2.2⟩
  · by_cases e : v = i
    · subst e
      refine ⟨fun j h0 hj => ?_, fun k hk => ?_⟩
      · rw [g1 j h0 hj, I.2.1 _ (by omega)]
      · rw [g2 k hk, I.2.1 _ (by omega)]
    · refine ⟨fun j h0 hj => ?_, fun k hk => ?_⟩
      · rw [g3 _ (by omega) (by omega)]; exact (I.1 v (by omega)).1 j h0 hj
      · rw [g3 _ (by omega) (by omega)]; exact (I.1 v (by omega)).2 k hk
  · rw [g3 _ (by omega) (by omega)]; exact I.2.1 q hq
  · rw [g3 _ (by omega) (by omega)]; exact I.2.2.1 q h1 h2
theorem s_copy {b c : Nat} (hb : b + 15 ≤ 165) (hc : c + 15 ≤ 165) (hd : b + 15 ≤ c ∨ c + 15 ≤ b) (h : ∀ G' : GS, Lgd b (lg G.1 c) G G' → pv G') : wpX3_copyFrom pv b c G := by
  unfold wpX3_copyFrom
  refine ⟨5 + 1, ?_⟩
  refine s_copy_step (i := 0) (m := 4 + 1) hb hc hd (by decide) (G0 := G) ⟨fun v hv => absurd hv (Nat.not_lt_zero v), fun q _ => rfl, fun q _ _ => rfl, rfl⟩ (fun G1 I1 => ?_)
  refine s_copy_step (i := 1) (m := 3 + 1) hb hc hd (by decide) I1 (fun G2 I2 => ?_)
  refine s_copy_step (i := 2) (m := 2 + 1) hb hc hd (by decide) I2 (fun G3 I3 => ?_)
  refine s_copy_step (i := 3) (m := 1 + 1) hb hc hd (by decide) I3 (fun G4 I4 => ?_)
  refine s_copy_step (i := 4) (m := 0 + 1) hb hc hd (by decide) I4 (fun G5 I5 => ?_)
  clear I1 I2 I3 I4
  obtain ⟨iv, io, ib, ig⟩ := I5
  rw [wlX3_copyFrom_2]
  refine ifT (nI_le (a := 5) (b := 5) (by decide) (by decide)) ?_
  rw [ln3 (p := b + 2) (by omega), ln3 (p := b + 3) (by omega), ln3 (p := b + 4) (by omega), ln3 (p := c + 2) (by omega), ln3 (p := c + 3) (by omega), ln3 (p := c + 4) (by omega)]
  refine ⟨by decide, ?_⟩
  rintro H1 rfl
  refine ⟨by decide, ?_⟩
  rintro H2 rfl
  refine ⟨by decide, ?_⟩
  rintro H3 rfl H4 rfl H5 rfl H6 rfl H7 rfl H8 rfl H9 rfl H10 rfl
  refine h _ ⟨?_, ?_, ig⟩
  · refine lg_ext (M := G.1) (fun k hk => lg_top _ _ hk) (ix_cases ?_ ?_ ?_ ?_ ?_ ?_ ?_ ?_)
    · rw [lg_0, lg_0]
      simp (disch := omega) only [gI_at, gI_ne, gA_ne, upd_at, upd_ne]
      rw [io _ (by omega)]
    · rw [lg_1, lg_1]
      simp (disch := omega) only [gI_at, gI_ne, gA_ne, upd_at, upd_ne]
      rw [io _ (by omega)]
    · intro k hk
      rw [lg_r _ _ hk, lg_r _ _ hk]
      simp (disch := omega) only [gI_ne, gA_at, gA_ne]
      rw [cpy3 _ _ hk, io _ (by omega)]
    · intro k hk
      rw [lg_i _ _ hk, lg_i _ _ hk]
      simp (disch := omega) only [gI_ne, gA_at, gA_ne]
      rw [cpy3 _ _ hk, io _ (by omega)]
    · intro k hk
      rw [lg_o _ _ hk, lg_o _ _ hk]
      simp (disch := omega) only [gI_ne, gA_at, gA_ne]
      rw [cpy3 _ _ hk, io _ (by omega)]
    · intro k hk
      rw [lg_t _ _ hk, lg_t _ _ hk]
      obtain rfl | rfl | rfl | rfl | rfl : k = 0 ∨ k = 1 ∨ k = 2 ∨ k = 3 ∨ k = 4 := by omega
      all_goals
        simp (disch := omega) only [gI_at, gI_ne, gA_ne, upd_at, upd_ne]
        rw [io _ (by omega)]
    · intro v k hv hk
      rw [lg_h _ _ hv hk, lg_h _ _ hv hk]
      simp (disch := omega) only [gI_ne, gA_ne]
      exact (iv v hv).2 k hk
    · intro v j hv h0 hj
      rw [lg_v _ _ hv h0 hj, lg_v _ _ hv h0 hj]
      simp (disch := omega) only [gI_ne, gA_ne]
      exact (iv v hv).1 j h0 hj
  · intro q hq
    simp (disch := omega) only [gI_ne, gA_ne]
    exact io q hq
/-- G0 is G but for fifty-six numbers at place d from od on, of which the first i are those at place s from os on -/
def CPd (d od s os i : Nat) (G G0 : GS) : Prop :=
  (∀ k, k < i → G0.1 d (od + k) = G.1 s (os + k)) ∧ (∀ k, k < od ∨ od + 56 ≤ k → G0.1 d k = G.1 d k) ∧ (∀ q, q ≠ d → G0.1 q = G.1 q) ∧ G0.2 = G.2
theorem CP_0 (d od s os : Nat) : CPd d od s os 0 G G := ⟨fun k hk => absurd hk (Nat.not_lt_zero k), fun _ _ => rfl, fun _ _ => rfl, rfl⟩
theorem CP_step {d od s os i : Nat} {G0 : GS} (hd : s ≠ d) (hi : i < 56) (I : CPd d od s os i G G0) : CPd d od s os (i + 1) G (gI G0 d (od + i) (G0.1 s (os + i))) := by
  refine ⟨fun k hk => ?_, fun k hk => ?_, fun q hq => ?_, I.2.2.2⟩
  · rw [gI_at]
    by_cases e : k = i
    · subst e; rw [upd_at, I.2.2.1 s hd]
    · rw [upd_ne _ _ (by omega)]; exact I.1 k (by omega)
  · rw [gI_at, upd_ne _ _ (by omega)]; exact I.2.1 k hk
  · rw [gI_ne _ _ _ hq]; exact I.2.2.1 q hq
theorem lp_copies (h : ∀ G' : GS, CPd 193 0 190 0 56 G G' → pv G') : ∀ m i G0, i + m = 56 → CPd 193 0 190 0 i G G0 → wlX9_copies_2 pv (m + 1) G0 (nI i) := by
  intro m
  induction m with
  | zero =>
    intro i G0 hi I
    rw [wlX9_copies_2]
    have e : i = 56 := by omega
    subst e
    exact ifT (nI_le (a := 56) (b := 56) (by decide) (by decide)) (h G0 I)
  | succ m ih =>
    intro i G0 hi I
    rw [wlX9_copies_2]
    refine ifF (nI_ge (b := 56) (by omega) (by decide)) ?_
    refine ⟨by rw [ln190]; exact vp_in_nI (by omega) (by decide), by rw [ln193]; exact vp_in_nI (by omega) (by decide), ?_⟩
    rintro G4 rfl z rfl
    rw [nI_1, nI_clamp (by omega)]
    have := CP_step (s := 190) (d := 193) (by decide) (show i < 56 by omega) I
    rw [Nat.zero_add] at this
    exact ih (i + 1) _ (by omega) this
theorem m_copies (h : ∀ G' : GS, CPd 193 0 190 0 56 G G' → pv G') : wpX9_copies pv G := ⟨56 + 1, lp_copies h 56 0 G rfl (CP_0 _ _ _ _)⟩
theorem lp_goesBack (h : ∀ G' : GS, CPd 190 0 193 0 56 G G' → pv G') : ∀ m i G0, i + m = 56 → CPd 190 0 193 0 i G G0 → wlX9_goesBack_2 pv (m + 1) G0 (nI i) := by
  intro m
  induction m with
  | zero =>
    intro i G0 hi I
    rw [wlX9_goesBack_2]
    have e : i = 56 := by omega
    subst e
    exact ifT (nI_le (a := 56) (b := 56) (by decide) (by decide)) (h G0 I)
  | succ m ih =>
    intro i G0 hi I
    rw [wlX9_goesBack_2]
    refine ifF (nI_ge (b := 56) (by omega) (by decide)) ?_
    refine ⟨by rw [ln193]; exact vp_in_nI (by omega) (by decide), by rw [ln190]; exact vp_in_nI (by omega) (by decide), ?_⟩
    rintro G4 rfl z rfl
    rw [nI_1, nI_clamp (by omega)]
    have := CP_step (s := 193) (d := 190) (by decide) (show i < 56 by omega) I
    rw [Nat.zero_add] at this
    exact ih (i + 1) _ (by omega) this
theorem m_goesBack (h : ∀ G' : GS, CPd 190 0 193 0 56 G G' → pv G') : wpX9_goesBack pv G := ⟨56 + 1, lp_goesBack h 56 0 G rfl (CP_0 _ _ _ _)⟩
theorem ix56 (t i : Nat) : (56 * nI t) + nI i = nI (56 * t + i) := by
  rw [show (56 : Int32) = nI 56 from rfl, pk_mul, nI_add]
theorem lp_keeps {t : Nat} (ht : t < 8) (h : ∀ G' : GS, CPd 191 (56 * t) 193 0 56 G G' → pv (gI G' 189 5 (G'.1 189 5 + 1))) : ∀ m i G0, i + m = 56 → CPd 191 (56 * t) 193 0 i G G0 → wlX9_keeps_47 pv (m + 1) G0 (nI t) (nI i) := by
  intro m
  induction m with
  | zero =>
    intro i G0 hi I
    rw [wlX9_keeps_47]
    have e : i = 56 := by omega
    subst e
    refine ifT (nI_le (a := 56) (b := 56) (by decide) (by decide)) ?_
    rintro G5 rfl
    exact h G0 I
  | succ m ih =>
    intro i G0 hi I
    rw [wlX9_keeps_47]
    refine ifF (nI_ge (b := 56) (by omega) (by decide)) ?_
    rw [ix56]
    refine ⟨by rw [ln193]; exact vp_in_nI (by omega) (by decide), by rw [ln191]; exact vp_in_nI (by omega) (by decide), ?_⟩
    rintro G4 rfl z rfl
    rw [nI_1, nI_clamp (by omega), nI_clamp (by omega)]
    have := CP_step (s := 193) (d := 191) (by decide) (show i < 56 by omega) I
    rw [Nat.zero_add] at this
    exact ih (i + 1) _ (by omega) this
theorem lp_undo {post : Int32 → GS → Prop} {t : Nat} (ht : t < 8) (h : ∀ G' : GS, CPd 190 0 191 (56 * t) 56 G G' → post (G'.1 189 5) G') : ∀ m i G0, i + m = 56 → CPd 190 0 191 (56 * t) i G G0 → wlX9_undo_43 post (m + 1) G0 (nI t) (nI i) := by
  intro m
  induction m with
  | zero =>
    intro i G0 hi I
    rw [wlX9_undo_43]
    have e : i = 56 := by omega
    subst e
    exact ifT (nI_le (a := 56) (b := 56) (by decide) (by decide)) (h G0 I)
  | succ m ih =>
    intro i G0 hi I
    rw [wlX9_undo_43]
    refine ifF (nI_ge (b := 56) (by omega) (by decide)) ?_
    rw [ix56]
    refine ⟨by rw [ln191]; exact vp_in_nI (by omega) (by decide), by rw [ln190]; exact vp_in_nI (by omega) (by decide), ?_⟩
    rintro G4 rfl z rfl
    rw [nI_1, nI_clamp (by omega), nI_clamp (by omega)]
    have := CP_step (s := 191) (d := 190) (by decide) (show i < 56 by omega) I
    rw [Nat.zero_add] at this
    exact ih (i + 1) _ (by omega) this
theorem lp_save {post : Int32 → GS → Prop} (h : ∀ G' : GS, CPd 192 0 190 0 56 G G' → post (G'.1 190 0) (gI G' 189 7 1)) : ∀ m i G0, i + m = 56 → CPd 192 0 190 0 i G G0 → wlX9_save_7 post (m + 1) G0 (nI i) := by
  intro m
  induction m with
  | zero =>
    intro i G0 hi I
    rw [wlX9_save_7]
    have e : i = 56 := by omega
    subst e
    refine ifT (nI_le (a := 56) (b := 56) (by decide) (by decide)) ?_
    rintro G3 rfl
    exact ⟨in56 (i := 0) (by decide), h G0 I⟩
  | succ m ih =>
    intro i G0 hi I
    rw [wlX9_save_7]
    refine ifF (nI_ge (b := 56) (by omega) (by decide)) ?_
    refine ⟨by rw [ln190]; exact vp_in_nI (by omega) (by decide), by rw [ln192]; exact vp_in_nI (by omega) (by decide), ?_⟩
    rintro G4 rfl z rfl
    rw [nI_1, nI_clamp (by omega)]
    have := CP_step (s := 190) (d := 192) (by decide) (show i < 56 by omega) I
    rw [Nat.zero_add] at this
    exact ih (i + 1) _ (by omega) this
theorem lp_restore {post : Int32 → GS → Prop} (h : ∀ G' : GS, CPd 190 0 192 0 56 G G' → post (G'.1 190 0) (gI (gI G' 189 5 0) 189 6 0)) : ∀ m i G0, i + m = 56 → CPd 190 0 192 0 i G G0 → wlX9_restore_20 post (m + 1) G0 (nI i) := by
  intro m
  induction m with
  | zero =>
    intro i G0 hi I
    rw [wlX9_restore_20]
    have e : i = 56 := by omega
    subst e
    refine ifT (nI_le (a := 56) (b := 56) (by decide) (by decide)) ?_
    rintro G3 rfl G4 rfl
    exact ⟨in56 (i := 0) (by decide), h G0 I⟩
  | succ m ih =>
    intro i G0 hi I
    rw [wlX9_restore_20]
    refine ifF (nI_ge (b := 56) (by omega) (by decide)) ?_
    refine ⟨by rw [ln192]; exact vp_in_nI (by omega) (by decide), by rw [ln190]; exact vp_in_nI (by omega) (by decide), ?_⟩
    rintro G4 rfl z rfl
    rw [nI_1, nI_clamp (by omega)]
    have := CP_step (s := 192) (d := 190) (by decide) (show i < 56 by omega) I
    rw [Nat.zero_add] at this
    exact ih (i + 1) _ (by omega) this
end COPY
