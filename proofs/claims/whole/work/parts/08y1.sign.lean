/-! scripts: one character, one word, on both sides -/
/-- the buffer's characters; 0 behind them -/
def CSx (cs : Nat → Nat) (L : Nat) : Prop := L ≤ 60 ∧ (∀ i, i < L → 32 ≤ cs i ∧ cs i ≤ 126) ∧ (∀ i, L ≤ i → cs i = 0)
def dgt (c : Nat) : Prop := 48 ≤ c ∧ c ≤ 57
def isk (c : Nat) : Prop := c = 103 ∨ c = 109 ∨ c = 104
theorem cs_le {cs : Nat → Nat} {L : Nat} (h : CSx cs L) (i : Nat) : cs i ≤ 126 := by
  by_cases c : i < L
  · exact (h.2.1 i c).2
  · rw [h.2.2 i (by omega)]; omega
theorem cs_in {cs : Nat → Nat} {L : Nat} (h : CSx cs L) {i : Nat} (h1 : cs i ≠ 0) : i < L := by
  refine Nat.lt_of_not_le (fun c => h1 (h.2.2 i c))
/-- the class at position p of order q, whose row is o; the model -/
def PX (cs : Nat → Nat) (L q p : Nat) (o : Nat → Int32) (G0 G : GS) : Prop :=
  G.1 168 2 = nI L ∧ (∀ i, i < L → G.1 169 i = nI (cs i)) ∧ G.1 168 3 = nI p ∧ G.1 q = o ∧ (∀ r, r ≠ 168 → r ≠ q → G.1 r = G0.1 r) ∧ (∀ k, k ≠ 3 → G.1 168 k = G0.1 168 k) ∧ G.2 = G0.2
def PM (cs : Nat → Nat) (L p : Nat) (ns : Nat → Int32) (so : Int32) (G0 G : GS) : Prop :=
  G.1 189 11 = nI L ∧ (∀ i, i < L → G.1 195 i = nI (cs i)) ∧ G.1 189 12 = nI p ∧ G.1 196 = ns ∧ G.1 189 16 = so ∧ (∀ r, r ≠ 189 → r ≠ 196 → G.1 r = G0.1 r) ∧ (∀ k, k ≠ 12 → k ≠ 16 → G.1 189 k = G0.1 189 k) ∧ G.2 = G0.2
section SIGN
variable {cs : Nat → Nat} {L q p : Nat} {o : Nat → Int32} {G0 G : GS} {post : Int32 → GS → Prop} {ns : Nat → Int32} {so : Int32}
theorem PX_pos (hq : 170 < q) (h : PX cs L q p o G0 G) (p' : Nat) : PX cs L q p' o G0 (gI G 168 3 (nI p')) := by
  obtain ⟨h1, h2, h3, h4, h5, h6, h7⟩ := h
  refine ⟨?_, fun i hi => ?_, ?_, ?_, fun r a b => ?_, fun k a => ?_, h7⟩
  · rw [gI_at, upd_ne _ _ (by decide)]; exact h1
  · rw [gI_ne _ _ _ (by decide)]; exact h2 i hi
  · rw [gI_at, upd_at]
  · rw [gI_ne _ _ _ (by omega)]; exact h4
  · rw [gI_ne _ _ _ a]; exact h5 r a b
  · rw [gI_at, upd_ne _ _ a]; exact h6 k a
theorem PX_row (hq : 170 < q) (h : PX cs L q p o G0 G) (k : Nat) (x : Int32) : PX cs L q p (upd o k x) G0 (gI G q k x) := by
  obtain ⟨h1, h2, h3, h4, h5, h6, h7⟩ := h
  refine ⟨?_, fun i hi => ?_, ?_, ?_, fun r a b => ?_, fun j a => ?_, h7⟩
  · rw [gI_ne _ _ _ (by omega)]; exact h1
  · rw [gI_ne _ _ _ (by omega)]; exact h2 i hi
  · rw [gI_ne _ _ _ (by omega)]; exact h3
  · rw [gI_at, h4]
  · rw [gI_ne _ _ _ b]; exact h5 r a b
  · rw [gI_ne _ _ _ (by omega)]; exact h6 j a
theorem s_sign (hc : CSx cs L) (h : PX cs L q p o G0 G) {i : Nat} (hi : i < 1000) (k : post (nI (cs i)) G) : wpX6_signAt post (nI i) G := by
  unfold wpX6_signAt
  refine ifF (nI_pos (by omega)) ?_
  rw [h.1]
  by_cases c : L ≤ i
  · rw [hc.2.2 i c] at k
    exact ifT (nI_le c (by omega)) k
  · have hL := hc.1
    refine ifF (nI_ge (by omega) (by omega)) (ifT (nI_lt (b := 60) (by omega) (by decide)) ⟨vp_in_nI (by omega) (by decide), ?_⟩)
    rw [nI_clamp (by omega), h.2.1 i (by omega)]
    exact ⟨(pk_charN (by have := cs_le hc i; omega)).1, k⟩
theorem s_rsT (hq : 170 < q) (hc : CSx cs L) (h : PX cs L q p o G0 G) (hp : p < 900) {c : Nat} (e : cs p = c) (k : ∀ G', PX cs L q (p + 1) o G0 G' → post 1 G') : wpX6_readSign post (nI c) G := by
  unfold wpX6_readSign
  rw [h.2.2.1]
  refine s_sign hc h (by omega) (ifT (by rw [e]) ?_)
  rintro G4 rfl
  rw [h.2.2.1, nI_1]
  exact k _ (PX_pos hq h _)
theorem s_rsF (hc : CSx cs L) (h : PX cs L q p o G0 G) (hp : p < 900) {c : Nat} (h2 : c < 1000) (e : cs p ≠ c) (k : post 0 G) : wpX6_readSign post (nI c) G := by
  unfold wpX6_readSign
  rw [h.2.2.1]
  have := cs_le hc p
  exact s_sign hc h (by omega) (ifF (fun g => e ((nI_eq (by omega) (by omega)).mp g)) k)
theorem s_rdT (hq : 170 < q) (hc : CSx cs L) (h : PX cs L q p o G0 G) (hp : p < 900) (e : dgt (cs p)) (k : ∀ G', PX cs L q (p + 1) o G0 G' → post (nI (cs p - 48)) G') : wpX6_readDigit post G := by
  unfold wpX6_readDigit
  rw [h.2.2.1]
  refine s_sign hc h (by omega) (ifF (nI_nlt (b := 48) e.1 (by have := e.2; omega)) (ifT (nI_le (b := 57) e.2 (by decide)) ?_))
  rintro G4 rfl
  rw [h.2.2.1, nI_1, show nI (cs p) - 48 = nI (cs p - 48) from pk_sub (b := 48) e.1]
  exact k _ (PX_pos hq h _)
theorem s_rdF (hc : CSx cs L) (h : PX cs L q p o G0 G) (hp : p < 900) (e : ¬ dgt (cs p)) (k : post (-1) G) : wpX6_readDigit post G := by
  unfold wpX6_readDigit
  rw [h.2.2.1]
  have := cs_le hc p
  refine s_sign hc h (by omega) ?_
  by_cases c : cs p < 48
  · exact ifT (nI_lt (b := 48) c (by decide)) k
  · exact ifF (nI_nlt (b := 48) (by omega) (by omega)) (ifF (nI_ge (a := 57) (Nat.lt_of_not_le (fun g => e ⟨by omega, g⟩)) (by omega)) k)
/-- how long a number is here, and which -/
noncomputable def nlen (cs : Nat → Nat) (p : Nat) : Nat := if cs (p + 1) < 48 then 1 else if 57 < cs (p + 1) then 1 else 2
noncomputable def nval (cs : Nat → Nat) (p : Nat) : Nat := if cs (p + 1) < 48 then cs p - 48 else if 57 < cs (p + 1) then cs p - 48 else 10 * (cs p - 48) + (cs (p + 1) - 48)
theorem nl_cases (cs : Nat → Nat) (p : Nat) : (dgt (cs (p + 1)) ∧ nlen cs p = 2 ∧ nval cs p = 10 * (cs p - 48) + (cs (p + 1) - 48)) ∨ (¬ dgt (cs (p + 1)) ∧ nlen cs p = 1 ∧ nval cs p = cs p - 48) := by
  unfold nlen nval dgt
  by_cases c1 : cs (p + 1) < 48
  · rw [if_pos c1, if_pos c1]; exact Or.inr ⟨by omega, rfl, rfl⟩
  rw [if_neg c1, if_neg c1]
  by_cases c2 : 57 < cs (p + 1)
  · rw [if_pos c2, if_pos c2]; exact Or.inr ⟨by omega, rfl, rfl⟩
  rw [if_neg c2, if_neg c2]
  exact Or.inl ⟨by omega, rfl, rfl⟩
theorem s_rnT (hq : 170 < q) (hc : CSx cs L) (h : PX cs L q p o G0 G) (hp : p < 800) (e : dgt (cs p)) (k : ∀ G', PX cs L q (p + nlen cs p) o G0 G' → post (nI (nval cs p)) G') : wpX6_readNumber post G := by
  have e2 := e.2
  have := cs_le hc (p + 1)
  unfold wpX6_readNumber
  refine s_rdT hq hc h (by omega) e (fun G1 h1 => ifT (nI_pos' (by omega)) ?_)
  rcases nl_cases cs p with ⟨d, d1, d2⟩ | ⟨d, d1, d2⟩
  · refine s_rdT hq hc h1 (by omega) d (fun G2 h2 => ifT (nI_pos' (by omega)) ?_)
    rw [show (10 : Int32) = nI 10 from rfl, pk_mul, nI_add, ← d2]
    exact k G2 (by rw [d1]; exact h2)
  · refine s_rdF hc h1 (by omega) d (ifF (by decide) ?_)
    rw [← d2]
    exact k G1 (by rw [d1]; exact h1)
theorem s_rnF (hc : CSx cs L) (h : PX cs L q p o G0 G) (hp : p < 800) (e : ¬ dgt (cs p)) (k : post (-1) G) : wpX6_readNumber post G := by
  unfold wpX6_readNumber
  exact s_rdF hc h (by omega) e (ifF (by decide) k)
theorem kn_isk {c : Nat} (h : isk c) : ∃ k, k < 3 ∧ kn (nI c) = nI k := by
  rcases h with rfl | rfl | rfl
  · exact ⟨0, by decide, rfl⟩
  · exact ⟨1, by decide, rfl⟩
  · exact ⟨2, by decide, rfl⟩
theorem kn_nisk {c : Nat} (hc : c < 2 ^ 31) (h : ¬ isk c) : kn (nI c) = -1 := by
  unfold kn
  have a1 : ¬ nI c = 103 := fun g => h (Or.inl ((nI_eq (b := 103) hc (by decide)).mp g))
  have a2 : ¬ nI c = 109 := fun g => h (Or.inr (Or.inl ((nI_eq (b := 109) hc (by decide)).mp g)))
  have a3 : ¬ nI c = 104 := fun g => h (Or.inr (Or.inr ((nI_eq (b := 104) hc (by decide)).mp g)))
  rw [if_neg a1, if_neg a2, if_neg a3]
theorem s_rkT (hq : 170 < q) (hc : CSx cs L) (h : PX cs L q p o G0 G) (hp : p < 900) (e : isk (cs p)) (k : ∀ G', PX cs L q (p + 1) o G0 G' → post (nI (cs p)) G') : wpX6_readKind post G := by
  obtain ⟨j, hj, ej⟩ := kn_isk e
  unfold wpX6_readKind
  rw [h.2.2.1]
  refine s_sign hc h (by omega) (s_kind ?_)
  rw [ej]
  refine ifT (nI_pos' (by omega)) ?_
  rintro G4 rfl
  rw [h.2.2.1, nI_1]
  exact ⟨(pk_charN (by have := cs_le hc p; omega)).1, k _ (PX_pos hq h _)⟩
theorem s_rkF (hc : CSx cs L) (h : PX cs L q p o G0 G) (hp : p < 900) (e : ¬ isk (cs p)) (k : post 0 G) : wpX6_readKind post G := by
  unfold wpX6_readKind
  rw [h.2.2.1]
  refine s_sign hc h (by omega) (s_kind ?_)
  rw [kn_nisk (by have := cs_le hc p; omega) e]
  exact ifF (by decide) k
/-! the model's characters -/
theorem PM_pos (h : PM cs L p ns so G0 G) (p' : Nat) : PM cs L p' ns so G0 (gI G 189 12 (nI p')) := by
  obtain ⟨h1, h2, h3, h4, h5, h6, h7, h8⟩ := h
  refine ⟨?_, fun i hi => ?_, ?_, ?_, ?_, fun r a b => ?_, fun k a b => ?_, h8⟩
  · rw [gI_at, upd_ne _ _ (by decide)]; exact h1
  · rw [gI_ne _ _ _ (by decide)]; exact h2 i hi
  · rw [gI_at, upd_at]
  · rw [gI_ne _ _ _ (by decide)]; exact h4
  · rw [gI_at, upd_ne _ _ (by decide)]; exact h5
  · rw [gI_ne _ _ _ a]; exact h6 r a b
  · rw [gI_at, upd_ne _ _ a]; exact h7 k a b
theorem PM_num (h : PM cs L p ns so G0 G) (k : Nat) (x : Int32) : PM cs L p (upd ns k x) so G0 (gI G 196 k x) := by
  obtain ⟨h1, h2, h3, h4, h5, h6, h7, h8⟩ := h
  refine ⟨?_, fun i hi => ?_, ?_, ?_, ?_, fun r a b => ?_, fun j a b => ?_, h8⟩
  · rw [gI_ne _ _ _ (by decide)]; exact h1
  · rw [gI_ne _ _ _ (by decide)]; exact h2 i hi
  · rw [gI_ne _ _ _ (by decide)]; exact h3
  · rw [gI_at, h4]
  · rw [gI_ne _ _ _ (by decide)]; exact h5
  · rw [gI_ne _ _ _ b]; exact h6 r a b
  · rw [gI_ne _ _ _ (by decide)]; exact h7 j a b
theorem PM_sort (h : PM cs L p ns so G0 G) (x : Int32) : PM cs L p ns x G0 (gI G 189 16 x) := by
  obtain ⟨h1, h2, h3, h4, h5, h6, h7, h8⟩ := h
  refine ⟨?_, fun i hi => ?_, ?_, ?_, ?_, fun r a b => ?_, fun j a b => ?_, h8⟩
  · rw [gI_at, upd_ne _ _ (by decide)]; exact h1
  · rw [gI_ne _ _ _ (by decide)]; exact h2 i hi
  · rw [gI_at, upd_ne _ _ (by decide)]; exact h3
  · rw [gI_ne _ _ _ (by decide)]; exact h4
  · rw [gI_at, upd_at]
  · rw [gI_ne _ _ _ a]; exact h6 r a b
  · rw [gI_at, upd_ne _ _ b]; exact h7 j a b
def mc (cs : Nat → Nat) (L p : Nat) : Int32 := if p < L then nI (cs p) else -1
theorem m_next (hc : CSx cs L) (h : PM cs L p ns so G0 G) (hp : p < 900) (k : post (mc cs L p) G) : wpX9_nextChar post G := by
  have hL := hc.1
  unfold wpX9_nextChar
  rw [h.1, h.2.2.1]
  unfold mc at k
  by_cases c : p < L
  · rw [if_pos c] at k
    refine ifF (nI_ge c (by omega)) ⟨vp_in_nI (by omega) (by decide), ?_⟩
    rw [nI_clamp (by omega), h.2.1 p c]
    exact k
  · rw [if_neg c] at k
    exact ifT (nI_le (by omega) (by omega)) k
theorem mc_eq (hc : CSx cs L) {c : Nat} (h1 : 1 ≤ c) (h2 : c < 1000) : mc cs L p = nI c ↔ cs p = c := by
  have := cs_le hc p
  unfold mc
  by_cases d : p < L
  · rw [if_pos d]; exact nI_eq (by omega) (by omega)
  · rw [if_neg d, hc.2.2 p (by omega)]
    constructor
    · intro g
      have := nI_pos' (n := c) (by omega)
      rw [← g] at this
      exact absurd this (by decide)
    · intro g; omega
theorem m_rT (hc : CSx cs L) (h : PM cs L p ns so G0 G) (hp : p < 900) {c : Nat} (h1 : 1 ≤ c) (h2 : c < 1000) (e : cs p = c) (k : ∀ G', PM cs L (p + 1) ns so G0 G' → post 1 G') : wpX9_reads post (nI c) G := by
  unfold wpX9_reads
  refine m_next hc h hp (ifT ((mc_eq hc h1 h2).mpr e) ?_)
  rintro G4 rfl
  rw [h.2.2.1, nI_1]
  exact k _ (PM_pos h _)
theorem m_rF (hc : CSx cs L) (h : PM cs L p ns so G0 G) (hp : p < 900) {c : Nat} (h1 : 1 ≤ c) (h2 : c < 1000) (e : cs p ≠ c) (k : post 0 G) : wpX9_reads post (nI c) G := by
  unfold wpX9_reads
  exact m_next hc h hp (ifF (fun g => e ((mc_eq hc h1 h2).mp g)) k)
theorem in4 {k : Nat} (hk : k < 4) : vp_in (nI k) (ln 196) := by rw [ln196]; exact vp_in_nI hk (by decide)
theorem mc_dT (hc : CSx cs L) (e : dgt (cs p)) : mc cs L p = nI (cs p) := if_pos (cs_in hc (by have := e.1; omega))
theorem mc_dF (hc : CSx cs L) (e : ¬ dgt (cs p)) : mc cs L p < 48 ∨ 57 < mc cs L p := by
  have := cs_le hc p
  unfold mc
  split
  · by_cases c : cs p < 48
    · exact Or.inl (nI_lt (b := 48) c (by decide))
    · exact Or.inr (nI_lt (a := 57) (Nat.lt_of_not_le (fun g => e ⟨by omega, g⟩)) (by omega))
  · exact Or.inl (by decide)
theorem m_dT (hc : CSx cs L) (h : PM cs L p ns so G0 G) (hp : p < 900) {j : Nat} (hj : j < 4) (e : dgt (cs p)) (k : ∀ G', PM cs L (p + 1) (upd ns j (nI (cs p - 48))) so G0 G' → post 1 G') : wpX9_readsDigit post (nI j) G := by
  unfold wpX9_readsDigit
  refine m_next hc h hp ?_
  rw [mc_dT hc e]
  refine m_inT (lo := 48) (hi := 57) e.1 e.2 (by decide) (ifF (by decide) (m_next hc h hp ?_))
  rw [mc_dT hc e, nI_clamp (by omega), show nI (cs p) - 48 = nI (cs p - 48) from pk_sub (b := 48) e.1]
  refine ⟨in4 hj, ?_⟩
  rintro G9 rfl G10 rfl
  rw [gI_ne _ _ _ (by decide), h.2.2.1, nI_1]
  exact k _ (PM_pos (PM_num h _ _) _)
theorem m_dF (hc : CSx cs L) (h : PM cs L p ns so G0 G) (hp : p < 900) {x : Int32} (e : ¬ dgt (cs p)) (k : post 0 G) : wpX9_readsDigit post x G := by
  unfold wpX9_readsDigit
  exact m_next hc h hp (m_inF (mc_dF hc e) (ifT rfl k))
theorem upd_upd (f : Nat → Int32) (k : Nat) (x y : Int32) : upd (upd f k x) k y = upd f k y := by
  funext j
  by_cases c : j = k
  · subst c; rw [upd_at, upd_at]
  · rw [upd_ne _ _ c, upd_ne _ _ c, upd_ne _ _ c]
theorem m_nT (hc : CSx cs L) (h : PM cs L p ns so G0 G) (hp : p < 800) {j : Nat} (hj : j < 4) (e : dgt (cs p)) (k : ∀ G', PM cs L (p + nlen cs p) (upd ns j (nI (nval cs p))) so G0 G' → post 1 G') : wpX9_readsNumber post (nI j) G := by
  unfold wpX9_readsNumber
  refine m_dT hc h (by omega) hj e (fun G1 h1 => ifF (by decide) (m_next hc h1 (by omega) ?_))
  rcases nl_cases cs p with ⟨d, d1, d2⟩ | ⟨d, d1, d2⟩
  · rw [mc_dT hc d]
    refine m_inT (lo := 48) (hi := 57) d.1 d.2 (by decide) (ifF (by decide) ⟨in4 hj, m_next hc h1 (by omega) ⟨in4 hj, ?_⟩⟩)
    rw [mc_dT hc d, nI_clamp (by omega), h1.2.2.2.1, upd_at, show (10 : Int32) = nI 10 from rfl, pk_mul, nI_add, show nI (10 * (cs p - 48) + cs (p + 1)) - 48 = nI (nval cs p) by
      rw [d2]; exact (pk_sub (b := 48) (by have := d.1; omega)).trans (congrArg nI (by have := d.1; omega))]
    rintro G9 rfl G10 rfl
    rw [gI_ne _ _ _ (by decide), h1.2.2.1, nI_1]
    have := PM_pos (PM_num h1 j (nI (nval cs p))) (p + 1 + 1)
    rw [upd_upd] at this
    exact k _ (by rw [d1]; exact this)
  · refine m_inF (mc_dF hc d) (ifT rfl ?_)
    exact k _ (by rw [d1, d2]; exact h1)
theorem m_nF (hc : CSx cs L) (h : PM cs L p ns so G0 G) (hp : p < 800) {x : Int32} (e : ¬ dgt (cs p)) (k : post 0 G) : wpX9_readsNumber post x G := by
  unfold wpX9_readsNumber
  exact m_dF hc h (by omega) e (ifT rfl k)
theorem m_kT (hc : CSx cs L) (h : PM cs L p ns so G0 G) (hp : p < 900) {j : Nat} (hj : j < 4) (e : isk (cs p)) (k : ∀ G', PM cs L (p + 1) (upd ns j (nI (cs p))) so G0 G' → post 1 G') : wpX9_readsKind post (nI j) G := by
  obtain ⟨i, hi, ei⟩ := kn_isk e
  have e0 : cs p ≠ 0 := by rcases e with e | e | e <;> omega
  have em : mc cs L p = nI (cs p) := if_pos (cs_in hc e0)
  have := cs_le hc p
  unfold wpX9_readsKind
  refine m_next hc h hp ⟨in4 hj, ?_⟩
  rw [em, nI_clamp (by omega)]
  rintro G4 rfl
  have h4 := PM_num h j (nI (cs p))
  refine ⟨in4 hj, ?_⟩
  rw [h4.2.2.2.1, upd_at]
  refine m_kind ?_
  rw [ei]
  refine ifF (nI_pos (by omega)) ⟨in4 hj, ?_⟩
  rw [h4.2.2.2.1, upd_at]
  exact m_rT hc h4 hp (by omega) (by omega) rfl (fun G' h' => ifF (by decide) (k G' h'))
theorem m_kF (hc : CSx cs L) (h : PM cs L p ns so G0 G) (hp : p < 900) {j : Nat} (hj : j < 4) (e : ¬ isk (cs p)) (k : ∀ G', PM cs L p (upd ns j (mc cs L p)) so G0 G' → post 0 G') : wpX9_readsKind post (nI j) G := by
  have := cs_le hc p
  unfold wpX9_readsKind
  refine m_next hc h hp ⟨in4 hj, ?_⟩
  rw [nI_clamp (by omega)]
  rintro G4 rfl
  have h4 := PM_num h j (mc cs L p)
  refine ⟨in4 hj, ?_⟩
  rw [h4.2.2.2.1, upd_at]
  refine m_kind ?_
  have ek : kn (mc cs L p) = -1 := by
    unfold mc
    split
    · exact kn_nisk (by omega) e
    · decide
  rw [ek]
  exact ifT (by decide) (k _ h4)
end SIGN
