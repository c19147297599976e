/-! the changes: when they are refused, by both sides alike -/
def Nots (n : Nat) (R : Nat → Nat) (A : Nat → Nat → Nat) (wx : (Nat → GS → Prop) → GS → Prop) (wm : (Int32 → GS → Prop) → GS → Prop) (cd : Nat → Int32) (al : List Nat) (K : Prop) : Prop :=
  ∃ o, o ∈ al ∧ (∀ (G : GS) (pn : Nat → GS → Prop), CR (lg G.1 0) n R A → pn o G → wx pn G) ∧ (∀ (G : GS) (post : Int32 → GS → Prop), MR (G.1 190) n R A → post (cd o) G → wm post G) ∧ (o = 0 → K)
/-- the model's codes of the refusals, call by call: all; without the state's; without the means'; without vaults -/
def cdA (o : Nat) : Int32 := nI o
def cdR (o : Nat) : Int32 := if o = 4 then 3 else nI o
def cdI (o : Nat) : Int32 := if o = 3 then 2 else nI o
def cdO (o : Nat) : Int32 := if o = 0 then 0 else nI (o - 1)
theorem gI_back (G : GS) (p k : Nat) (y : Int32) : gI (gI G p k y) p k (G.1 p k) = G := by
  obtain ⟨M, g⟩ := G
  unfold gI
  refine Prod.ext ?_ rfl
  funext q
  show (if q = p then upd (if p = p then upd (M p) k y else M p) k (M p k) else if q = p then upd (M p) k y else M q) = M q
  by_cases c : q = p
  · subst c
    rw [if_pos rfl, if_pos rfl]
    funext i
    by_cases d : i = k
    · subst d; rw [upd_at]
    · rw [upd_ne _ _ d, upd_ne _ _ d]
  · rw [if_neg c, if_neg c]
section NOTS
variable {n : Nat} {R : Nat → Nat} {A : Nat → Nat → Nat}
theorem n_open (B : NB n R A) (a1 : Int32) : Nots n R A (fun pn G => wpX3_refusalToOpen pn 0 a1 G) (fun post G => wpX9_notVault post a1 G) cdO [0, 2, 3] (∃ t, t ≤ 9 ∧ a1 = nI t ∧ n < 5) := by
  have h5 := B.1
  rcases arg_cases a1 0 9 (by decide) with ⟨t, h0, h9, rfl⟩ | h
  · by_cases c : n < 5
    · refine ⟨0, by decide, fun G pn C k => ?_, fun G post M k => ?_, fun _ => ⟨t, h9, rfl, c⟩⟩
      · refine s_inT (lo := 0) (hi := 9) h0 h9 (by decide) (ifF (by decide) ?_)
        rw [cf_n C]
        exact ifT (nI_lt (b := 5) c (by decide)) k
      · refine m_inT (lo := 0) (hi := 9) h0 h9 (by decide) (ifF (by decide) ⟨in56 (i := 0) (by decide), ?_⟩)
        show if G.1 190 0 = 5 then _ else _
        rw [M.1]
        exact ifF (fun e => by have := (nI_eq (b := 5) (by omega) (by decide)).mp e; omega) k
    · have e : n = 5 := by omega
      subst e
      refine ⟨3, by decide, fun G pn C k => ?_, fun G post M k => ?_, fun e => absurd e (by decide)⟩
      · refine s_inT (lo := 0) (hi := 9) h0 h9 (by decide) (ifF (by decide) ?_)
        rw [cf_n C]
        exact ifF (by decide) k
      · refine m_inT (lo := 0) (hi := 9) h0 h9 (by decide) (ifF (by decide) ⟨in56 (i := 0) (by decide), ?_⟩)
        show if G.1 190 0 = 5 then _ else _
        rw [M.1]
        exact ifT rfl k
  · refine ⟨2, by decide, fun G pn C k => ?_, fun G post M k => ?_, fun e => absurd e (by decide)⟩
    · exact s_inF (lo := 0) (hi := 9) h (ifT rfl k)
    · exact m_inF h (ifT rfl k)
theorem n_put (B : NB n R A) (a1 a2 a3 : Int32) : Nots n R A (fun pn G => wpX3_refusalToPut pn 0 a1 a2 a3 G) (fun post G => wpX9_notDeposit post a1 a2 a3 G) cdA [0, 1, 2, 3] (∃ v k f, v < n ∧ k < 3 ∧ a1 = nI v ∧ kn a2 = nI k ∧ 1 ≤ f ∧ f ≤ 30 ∧ a3 = nI f ∧ A v k + f ≤ 99) := by
  have h5 := B.1
  have bad : a1 < 0 ∨ nI n ≤ a1 → Nots n R A (fun pn G => wpX3_refusalToPut pn 0 a1 a2 a3 G) (fun post G => wpX9_notDeposit post a1 a2 a3 G) cdA [0, 1, 2, 3] (∃ v k f, v < n ∧ k < 3 ∧ a1 = nI v ∧ kn a2 = nI k ∧ 1 ≤ f ∧ f ≤ 30 ∧ a3 = nI f ∧ A v k + f ≤ 99) := fun h =>
    ⟨1, by decide, fun G pn C k => s_hasF C h (ifT rfl k), fun G post M k => m_isF M.1 h5 h (ifT rfl k), fun e => absurd e (by decide)⟩
  rcases pk_ix a1 (n := n) (by omega) with h | h | ⟨v, hv, rfl⟩
  · exact bad (Or.inl h)
  · exact bad (Or.inr h)
  clear bad
  rcases kn_cases a2 with ⟨k, hk, ek⟩ | ek
  · rcases arg_cases a3 1 30 (by decide) with ⟨f, f1, f2, rfl⟩ | h
    · have hb := A_le B (v := v) (j := k) (by omega) (by omega)
      by_cases c : A v k + f ≤ 99
      · refine ⟨0, by decide, fun G pn C q => ?_, fun G post M q => ?_, fun _ => ⟨v, k, f, hv, hk, rfl, ek, f1, f2, rfl, c⟩⟩
        · refine s_hasT C B hv (ifF (by decide) (s_kind ?_))
          rw [ek]
          refine ifF (nI_pos (by omega)) (s_inT (lo := 1) (hi := 30) f1 f2 (by decide) (ifF (by decide) ⟨vp_in_nI (by omega) (by decide), ?_⟩))
          rw [nI_clamp (by omega), nI_clamp (by omega), ln3 (by omega)]
          refine ⟨vp_in_nI hk (by decide), ?_⟩
          rw [cf_h C (by omega) k hk, nI_add]
          exact ifT (nI_le (b := 99) c (by decide)) q
        · refine m_isT M.1 h5 hv (ifF (by decide) (m_kind ?_))
          rw [ek]
          refine ifF (nI_pos (by omega)) (m_inT (lo := 1) (hi := 30) f1 f2 (by decide) (ifF (by decide) (m_kind ?_)))
          rw [ek]
          refine m_ofN M B hv (by omega) ?_
          rw [nI_add]
          exact ifT (nI_le (b := 99) c (by decide)) q
      · refine ⟨3, by decide, fun G pn C q => ?_, fun G post M q => ?_, fun e => absurd e (by decide)⟩
        · refine s_hasT C B hv (ifF (by decide) (s_kind ?_))
          rw [ek]
          refine ifF (nI_pos (by omega)) (s_inT (lo := 1) (hi := 30) f1 f2 (by decide) (ifF (by decide) ⟨vp_in_nI (by omega) (by decide), ?_⟩))
          rw [nI_clamp (by omega), nI_clamp (by omega), ln3 (by omega)]
          refine ⟨vp_in_nI hk (by decide), ?_⟩
          rw [cf_h C (by omega) k hk, nI_add]
          exact ifF (nI_ge (a := 99) (by omega) (by omega)) q
        · refine m_isT M.1 h5 hv (ifF (by decide) (m_kind ?_))
          rw [ek]
          refine ifF (nI_pos (by omega)) (m_inT (lo := 1) (hi := 30) f1 f2 (by decide) (ifF (by decide) (m_kind ?_)))
          rw [ek]
          refine m_ofN M B hv (by omega) ?_
          rw [nI_add]
          exact ifF (nI_ge (a := 99) (by omega) (by omega)) q
    · refine ⟨2, by decide, fun G pn C q => ?_, fun G post M q => ?_, fun e => absurd e (by decide)⟩
      · refine s_hasT C B hv (ifF (by decide) (s_kind ?_))
        rw [ek]
        exact ifF (nI_pos (by omega)) (s_inF (lo := 1) (hi := 30) h (ifT rfl q))
      · refine m_isT M.1 h5 hv (ifF (by decide) (m_kind ?_))
        rw [ek]
        exact ifF (nI_pos (by omega)) (m_inF h (ifT rfl q))
  · refine ⟨2, by decide, fun G pn C q => ?_, fun G post M q => ?_, fun e => absurd e (by decide)⟩
    · refine s_hasT C B hv (ifF (by decide) (s_kind ?_))
      rw [ek]
      exact ifT (by decide) q
    · refine m_isT M.1 h5 hv (ifF (by decide) (m_kind ?_))
      rw [ek]
      exact ifT (by decide) q
theorem take_num (R f : Nat → Nat) {k m : Nat} (hk : k < 3) (hm : m ≤ f k) : vl R (fun j => if j = k then f k - m else f j) + m * R k = vl R f := by
  have e : (f k - m) * R k + m * R k = f k * R k := by rw [← Nat.add_mul, Nat.sub_add_cancel hm]
  unfold vl
  obtain rfl | rfl | rfl : k = 0 ∨ k = 1 ∨ k = 2 := by omega
  · simp only [if_pos, if_neg, show ¬ (3 = 0) by decide, show ¬ (1 = 0) by decide, show ¬ (2 = 0) by decide, if_false]; omega
  · simp only [if_pos, if_neg, show ¬ (3 = 1) by decide, show ¬ (0 = 1) by decide, show ¬ (2 = 1) by decide, if_false]; omega
  · simp only [if_pos, if_neg, show ¬ (3 = 2) by decide, show ¬ (0 = 2) by decide, show ¬ (1 = 2) by decide, if_false]; omega
theorem uA_row (A : Nat → Nat → Nat) (v k x : Nat) : uA A v k x v = fun j => if j = k then x else A v j := by
  funext j
  unfold uA
  by_cases c : j = k
  · rw [if_pos ⟨rfl, c⟩, if_pos c]
  · rw [if_neg (fun e => c e.2), if_neg c]
theorem ngs {h f : Nat} (e : f ≤ h) : nI h + -nI f = nI (h - f) := by rw [← Int32.sub_eq_add_neg, pk_sub e]
theorem take_le (R f : Nat → Nat) {k m : Nat} (hk : k < 3) (hm : m ≤ f k) : m * R k ≤ vl R f := by
  have := take_num R f hk hm; omega
theorem take111 {G : GS} {pn : Nat → GS → Prop} {q : Nat} {a b c : Int32} (h : pn 4 G) : wbX3_refusalToTake_111 pn q a b c G := by
  unfold wbX3_refusalToTake_111 wbX3_refusalToTake_112
  exact ifT rfl h
theorem takeU {G : GS} (C : CR (lg G.1 0) n R A) (B : NB n R A) {v k f : Nat} {a2 : Int32} (hv : v < n) (hk : k < 3) (ek : kn a2 = nI k) (f1 : 1 ≤ f) (f2 : f ≤ 30) (cf : A v 7 = 0) {pn : Nat → GS → Prop} (h1 : A v k < f → pn 4 G) (h2 : f ≤ A v k → bk R (uA A v k (A v k - f) v) < A v 4 → pn 4 G) (h3 : f ≤ A v k → ¬ bk R (uA A v k (A v k - f) v) < A v 4 → pn 0 G) : wpX3_refusalToTake pn 0 (nI v) a2 (nI f) G := by
  have h5 := B.1
  have hv5 : v < 5 := by omega
  have hbk := A_le B (v := v) (j := k) hv5 (by omega)
  have hd := A_le B (v := v) (j := 4) hv5 (by decide)
  have hV := vl_le B hv5
  refine s_hasT C B hv (ifF (by decide) (s_kind ?_))
  rw [ek]
  refine ifF (nI_pos (by omega)) (s_inT (lo := 1) (hi := 30) f1 f2 (by decide) (ifF (by decide) ⟨vp_in_nI (by omega) (by decide), ?_⟩))
  rw [nI_clamp (show v < 2 ^ 31 by omega), nI_clamp (show k < 2 ^ 31 by omega)]
  refine s_frozen C B hv5 ?_
  rw [if_pos cf]
  refine ifT rfl (s_legsV C hv5 ?_)
  refine ⟨vp_in_nI (by rw [ln3 (by decide)]; exact hk) (by rw [ln3 (by decide)]; decide), ?_⟩
  rintro z rfl
  refine ⟨vp_in_nI (by rw [ln3 (by omega)]; exact hk) (by rw [ln3 (by omega)]; decide), ?_⟩
  rw [cf_h C hv5 k hk, cf_r C k hk, cf_2 C hv5]
  by_cases c : A v k < f
  · exact ifT (nI_lt c (by omega)) (take111 (h1 c))
  refine ifF (nI_nlt (by omega) (by omega)) ?_
  have e := take_num R (A v) hk (show f ≤ A v k by omega)
  have e6 : uA A v k (A v k - f) v 6 = A v 6 := uA_ne _ _ (by omega)
  rw [pk_mul, pk_sub (take_le R (A v) hk (by omega)), show vl R (A v) - f * R k = vl R (uA A v k (A v k - f) v) by rw [uA_row]; omega]
  refine s_back (cf_4 C hv5) ?_ (B.2.2.1 v 6 hv5 (by decide)) ?_
  · rw [uA_row]; omega
  rw [show vl R (uA A v k (A v k - f) v) - vl R (uA A v k (A v k - f) v) * A v 6 / 10 = bk R (uA A v k (A v k - f) v) by unfold bk; rw [e6]]
  have K := bk_le R (uA A v k (A v k - f) v)
  rw [uA_row] at K
  by_cases d : bk R (uA A v k (A v k - f) v) < A v 4
  · exact ifT (nI_lt d (by omega)) (take111 (h2 (by omega) d))
  · refine ifF (nI_nlt (by omega) ?_) (ifF (by decide) (h3 (by omega) d))
    rw [uA_row]; omega
theorem m_soundWithout {G : GS} {post : Int32 → GS → Prop} (M : MR (G.1 190) n R A) (B : NB n R A) {v k f : Nat} (hv : v < n) (hk : k < 3) (hf : f ≤ A v k) (h : post (if bk R (uA A v k (A v k - f) v) < A v 4 then 0 else 1) G) : wpX9_isSoundWithout post (nI v) (nI k) (nI f) G := by
  have h5 := B.1
  have hv5 : v < 5 := by omega
  have hd := A_le B (v := v) (j := 4) hv5 (by decide)
  have hub := B.2.2.1 v k hv5 (by omega)
  have B' : NB n R (uA A v k (A v k - f)) := NB_h B hv (by omega)
  have hV := vl_le B' hv5
  have K := bk_le R (uA A v k (A v k - f) v)
  unfold wpX9_isSoundWithout
  refine m_adds hv5 (by omega) ?_
  have M' : MR ((gI G 190 (16 + 8 * v + k) (G.1 190 (16 + 8 * v + k) + -nI f)).1 190) n R (uA A v k (A v k - f)) := by
    rw [gI_at]
    exact MR_h M (by omega) (by rw [M.2.2 v k hv (by omega), ngs hf])
  refine m_spare M' B' hv ?_
  have back : ∀ t : Int32, narrow .boolean (.int t) = .int t → post t G → wbX9_isSoundWithout_21 post (nI v) (nI k) (nI f) (gI G 190 (16 + 8 * v + k) (G.1 190 (16 + 8 * v + k) + -nI f)) t := by
    intro t ht hp
    unfold wbX9_isSoundWithout_21
    refine m_adds hv5 (by omega) ⟨ht, ?_⟩
    rw [gI_at, upd_at, show G.1 190 (16 + 8 * v + k) + -nI f + nI f = G.1 190 (16 + 8 * v + k) by grind, gI_back]
    exact hp
  rw [uA_ne (v' := v) (j' := 4) A _ (by omega)]
  by_cases d : bk R (uA A v k (A v k - f) v) < A v 4
  · rw [if_pos d] at h
    exact ifT ((sp_lt (by omega) (by omega)).mpr d) (back 0 nb_01.2 h)
  · rw [if_neg d] at h
    exact ifF (fun g => d ((sp_lt (by omega) (by omega)).mp g)) (back 1 nb_01.1 h)
theorem n_take (B : NB n R A) (a1 a2 a3 : Int32) : Nots n R A (fun pn G => wpX3_refusalToTake pn 0 a1 a2 a3 G) (fun post G => wpX9_notWithdraw post a1 a2 a3 G) cdA [0, 1, 2, 3, 4] (∃ v k f, v < n ∧ k < 3 ∧ a1 = nI v ∧ kn a2 = nI k ∧ 1 ≤ f ∧ f ≤ 30 ∧ a3 = nI f ∧ f ≤ A v k) := by
  have h5 := B.1
  have bad : a1 < 0 ∨ nI n ≤ a1 → Nots n R A (fun pn G => wpX3_refusalToTake pn 0 a1 a2 a3 G) (fun post G => wpX9_notWithdraw post a1 a2 a3 G) cdA [0, 1, 2, 3, 4] (∃ v k f, v < n ∧ k < 3 ∧ a1 = nI v ∧ kn a2 = nI k ∧ 1 ≤ f ∧ f ≤ 30 ∧ a3 = nI f ∧ f ≤ A v k) := fun h =>
    ⟨1, by decide, fun G pn C k => s_hasF C h (ifT rfl k), fun G post M k => m_isF M.1 h5 h (ifT rfl k), fun e => absurd e (by decide)⟩
  rcases pk_ix a1 (n := n) (by omega) with h | h | ⟨v, hv, rfl⟩
  · exact bad (Or.inl h)
  · exact bad (Or.inr h)
  clear bad
  have hv5 : v < 5 := by omega
  rcases kn_cases a2 with ⟨k, hk, ek⟩ | ek
  · rcases arg_cases a3 1 30 (by decide) with ⟨f, f1, f2, rfl⟩ | h
    · have hbk := A_le B (v := v) (j := k) hv5 (by omega)
      have h7 := A_le B (v := v) (j := 7) hv5 (by decide)
      have mU : ∀ (G : GS) (post : Int32 → GS → Prop), MR (G.1 190) n R A → A v 7 = 0 → (A v k < f → post 4 G) → (f ≤ A v k → bk R (uA A v k (A v k - f) v) < A v 4 → post 4 G) → (f ≤ A v k → ¬ bk R (uA A v k (A v k - f) v) < A v 4 → post 0 G) → wpX9_notWithdraw post (nI v) a2 (nI f) G := by
        intro G post M cf h1 h2 h3
        refine m_isT M.1 h5 hv (ifF (by decide) (m_kind ?_))
        rw [ek]
        refine ifF (nI_pos (by omega)) (m_inT (lo := 1) (hi := 30) f1 f2 (by decide) (ifF (by decide) ?_))
        refine m_ofN (j := 7) M B hv (by decide) ?_
        rw [cf]
        refine ifT (by decide) (m_kind ?_)
        rw [ek]
        refine m_ofN M B hv (by omega) ?_
        by_cases c : A v k < f
        · exact ifT (nI_lt c (by omega)) (h1 c)
        refine ifF (nI_nlt (by omega) (by omega)) (m_kind ?_)
        rw [ek]
        refine m_soundWithout M B hv hk (by omega) ?_
        by_cases d : bk R (uA A v k (A v k - f) v) < A v 4
        · rw [if_pos d]; exact ifT rfl (h2 (by omega) d)
        · rw [if_neg d]; exact ifF (by decide) (h3 (by omega) d)
      by_cases cf : A v 7 = 0
      · by_cases c : f ≤ A v k
        · by_cases d : bk R (uA A v k (A v k - f) v) < A v 4
          · exact ⟨4, by decide, fun G pn C q => takeU C B hv hk ek f1 f2 cf (fun _ => q) (fun _ _ => q) (fun _ g => absurd d g), fun G post M q => mU G post M cf (fun _ => q) (fun _ _ => q) (fun _ g => absurd d g), fun e => absurd e (by decide)⟩
          · exact ⟨0, by decide, fun G pn C q => takeU C B hv hk ek f1 f2 cf (fun g => absurd c (by omega)) (fun _ g => absurd g d) (fun _ _ => q), fun G post M q => mU G post M cf (fun g => absurd c (by omega)) (fun _ g => absurd g d) (fun _ _ => q), fun _ => ⟨v, k, f, hv, hk, rfl, ek, f1, f2, rfl, c⟩⟩
        · exact ⟨4, by decide, fun G pn C q => takeU C B hv hk ek f1 f2 cf (fun _ => q) (fun _ _ => q) (fun g => absurd g c), fun G post M q => mU G post M cf (fun _ => q) (fun _ _ => q) (fun g => absurd g c), fun e => absurd e (by decide)⟩
      · refine ⟨3, by decide, fun G pn C q => ?_, fun G post M q => ?_, fun e => absurd e (by decide)⟩
        · refine s_hasT C B hv (ifF (by decide) (s_kind ?_))
          rw [ek]
          refine ifF (nI_pos (by omega)) (s_inT (lo := 1) (hi := 30) f1 f2 (by decide) (ifF (by decide) ⟨vp_in_nI (by omega) (by decide), ?_⟩))
          rw [nI_clamp (show v < 2 ^ 31 by omega)]
          refine s_frozen C B hv5 ?_
          rw [if_neg cf]
          exact ifF (by decide) q
        · refine m_isT M.1 h5 hv (ifF (by decide) (m_kind ?_))
          rw [ek]
          refine ifF (nI_pos (by omega)) (m_inT (lo := 1) (hi := 30) f1 f2 (by decide) (ifF (by decide) ?_))
          refine m_ofN (j := 7) M B hv (by decide) ?_
          exact ifF (nI_nle (by omega) (by omega)) q
    · refine ⟨2, by decide, fun G pn C q => ?_, fun G post M q => ?_, fun e => absurd e (by decide)⟩
      · refine s_hasT C B hv (ifF (by decide) (s_kind ?_))
        rw [ek]
        exact ifF (nI_pos (by omega)) (s_inF (lo := 1) (hi := 30) h (ifT rfl q))
      · refine m_isT M.1 h5 hv (ifF (by decide) (m_kind ?_))
        rw [ek]
        exact ifF (nI_pos (by omega)) (m_inF h (ifT rfl q))
  · refine ⟨2, by decide, fun G pn C q => ?_, fun G post M q => ?_, fun e => absurd e (by decide)⟩
    · refine s_hasT C B hv (ifF (by decide) (s_kind ?_))
      rw [ek]
      exact ifT (by decide) q
    · refine m_isT M.1 h5 hv (ifF (by decide) (m_kind ?_))
      rw [ek]
      exact ifT (by decide) q
end NOTS
