/-! the changes: days -/
def dA (m : Nat) (A : Nat → Nat → Nat) : Nat → Nat → Nat := fun v j => if j = 4 ∨ j = 7 then A v j - m else A v j
def e1v (A : Nat → Nat → Nat) (v : Nat) : Nat := if A v 4 = 0 then 0 else 1
def ev (A : Nat → Nat → Nat) : Nat → Nat
  | 0 => 0
  | v + 1 => ev A v + e1v A v
def es (A : Nat → Nat → Nat) (n : Nat) : Nat → Nat
  | 0 => 0
  | m + 1 => es A n m + ev (dA m A) n
/-- a row of which the first i vaults have passed the day -/
def dp (a : Nat → Int32) (A : Nat → Nat → Nat) (i : Nat) : Nat → Int32 := fun k => if 16 ≤ k ∧ k < 16 + 8 * i ∧ ((k - 16) % 8 = 4 ∨ (k - 16) % 8 = 7) then nI (A ((k - 16) / 8) ((k - 16) % 8) - 1) else a k
def od (b : Nat) (a : Nat → Int32) (A : Nat → Nat → Nat) (e : Nat) : Nat → Int32 := upd (dp (upd a 1 (a 1 + 1)) A b) 13 (a 13 + nI e)
def rws (b n : Nat) (a : Nat → Int32) (A : Nat → Nat → Nat) : Nat → Nat → Int32
  | 0 => a
  | m + 1 => od b (rws b n a A m) (dA m A) (ev (dA m A) n)
theorem dA_0 (A : Nat → Nat → Nat) : dA 0 A = A := by
  funext v j
  unfold dA
  split
  · exact Nat.sub_zero _
  · rfl
theorem dA_s (m : Nat) (A : Nat → Nat → Nat) : dA 1 (dA m A) = dA (m + 1) A := by
  funext v j
  unfold dA
  by_cases c : j = 4 ∨ j = 7
  · rw [if_pos c, if_pos c, if_pos c, Nat.sub_sub]
  · rw [if_neg c, if_neg c, if_neg c]
theorem dp_0 (a : Nat → Int32) (A : Nat → Nat → Nat) : dp a A 0 = a := by
  funext k
  exact if_neg (by omega)
theorem dp_lo (a : Nat → Int32) (A : Nat → Nat → Nat) (i : Nat) {k : Nat} (h : k < 16 ∨ 16 + 8 * i ≤ k) : dp a A i k = a k := if_neg (by omega)
theorem dp_s (a : Nat → Int32) (A : Nat → Nat → Nat) (i : Nat) : upd (upd (dp a A i) (16 + 8 * i + 4) (nI (A i 4 - 1))) (16 + 8 * i + 7) (nI (A i 7 - 1)) = dp a A (i + 1) := by
  funext k
  by_cases c7 : k = 16 + 8 * i + 7
  · subst c7
    rw [upd_at]
    unfold dp
    rw [if_pos ⟨by omega, by omega, by omega⟩, show (16 + 8 * i + 7 - 16) / 8 = i by omega, show (16 + 8 * i + 7 - 16) % 8 = 7 by omega]
  rw [upd_ne _ _ c7]
  by_cases c4 : k = 16 + 8 * i + 4
  · subst c4
    rw [upd_at]
    unfold dp
    rw [if_pos ⟨by omega, by omega, by omega⟩, show (16 + 8 * i + 4 - 16) / 8 = i by omega, show (16 + 8 * i + 4 - 16) % 8 = 4 by omega]
  rw [upd_ne _ _ c4]
  unfold dp
  by_cases c : 16 ≤ k ∧ k < 16 + 8 * i ∧ ((k - 16) % 8 = 4 ∨ (k - 16) % 8 = 7)
  · rw [if_pos c, if_pos ⟨c.1, by omega, c.2.2⟩]
  · rw [if_neg c, if_neg (by omega)]
theorem dp_row {a : Nat → Int32} {A : Nat → Nat → Nat} {i v j : Nat} (hv : v < i) (hj : j < 8) (h : a (16 + 8 * v + j) = nI (A v j)) : dp a A i (16 + 8 * v + j) = nI (dA 1 A v j) := by
  unfold dp dA
  by_cases c : j = 4 ∨ j = 7
  · rw [if_pos c, if_pos ⟨by omega, by omega, by omega⟩, show (16 + 8 * v + j - 16) / 8 = v by omega, show (16 + 8 * v + j - 16) % 8 = j by omega]
  · rw [if_neg c, if_neg (by omega), h]
section DAYS
variable {n : Nat} {R : Nat → Nat} {A : Nat → Nat → Nat}
theorem ub_47 {j x : Nat} (h : x ≤ ub j) (y : Nat) : x - y ≤ ub j := Nat.le_trans (Nat.sub_le _ _) h
theorem dA_B (B : NB n R A) (m : Nat) : NB n R (dA m A) := by
  refine ⟨B.1, B.2.1, fun v j hv hj => ?_, fun v j h1 hv hj => ?_⟩
  · unfold dA
    split
    · exact ub_47 (B.2.2.1 v j hv hj) m
    · exact B.2.2.1 v j hv hj
  · unfold dA
    have := B.2.2.2 v j h1 hv hj
    by_cases c : j = 4 ∨ j = 7
    · rw [if_pos c, this, if_neg (by omega), Nat.zero_sub]
    · rw [if_neg c, this]
theorem od_C {a : Nat → Int32} (C : CR a n R A) (e : Nat) : CR (od 5 a A e) n R (dA 1 A) := by
  refine CR_t ⟨?_, fun k hk => ?_, fun v j hv hj => ?_⟩ (by unfold tk; omega) _
  · rw [dp_lo _ _ _ (by omega), upd_ne _ _ (by omega)]; exact C.1
  · rw [dp_lo _ _ _ (by omega), upd_ne _ _ (by omega)]; exact C.2.1 k hk
  · exact dp_row hv hj (by rw [upd_ne _ _ (by omega)]; exact C.2.2 v j hv hj)
theorem od_M {a : Nat → Int32} (M : MR a n R A) (e : Nat) : MR (od n a A e) n R (dA 1 A) := by
  refine MR_t ⟨?_, fun k hk => ?_, fun v j hv hj => ?_⟩ (by unfold tk; omega) _
  · rw [dp_lo _ _ _ (by omega), upd_ne _ _ (by omega)]; exact M.1
  · rw [dp_lo _ _ _ (by omega), upd_ne _ _ (by omega)]; exact M.2.1 k hk
  · exact dp_row hv hj (by rw [upd_ne _ _ (by omega)]; exact M.2.2 v j hv hj)
theorem od_T {a r : Nat → Int32} (T : TR a r) (b b' e : Nat) : TR (od b a A e) (od b' r A e) := by
  refine TR_t (fun k hk => ?_) 13 (by rw [T 13 (by unfold tk; omega)])
  have := tk_lt hk
  rw [dp_lo _ _ _ (by omega), dp_lo _ _ _ (by omega)]
  exact TR_t T 1 (by rw [T 1 (by unfold tk; omega)]) k hk
theorem rws_C {a : Nat → Int32} (C : CR a n R A) : ∀ m, CR (rws 5 n a A m) n R (dA m A) := by
  intro m
  induction m with
  | zero => rw [dA_0]; exact C
  | succ m ih => rw [← dA_s]; exact od_C ih _
theorem rws_M {a : Nat → Int32} (M : MR a n R A) : ∀ m, MR (rws n n a A m) n R (dA m A) := by
  intro m
  induction m with
  | zero => rw [dA_0]; exact M
  | succ m ih => rw [← dA_s]; exact od_M ih _
theorem rws_T {a r : Nat → Int32} (T : TR a r) : ∀ m, TR (rws 5 n a A m) (rws n n r A m) := by
  intro m
  induction m with
  | zero => exact T
  | succ m ih => exact od_T ih _ _ _
theorem ev_dead (B : NB n R A) : ∀ d, n + d ≤ 5 → ev A (n + d) = ev A n := by
  intro d
  induction d with
  | zero => intro _; rfl
  | succ d ih =>
    intro h
    show ev A (n + d) + e1v A (n + d) = ev A n
    rw [ih (by omega)]
    unfold e1v
    rw [B.2.2.2 (n + d) 4 (by omega) (by omega) (by decide)]
    rfl
/-- the class, one vault -/
theorem s_evap {G : GS} {post : Int32 → GS → Prop} {v x : Nat} (hv : v < 5) (hx : G.1 (0 + 1 + 4 + v) 2 = nI x) (h2 : x < 2 ^ 31) (h : ∀ G', Lgd 0 (upd (lg G.1 0) (16 + 8 * v + 4) (nI (x - 1))) G G' → post (nI (if x = 0 then 0 else 1)) G') : wpX7_evaporate post (0 + 1 + 4 + v) G := by
  unfold wpX7_evaporate
  rw [hx]
  by_cases c : x = 0
  · subst c
    refine ifT rfl (h G ?_)
    rw [upd_self ((lg_v G.1 0 hv (j := 2) (by decide) (by decide)).trans hx)]
    exact Lgd_1 rfl
  · rw [if_neg c] at h
    refine ifF (nI_ne0 (by omega) h2) ?_
    rintro G2 rfl
    rw [show nI x - 1 = nI (x - 1) from pk_sub (b := 1) (by omega)]
    exact h _ (Lgd_v G (j := 2) hv (by decide) (by decide) _)
theorem s_thaw {G : GS} {pv : GS → Prop} {v x : Nat} (hv : v < 5) (hx : G.1 (0 + 1 + 4 + v) 5 = nI x) (h2 : x < 2 ^ 31) (h : ∀ G', Lgd 0 (upd (lg G.1 0) (16 + 8 * v + 7) (nI (x - 1))) G G' → pv G') : wpX7_thaw pv (0 + 1 + 4 + v) G := by
  unfold wpX7_thaw
  rw [hx]
  by_cases c : x = 0
  · subst c
    refine ifT (by decide) (h G ?_)
    rw [upd_self ((lg_v G.1 0 hv (j := 5) (by decide) (by decide)).trans hx)]
    exact Lgd_1 rfl
  · refine ifF (nI_nle (by omega) h2) ?_
    rintro G2 rfl
    rw [show nI x - 1 = nI (x - 1) from pk_sub (b := 1) (by omega)]
    exact h _ (Lgd_v G (j := 5) hv (by decide) (by decide) _)
theorem lp_day {G : GS} {post : Int32 → GS → Prop} {a1 : Nat → Int32} (B : NB n R A) (C : CR a1 n R A) (h : ∀ G', Lgd 0 (upd (dp a1 A 5) 13 (a1 13 + nI (ev A 5))) G G' → post (nI (ev A 5)) G') : ∀ m i G0, i + m = 5 → Lgd 0 (dp a1 A i) G G0 → wlX3_letOneDayPass_14 post 0 (m + 1) G0 (nI (ev A i)) (nI i) := by
  intro m
  induction m with
  | zero =>
    intro i G0 hi I
    have e : i = 5 := by omega
    subst e
    rw [wlX3_letOneDayPass_14]
    refine ifT (nI_le (a := 5) (b := 5) (by decide) (by decide)) ?_
    rintro G3 rfl
    refine h _ ?_
    have t := Lgd_tr I (Lgd_t G0 (j := 2) (by decide) (G0.1 0 8 + nI (ev A 5)))
    have e8 : G0.1 0 8 = a1 13 := by
      have := lg_t G0.1 0 (k := 2) (by decide)
      rw [I.1] at this
      exact this.symm.trans (dp_lo _ _ _ (by omega))
    rw [I.1, e8] at t
    rw [e8]
    exact t
  | succ m ih =>
    intro i G0 hi I
    have hi5 : i < 5 := by omega
    rw [wlX3_letOneDayPass_14]
    refine ifF (nI_ge (b := 5) hi5 (by decide)) ⟨vp_in_nI hi5 (by decide), ?_⟩
    rw [nI_clamp (by omega)]
    have x2 : G0.1 (0 + 1 + 4 + i) 2 = nI (A i 4) := by
      rw [← lg_v G0.1 0 hi5 (by decide) (by decide), I.1, dp_lo _ _ _ (by omega)]
      exact C.2.2 i 4 hi5 (by decide)
    refine s_evap hi5 x2 (by have := A_le B hi5 (j := 4) (by decide); omega) (fun G1 g1 => ?_)
    rintro z rfl
    refine ⟨vp_in_nI hi5 (by decide), ?_⟩
    have x5 : G1.1 (0 + 1 + 4 + i) 5 = nI (A i 7) := by
      rw [← lg_v G1.1 0 hi5 (by decide) (by decide), g1.1, upd_ne _ _ (by omega), I.1, dp_lo _ _ _ (by omega)]
      exact C.2.2 i 7 hi5 (by decide)
    refine s_thaw hi5 x5 (by have := A_le B hi5 (j := 7) (by decide); omega) (fun G2 g2 => ?_)
    rintro y rfl
    rw [nI_add, nI_1]
    refine ih (i + 1) G2 (by omega) ?_
    have t := Lgd_tr (Lgd_tr I g1) g2
    rw [g1.1, I.1, dp_s] at t
    exact t
theorem s_day {G : GS} {post : Int32 → GS → Prop} (B : NB n R A) (C : CR (lg G.1 0) n R A) (h : ∀ G', Lgd 0 (od 5 (lg G.1 0) A (ev A n)) G G' → post (nI (ev A n)) G') : wpX3_letOneDayPass post 0 G := by
  have h5 := B.1
  have e5 : ev A 5 = ev A n := by have := ev_dead B (5 - n) (by omega); rwa [show n + (5 - n) = 5 by omega] at this
  unfold wpX3_letOneDayPass
  rintro G1 rfl
  refine ⟨5 + 1, lp_day (G := G) (a1 := upd (lg G.1 0) 1 (lg G.1 0 1 + 1)) B (CR_t C (by unfold tk; omega) _) (fun G' g => ?_) 5 0 _ rfl ?_⟩
  · rw [e5, upd_ne _ _ (by decide)] at g
    rw [e5]
    exact h G' g
  · rw [dp_0]
    exact ⟨lg_u1 G 0 _, fun q hq => gI_ne _ _ _ (by omega), rfl⟩
theorem lp_pass {G : GS} {post : Int32 → GS → Prop} {d : Nat} (hd : d < 2 ^ 31) (B : NB n R A) (C : CR (lg G.1 0) n R A) (h : ∀ G', Lgd 0 (rws 5 n (lg G.1 0) A d) G G' → post (nI (es A n d)) G') : ∀ m i G0, i + m = d → Lgd 0 (rws 5 n (lg G.1 0) A i) G G0 → wlX3_letPass_4 post 0 (nI d) (m + 1) G0 (nI (es A n i)) (nI i) := by
  intro m
  induction m with
  | zero =>
    intro i G0 hi I
    have e : i = d := by omega
    subst e
    rw [wlX3_letPass_4]
    exact ifT (nI_le (Nat.le_refl _) hd) (h G0 I)
  | succ m ih =>
    intro i G0 hi I
    rw [wlX3_letPass_4]
    refine ifF (nI_ge (by omega) hd) ?_
    refine s_day (dA_B B i) (by rw [I.1]; exact rws_C C i) (fun G1 g1 => ?_)
    rintro z rfl y rfl
    rw [nI_add, nI_1]
    refine ih (i + 1) G1 (by omega) ?_
    have t := Lgd_tr I g1
    rw [I.1] at t
    exact t
/-- the model, one vault -/
theorem lp_mday {G : GS} {post : Int32 → GS → Prop} {a1 : Nat → Int32} (B : NB n R A) (M : MR a1 n R A) (h : ∀ G', Mrw (upd (dp a1 A n) 13 (a1 13 + nI (ev A n))) G G' → post (nI (ev A n)) G') : ∀ m i G0, i + m = n → Mrw (dp a1 A i) G G0 → wlX9_passesOne_14 post (m + 1) G0 (nI (ev A i)) (nI i) := by
  have h5 := B.1
  intro m
  induction m with
  | zero =>
    intro i G0 hi I
    have e : i = n := by omega
    subst e
    rw [wlX9_passesOne_14]
    refine ⟨in56 (i := 0) (by decide), ?_⟩
    show if G0.1 190 0 ≤ _ then _ else _
    rw [I.1, dp_lo _ _ _ (by omega), M.1]
    refine ifT (nI_le (Nat.le_refl _) (by omega)) ⟨in56 (i := 13) (by decide), in56 (i := 13) (by decide), ?_⟩
    rintro G3 rfl
    refine h _ ?_
    have e13 : dp a1 A i 13 = a1 13 := dp_lo _ _ _ (by omega)
    show Mrw _ G (gI G0 190 13 (dp a1 A i 13 + nI (ev A i)))
    rw [e13]
    exact Mrw_s I _ _
  | succ m ih =>
    intro i G0 hi I
    have hi5 : i < 5 := by omega
    rw [wlX9_passesOne_14]
    refine ⟨in56 (i := 0) (by decide), ?_⟩
    show if G0.1 190 0 ≤ _ then _ else _
    rw [I.1, dp_lo _ _ _ (by omega), M.1]
    refine ifF (nI_ge (by omega) (by omega)) ?_
    have x4 : G0.1 190 (16 + 8 * i + 4) = nI (A i 4) := by rw [I.1, dp_lo _ _ _ (by omega)]; exact M.2.2 i 4 (by omega) (by decide)
    have l4 := A_le B hi5 (j := 4) (by decide)
    have l7 := A_le B hi5 (j := 7) (by decide)
    have thaw : ∀ (G1 : GS) (v1 : Int32), v1 = nI (ev A (i + 1)) → Mrw (upd (dp a1 A i) (16 + 8 * i + 4) (nI (A i 4 - 1))) G G1 → wbX9_passesOne_43 post (fun (G : GS) (v1 : Int32) (v2 : Int32) => wlX9_passesOne_14 post (m + 1) G v1 v2) G1 v1 (nI i) := by
      intro G1 v1 e g
      subst e
      have x7 : G1.1 190 (16 + 8 * i + 7) = nI (A i 7) := by rw [g.1, upd_ne _ _ (by omega), dp_lo _ _ _ (by omega)]; exact M.2.2 i 7 (by omega) (by decide)
      refine m_of (j := 7) hi5 (by decide) ?_
      rw [x7]
      by_cases c : A i 7 = 0
      · rw [c]
        refine ifT (by decide) ?_
        rintro z rfl
        rw [nI_1]
        refine ih (i + 1) G1 (by omega) ?_
        rw [← dp_s, c, upd_self (f := upd (dp a1 A i) (16 + 8 * i + 4) (nI (A i 4 - 1))) (by rw [← g.1, x7, c])]
        exact g
      · refine ifF (nI_nle (by omega) (by omega)) (m_adds (j := 7) hi5 (by decide) ?_)
        rintro z rfl
        rw [nI_1, x7, show nI (A i 7) + (-1) = nI (A i 7 - 1) by rw [show A i 7 = A i 7 - 1 + 1 by omega, pk_m1, Nat.add_sub_cancel]]
        refine ih (i + 1) _ (by omega) ?_
        rw [← dp_s]
        exact Mrw_s g _ _
    refine m_of (j := 4) hi5 (by decide) ?_
    rw [x4]
    by_cases c : A i 4 = 0
    · rw [c]
      refine ifT (by decide) (thaw _ _ ?_ ?_)
      · show nI (ev A i) = nI (ev A i + e1v A i)
        unfold e1v; rw [if_pos c, Nat.add_zero]
      · rw [c, upd_self (f := dp a1 A i) (by rw [← I.1, x4, c])]
        exact I
    · refine ifF (nI_nle (by omega) (by omega)) (m_adds (j := 4) hi5 (by decide) ?_)
      rintro z rfl
      rw [x4, show nI (A i 4) + (-1) = nI (A i 4 - 1) by rw [show A i 4 = A i 4 - 1 + 1 by omega, pk_m1, Nat.add_sub_cancel]]
      refine thaw _ _ ?_ (Mrw_s I _ _)
      rw [nI_1]
      show nI (ev A i + 1) = nI (ev A i + e1v A i)
      unfold e1v; rw [if_neg c]
theorem m_day {G : GS} {post : Int32 → GS → Prop} (B : NB n R A) (M : MR (G.1 190) n R A) (h : ∀ G', Mrw (od n (G.1 190) A (ev A n)) G G' → post (nI (ev A n)) G') : wpX9_passesOne post G := by
  unfold wpX9_passesOne
  refine ⟨in56 (i := 1) (by decide), in56 (i := 1) (by decide), ?_⟩
  rintro G1 rfl
  refine ⟨n + 1, lp_mday (G := G) (a1 := upd (G.1 190) 1 (G.1 190 1 + 1)) B (MR_t M (by unfold tk; omega) _) (fun G' g => ?_) n 0 _ (Nat.zero_add n) ?_⟩
  · rw [upd_ne _ _ (by decide)] at g
    exact h G' g
  · rw [dp_0]
    exact Mrw_1 _ _ _
theorem lp_mpass {G : GS} {post : Int32 → GS → Prop} {d : Nat} (hd : d < 2 ^ 31) (B : NB n R A) (M : MR (G.1 190) n R A) (h : ∀ G', Mrw (rws n n (G.1 190) A d) G G' → post (nI (es A n d)) G') : ∀ m i G0, i + m = d → Mrw (rws n n (G.1 190) A i) G G0 → wlX9_passes_4 post (nI d) (m + 1) G0 (nI (es A n i)) (nI i) := by
  intro m
  induction m with
  | zero =>
    intro i G0 hi I
    have e : i = d := by omega
    subst e
    rw [wlX9_passes_4]
    exact ifT (nI_le (Nat.le_refl _) hd) (h G0 I)
  | succ m ih =>
    intro i G0 hi I
    rw [wlX9_passes_4]
    refine ifF (nI_ge (by omega) hd) ?_
    refine m_day (dA_B B i) (by rw [I.1]; exact rws_M M i) (fun G1 g1 => ?_)
    rintro z rfl y rfl
    rw [nI_add, nI_1]
    refine ih (i + 1) G1 (by omega) ?_
    have t := Mrw_tr I g1
    rw [I.1] at t
    exact t
theorem d_wait (B : NB n R A) {d : Nat} (hd : d ≤ 30) : Does n R A (fun post G => wpX3_letPass post 0 (nI d) G) (fun post G => wpX9_passes post (nI d) G) (fun _ => True) := by
  refine ⟨n, R, dA d A, nI (es A n d), fun a => rws 5 n a A d, fun a => rws n n a A d, ?_, ?_, ?_, trivial⟩
  · intro G post C h
    exact ⟨d + 1, lp_pass (by omega) B C h d 0 G (Nat.zero_add d) (Lgd_1 rfl)⟩
  · intro G post M h
    exact ⟨d + 1, lp_mpass (by omega) B M h d 0 G (Nat.zero_add d) (Mrw_0 rfl)⟩
  · intro a r C M T
    exact ⟨dA_B B d, rws_C C d, rws_M M d, rws_T T d⟩
end DAYS
