/-! sums over vaults; the most flies by exchanges -/
def sf (A : Nat → Nat → Nat) (k : Nat) : Nat → Nat
  | 0 => 0
  | m + 1 => sf A k m + A m k
def sv (R : Nat → Nat) (A : Nat → Nat → Nat) : Nat → Nat
  | 0 => 0
  | m + 1 => sv R A m + vl R (A m)
section SUMS
variable {G : GS} {n : Nat} {R : Nat → Nat} {A : Nat → Nat → Nat} {post : Int32 → GS → Prop}
theorem dead_0 (B : NB n R A) {v j : Nat} (h : n ≤ v) (hv : v < 5) (hj : j < 8) (h5 : j ≠ 5) : A v j = 0 := by
  rw [B.2.2.2 v j h hv hj, if_neg h5]
theorem sf_dead (B : NB n R A) {k : Nat} (hk : k < 5) : ∀ d, n + d ≤ 5 → sf A k (n + d) = sf A k n := by
  intro d
  induction d with
  | zero => intro _; rfl
  | succ d ih =>
    intro h
    show sf A k (n + d) + A (n + d) k = sf A k n
    rw [ih (by omega), dead_0 B (by omega) (by omega) (by omega) (by omega)]
    rfl
theorem sf_5 (B : NB n R A) {k : Nat} (hk : k < 5) : sf A k 5 = sf A k n := by
  have h5 := B.1
  have := sf_dead B hk (5 - n) (by omega)
  rwa [show n + (5 - n) = 5 by omega] at this
theorem vl_dead (B : NB n R A) {v : Nat} (h : n ≤ v) (hv : v < 5) : vl R (A v) = 0 := by
  unfold vl
  rw [dead_0 B h hv (j := 3) (by decide) (by decide), dead_0 B h hv (j := 0) (by decide) (by decide), dead_0 B h hv (j := 1) (by decide) (by decide), dead_0 B h hv (j := 2) (by decide) (by decide)]
  simp
theorem sv_dead (B : NB n R A) : ∀ d, n + d ≤ 5 → sv R A (n + d) = sv R A n := by
  intro d
  induction d with
  | zero => intro _; rfl
  | succ d ih =>
    intro h
    show sv R A (n + d) + vl R (A (n + d)) = sv R A n
    rw [ih (by omega), vl_dead B (by omega) (by omega)]
    rfl
theorem sv_5 (B : NB n R A) : sv R A 5 = sv R A n := by
  have h5 := B.1
  have := sv_dead B (5 - n) (by omega)
  rwa [show n + (5 - n) = 5 by omega] at this
theorem sv_le (B : NB n R A) : ∀ m, m ≤ 5 → sv R A m ≤ 14899 * m := by
  intro m
  induction m with
  | zero => intro _; exact Nat.le_refl _
  | succ m ih =>
    intro h
    have := ih (by omega)
    have := vl_le B (v := m) (by omega)
    show sv R A m + vl R (A m) ≤ _
    omega
theorem sf_le (B : NB n R A) {k : Nat} (hk : k < 8) : ∀ m, m ≤ 5 → sf A k m ≤ 14949 * m := by
  intro m
  induction m with
  | zero => intro _; exact Nat.le_refl _
  | succ m ih =>
    intro h
    have := ih (by omega)
    have := A_le B (v := m) (j := k) (by omega) hk
    show sf A k m + A m k ≤ _
    omega
theorem lp_fbv (C : CR (lg G.1 0) n R A) {k : Nat} (hk : k < 3) (h : post (nI (sf A k 5)) G) : ∀ m i, i + m = 5 → wlX3_fliesByVaults_4 post 0 (nI k) (m + 1) G (nI (sf A k i)) (nI i) := by
  intro m
  induction m with
  | zero =>
    intro i hi
    have e : i = 5 := by omega
    subst e
    rw [wlX3_fliesByVaults_4]
    exact ifT (nI_le (a := 5) (b := 5) (by decide) (by decide)) h
  | succ m ih =>
    intro i hi
    have hi5 : i < 5 := by omega
    rw [wlX3_fliesByVaults_4]
    refine ifF (nI_ge (b := 5) hi5 (by decide)) ⟨vp_in_nI hi5 (by decide), ?_⟩
    rw [nI_clamp (show i < 2 ^ 31 by omega), nI_clamp (show k < 2 ^ 31 by omega)]
    refine ⟨vin3 hk (by omega), ?_⟩
    rintro z rfl y rfl
    rw [cf_h C hi5 k hk, nI_add, nI_1]
    exact ih (i + 1) (by omega)
theorem s_fbv (C : CR (lg G.1 0) n R A) (B : NB n R A) {k : Nat} (hk : k < 3) (h : post (nI (sf A k n)) G) : wpX3_fliesByVaults post 0 (nI k) G := by
  rw [← sf_5 B (by omega)] at h
  exact ⟨5 + 1, lp_fbv C hk h 5 0 rfl⟩
theorem lp_mfo (M : MR (G.1 190) n R A) (B : NB n R A) {k : Nat} (hk : k < 3) (h : post (nI (sf A k n)) G) : ∀ m i, i + m = n → wlX9_fliesOf_4 post (nI k) (m + 1) G (nI (sf A k i)) (nI i) := by
  have h5 := B.1
  intro m
  induction m with
  | zero =>
    intro i hi
    have e : i = n := by omega
    subst e
    rw [wlX9_fliesOf_4]
    refine ⟨in56 (i := 0) (by decide), ?_⟩
    show if G.1 190 0 ≤ _ then _ else _
    rw [M.1]
    exact ifT (nI_le (Nat.le_refl _) (by omega)) h
  | succ m ih =>
    intro i hi
    rw [wlX9_fliesOf_4]
    refine ⟨in56 (i := 0) (by decide), ?_⟩
    show if G.1 190 0 ≤ _ then _ else _
    rw [M.1]
    refine ifF (nI_ge (by omega) (by omega)) (m_ofN M B (by omega) (by omega) ?_)
    rintro z rfl y rfl
    rw [nI_add, nI_1]
    exact ih (i + 1) (by omega)
theorem m_fo (M : MR (G.1 190) n R A) (B : NB n R A) {k : Nat} (hk : k < 3) (h : post (nI (sf A k n)) G) : wpX9_fliesOf post (nI k) G := ⟨n + 1, lp_mfo M B hk h n 0 (Nat.zero_add n)⟩
theorem lp_vbv (C : CR (lg G.1 0) n R A) (h : post (nI (sv R A 5)) G) : ∀ m i, i + m = 5 → wlX3_valueByVaults_4 post 0 (m + 1) G (nI (sv R A i)) (nI i) := by
  intro m
  induction m with
  | zero =>
    intro i hi
    have e : i = 5 := by omega
    subst e
    rw [wlX3_valueByVaults_4]
    exact ifT (nI_le (a := 5) (b := 5) (by decide) (by decide)) h
  | succ m ih =>
    intro i hi
    have hi5 : i < 5 := by omega
    rw [wlX3_valueByVaults_4]
    refine ifF (nI_ge (b := 5) hi5 (by decide)) ⟨vp_in_nI hi5 (by decide), ?_⟩
    rw [nI_clamp (show i < 2 ^ 31 by omega)]
    refine s_legsV C hi5 ?_
    rintro z rfl y rfl
    rw [nI_add, nI_1]
    exact ih (i + 1) (by omega)
theorem s_vbv (C : CR (lg G.1 0) n R A) (B : NB n R A) (h : post (nI (sv R A n)) G) : wpX3_valueByVaults post 0 G := by
  rw [← sv_5 B] at h
  exact ⟨5 + 1, lp_vbv C h 5 0 rfl⟩
theorem lp_mva (M : MR (G.1 190) n R A) (B : NB n R A) (h : post (nI (sv R A n)) G) : ∀ m i, i + m = n → wlX9_valueAll_4 post (m + 1) G (nI (sv R A i)) (nI i) := by
  have h5 := B.1
  intro m
  induction m with
  | zero =>
    intro i hi
    have e : i = n := by omega
    subst e
    rw [wlX9_valueAll_4]
    refine ⟨in56 (i := 0) (by decide), ?_⟩
    show if G.1 190 0 ≤ _ then _ else _
    rw [M.1]
    exact ifT (nI_le (Nat.le_refl _) (by omega)) h
  | succ m ih =>
    intro i hi
    rw [wlX9_valueAll_4]
    refine ⟨in56 (i := 0) (by decide), ?_⟩
    show if G.1 190 0 ≤ _ then _ else _
    rw [M.1]
    refine ifF (nI_ge (by omega) (by omega)) (m_value M B (by omega) ?_)
    rintro z rfl y rfl
    rw [nI_add, nI_1]
    exact ih (i + 1) (by omega)
theorem m_va (M : MR (G.1 190) n R A) (B : NB n R A) (h : post (nI (sv R A n)) G) : wpX9_valueAll post G := ⟨n + 1, lp_mva M B h n 0 (Nat.zero_add n)⟩
theorem s_vok (C : CR (lg G.1 0) n R A) (B : NB n R A) {k : Nat} (hk : k < 3) (h : post (nI (sf A k n * R k)) G) : wpX3_valueOfKind post 0 (nI k) G := by
  unfold wpX3_valueOfKind
  refine s_fbv C B hk ⟨vin3 hk (by decide), ?_⟩
  rw [nI_clamp (by omega), cf_r C k hk, pk_mul]
  exact h
theorem sv_kinds (R : Nat → Nat) (A : Nat → Nat → Nat) : sv R A 5 = sf A 0 5 * R 0 + sf A 1 5 * R 1 + sf A 2 5 * R 2 + sf A 3 5 := by
  simp only [sv, sf, vl, Nat.add_mul, Nat.zero_mul]
  omega
theorem lp_vbk2 (C : CR (lg G.1 0) n R A) {z : Nat} (h : post (nI (z + sf A 3 5)) G) : ∀ m i, i + m = 5 → wlX3_valueByKinds_25 post 0 (m + 1) G (nI (z + sf A 3 i)) (nI i) := by
  intro m
  induction m with
  | zero =>
    intro i hi
    have e : i = 5 := by omega
    subst e
    rw [wlX3_valueByKinds_25]
    exact ifT (nI_le (a := 5) (b := 5) (by decide) (by decide)) h
  | succ m ih =>
    intro i hi
    have hi5 : i < 5 := by omega
    rw [wlX3_valueByKinds_25]
    refine ifF (nI_ge (b := 5) hi5 (by decide)) ⟨vp_in_nI hi5 (by decide), ?_⟩
    rw [nI_clamp (show i < 2 ^ 31 by omega)]
    rintro y rfl x rfl
    rw [cf_1 C hi5, nI_add, nI_1, Nat.add_assoc]
    exact ih (i + 1) (by omega)
def sk (R : Nat → Nat) (A : Nat → Nat → Nat) (n : Nat) : Nat → Nat
  | 0 => 0
  | k + 1 => sk R A n k + sf A k n * R k
theorem lp_vbk (C : CR (lg G.1 0) n R A) (B : NB n R A) (h : post (nI (sk R A n 3 + sf A 3 5)) G) : ∀ m i, i + m = 3 → wlX3_valueByKinds_4 post 0 (m + 1) G (nI (sk R A n i)) (nI i) := by
  intro m
  induction m with
  | zero =>
    intro i hi
    have e : i = 3 := by omega
    subst e
    rw [wlX3_valueByKinds_4]
    exact ifT (nI_le (a := 3) (b := 3) (by decide) (by decide)) ⟨5 + 1, lp_vbk2 C h 5 0 rfl⟩
  | succ m ih =>
    intro i hi
    rw [wlX3_valueByKinds_4]
    refine ifF (nI_ge (b := 3) (by omega) (by decide)) (s_vok C B (by omega) ?_)
    rintro z rfl y rfl
    rw [nI_add, nI_1]
    exact ih (i + 1) (by omega)
theorem s_vbk (C : CR (lg G.1 0) n R A) (B : NB n R A) (h : post (nI (sv R A n)) G) : wpX3_valueByKinds post 0 G := by
  rw [← sv_5 B, sv_kinds, sf_5 B (k := 0) (by decide), sf_5 B (k := 1) (by decide), sf_5 B (k := 2) (by decide)] at h
  refine ⟨3 + 1, lp_vbk C B ?_ 3 0 rfl⟩
  rw [show sk R A n 3 = sf A 0 n * R 0 + sf A 1 n * R 1 + sf A 2 n * R 2 by simp only [sk]; omega]
  exact h
/-- what the kinds from o on, but k, are worth -/
def tm (R f : Nat → Nat) (k o : Nat) : Nat := if o = k then 0 else f o * R o
def rst (R f : Nat → Nat) (k o : Nat) : Nat := if o = 0 then tm R f k 0 + tm R f k 1 + tm R f k 2 else if o = 1 then tm R f k 1 + tm R f k 2 else if o = 2 then tm R f k 2 else 0
theorem rst_s (R f : Nat → Nat) (k : Nat) {o : Nat} (h : o < 3) : rst R f k o = tm R f k o + rst R f k (o + 1) := by
  obtain rfl | rfl | rfl : o = 0 ∨ o = 1 ∨ o = 2 := by omega
  · simp only [rst]; simp; omega
  · simp only [rst]; simp
  · simp only [rst]; simp
theorem rst_0 (R f : Nat → Nat) {k : Nat} (h : k < 3) : f k * R k + f 3 + rst R f k 0 = vl R f := by
  obtain rfl | rfl | rfl : k = 0 ∨ k = 1 ∨ k = 2 := by omega
  · simp only [rst, tm, vl]; simp; omega
  · simp only [rst, tm, vl]; simp; omega
  · simp only [rst, tm, vl]; simp; omega
theorem sw_step (C : CR (lg G.1 0) n R A) (B : NB n R A) {v k o m most c : Nat} {sw : Int32} (hv : v < 5) (hk : k < 3) (ho : o < 3) (hV : most * R k + c + rst R (A v) k o = vl R (A v)) (hs : sw = 0 ∨ (sw = 1 ∧ c < R k))
    (h : ∀ (most' c' : Nat) (sw' : Int32), most' * R k + c' + rst R (A v) k (o + 1) = vl R (A v) → (sw' = 0 ∨ (sw' = 1 ∧ c' < R k)) → wlX7_mostBySwaps_19 post (0 + 1 + 4 + v) (nI k) (0 + 2) m G (nI most') (nI c') sw' (nI (o + 1))) : wlX7_mostBySwaps_19 post (0 + 1 + 4 + v) (nI k) (0 + 2) (m + 1) G (nI most) (nI c) sw (nI o) := by
  have hVb := vl_le B hv
  have hRk := B.2.1 k hk
  have hrs := rst_s R (A v) k ho
  have hA := A_le B hv (j := o) (by omega)
  rw [wlX7_mostBySwaps_19]
  refine ifF (nI_ge (b := 3) ho (by decide)) ?_
  by_cases e : o = k
  · subst e
    refine ifT rfl ?_
    rintro z rfl
    rw [nI_1]
    refine h most c sw ?_ hs
    unfold tm at hrs
    rw [if_pos rfl] at hrs
    omega
  · refine ifF (fun g => e ((nI_eq (by omega) (by omega)).mp g)) ⟨vin3 ho (by omega), ?_⟩
    rw [nI_clamp (show o < 2 ^ 31 by omega), nI_clamp (show k < 2 ^ 31 by omega), cf_h C hv o ho]
    unfold tm at hrs
    rw [if_neg e] at hrs
    by_cases z : A v o = 0
    · rw [z, Nat.zero_mul] at hrs
      refine ifT (by rw [z]; decide) ?_
      rintro y rfl
      rw [nI_1]
      exact h most c sw (by omega) hs
    · refine ifF (nI_nle (by omega) (by omega)) ⟨vin3 ho (by omega), vin3 ho (by decide), ?_⟩
      rintro y rfl
      rw [cf_r C o ho, cf_r C k hk, pk_mul, nI_add]
      refine ⟨vin3 hk (by decide), s_quot (by omega) hRk.1 (by omega) ?_⟩
      rintro x rfl
      refine ⟨vin3 hk (by decide), ?_⟩
      rintro w rfl u rfl
      rw [cf_r C k hk, nI_add, nI_1, ← pk_div (a := A v o * R o + c) (d := R k) (by omega) hRk.1 (by omega), pk_rem (by omega) hRk.1 (by omega)]
      refine h _ _ 1 ?_ (Or.inr ⟨rfl, Nat.mod_lt _ (by omega)⟩)
      have := Nat.div_add_mod' (A v o * R o + c) (R k)
      rw [Nat.add_mul]
      omega
theorem s_mostS (C : CR (lg G.1 0) n R A) (B : NB n R A) {v k : Nat} (hv : v < 5) (hk : k < 3) (h : post (nI (vl R (A v) / R k)) G) : wpX7_mostBySwaps post (0 + 1 + 4 + v) (nI k) (0 + 2) G := by
  have hVb := vl_le B hv
  have hRk := B.2.1 k hk
  unfold wpX7_mostBySwaps
  rw [nI_clamp (show k < 2 ^ 31 by omega), cf_h C hv k hk, cf_1 C hv]
  refine ⟨vin3 hk (by omega), ?_⟩
  rintro z rfl y rfl
  refine ⟨3 + 1, ?_⟩
  refine sw_step (o := 0) (m := 2 + 1) C B hv hk (by decide) (rst_0 R (A v) hk) (Or.inl rfl) (fun most1 c1 sw1 i1 j1 => ?_)
  refine sw_step (o := 1) (m := 1 + 1) C B hv hk (by decide) i1 j1 (fun most2 c2 sw2 i2 j2 => ?_)
  refine sw_step (o := 2) (m := 0 + 1) C B hv hk (by decide) i2 j2 (fun most c sw i3 j3 => ?_)
  have i4 : most * R k + c = vl R (A v) := by
    have : rst R (A v) k 3 = 0 := rfl
    rw [show 2 + 1 = 3 from rfl] at i3
    omega
  have e : vl R (A v) / R k = most + c / R k := by
    rw [← i4, Nat.add_comm, Nat.add_mul_div_right _ _ (by omega), Nat.add_comm]
  rw [e] at h
  rw [wlX7_mostBySwaps_19]
  refine ifT (nI_le (a := 3) (b := 3) (by decide) (by decide)) ?_
  have hc : c ≤ vl R (A v) := by omega
  rcases j3 with j3 | ⟨j3, hc2⟩
  · refine ifT j3 ⟨vin3 hk (by decide), ?_⟩
    rw [nI_clamp (show k < 2 ^ 31 by omega), cf_r C k hk]
    refine s_quot (by omega) hRk.1 (by omega) ?_
    rw [nI_add]
    exact h
  · refine ifF (by rw [j3]; decide) ?_
    rw [Nat.div_eq_of_lt hc2] at h
    exact h
end SUMS
