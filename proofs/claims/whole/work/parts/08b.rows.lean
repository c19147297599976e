/-! the two rows: numbers, bounds, changes; leaves of both sides -/
def ub (j : Nat) : Nat := if j < 3 then 99 else if j = 3 then 49 else if j = 4 then 14949 else if j = 5 then 3 else if j = 6 then 9 else 5
/-- bounds; a vault that has not been added has one wing and nothing else -/
def NB (n : Nat) (R : Nat → Nat) (A : Nat → Nat → Nat) : Prop :=
  n ≤ 5 ∧ (∀ k, k < 3 → 1 ≤ R k ∧ R k ≤ 50) ∧ (∀ v j, v < 5 → j < 8 → A v j ≤ ub j) ∧ (∀ v j, n ≤ v → v < 5 → j < 8 → A v j = if j = 5 then 1 else 0)
/-- the row of the class; of the model; the counters of both -/
def CR (a : Nat → Int32) (n : Nat) (R : Nat → Nat) (A : Nat → Nat → Nat) : Prop :=
  a 0 = nI n ∧ (∀ k, k < 3 → a (2 + k) = nI (R k)) ∧ (∀ v j, v < 5 → j < 8 → a (16 + 8 * v + j) = nI (A v j))
def MR (r : Nat → Int32) (n : Nat) (R : Nat → Nat) (A : Nat → Nat → Nat) : Prop :=
  r 0 = nI n ∧ (∀ k, k < 3 → r (2 + k) = nI (R k)) ∧ (∀ v j, v < n → j < 8 → r (16 + 8 * v + j) = nI (A v j))
def tk (k : Nat) : Prop := k = 1 ∨ (5 ≤ k ∧ k < 16)
def TR (a r : Nat → Int32) : Prop := ∀ k, tk k → a k = r k
def uA (A : Nat → Nat → Nat) (v j x : Nat) : Nat → Nat → Nat := fun v' j' => if v' = v ∧ j' = j then x else A v' j'
def uR (R : Nat → Nat) (k x : Nat) : Nat → Nat := fun k' => if k' = k then x else R k'
theorem uA_at (A : Nat → Nat → Nat) (v j x : Nat) : uA A v j x v j = x := if_pos ⟨rfl, rfl⟩
theorem uA_ne (A : Nat → Nat → Nat) {v j v' j' : Nat} (x : Nat) (h : v' ≠ v ∨ j' ≠ j) : uA A v j x v' j' = A v' j' := if_neg (fun e => by omega)
theorem uR_at (R : Nat → Nat) (k x : Nat) : uR R k x k = x := if_pos rfl
theorem uR_ne (R : Nat → Nat) {k k' : Nat} (x : Nat) (h : k' ≠ k) : uR R k x k' = R k' := if_neg h
theorem CR_h {a : Nat → Int32} {n : Nat} {R : Nat → Nat} {A : Nat → Nat → Nat} (h : CR a n R A) {v j : Nat} (hv : v < 5) (hj : j < 8) {y : Int32} {x : Nat} (hy : y = nI x) : CR (upd a (16 + 8 * v + j) y) n R (uA A v j x) := by
  subst hy
  refine ⟨by rw [upd_ne _ _ (by omega)]; exact h.1, fun k hk => by rw [upd_ne _ _ (by omega)]; exact h.2.1 k hk, fun v' j' hv' hj' => ?_⟩
  by_cases c : v' = v ∧ j' = j
  · obtain ⟨rfl, rfl⟩ := c; rw [upd_at, uA_at]
  · rw [upd_ne _ _ (by omega), uA_ne _ _ (by omega)]; exact h.2.2 v' j' hv' hj'
theorem MR_h {a : Nat → Int32} {n : Nat} {R : Nat → Nat} {A : Nat → Nat → Nat} (h : MR a n R A) {v j : Nat} (hj : j < 8) {y : Int32} {x : Nat} (hy : y = nI x) : MR (upd a (16 + 8 * v + j) y) n R (uA A v j x) := by
  subst hy
  refine ⟨by rw [upd_ne _ _ (by omega)]; exact h.1, fun k hk => by rw [upd_ne _ _ (by omega)]; exact h.2.1 k hk, fun v' j' hv' hj' => ?_⟩
  by_cases c : v' = v ∧ j' = j
  · obtain ⟨rfl, rfl⟩ := c; rw [upd_at, uA_at]
  · rw [upd_ne _ _ (by omega), uA_ne _ _ (by omega)]; exact h.2.2 v' j' hv' hj'
theorem CR_r {a : Nat → Int32} {n : Nat} {R : Nat → Nat} {A : Nat → Nat → Nat} (h : CR a n R A) {k : Nat} (hk : k < 3) {y : Int32} {x : Nat} (hy : y = nI x) : CR (upd a (2 + k) y) n (uR R k x) A := by
  subst hy
  refine ⟨by rw [upd_ne _ _ (by omega)]; exact h.1, fun k' hk' => ?_, fun v' j' hv' hj' => by rw [upd_ne _ _ (by omega)]; exact h.2.2 v' j' hv' hj'⟩
  by_cases c : k' = k
  · subst c; rw [upd_at, uR_at]
  · rw [upd_ne _ _ (by omega), uR_ne _ _ c]; exact h.2.1 k' hk'
theorem MR_r {a : Nat → Int32} {n : Nat} {R : Nat → Nat} {A : Nat → Nat → Nat} (h : MR a n R A) {k : Nat} (hk : k < 3) {y : Int32} {x : Nat} (hy : y = nI x) : MR (upd a (2 + k) y) n (uR R k x) A := by
  subst hy
  refine ⟨by rw [upd_ne _ _ (by omega)]; exact h.1, fun k' hk' => ?_, fun v' j' hv' hj' => by rw [upd_ne _ _ (by omega)]; exact h.2.2 v' j' hv' hj'⟩
  by_cases c : k' = k
  · subst c; rw [upd_at, uR_at]
  · rw [upd_ne _ _ (by omega), uR_ne _ _ c]; exact h.2.1 k' hk'
theorem tk_lt {k : Nat} (h : tk k) : k < 16 ∧ k ≠ 0 ∧ k ≠ 2 ∧ k ≠ 3 ∧ k ≠ 4 := by unfold tk at h; omega
theorem CR_t {a : Nat → Int32} {n : Nat} {R : Nat → Nat} {A : Nat → Nat → Nat} (h : CR a n R A) {k : Nat} (hk : tk k) (y : Int32) : CR (upd a k y) n R A := by
  have := tk_lt hk
  exact ⟨by rw [upd_ne _ _ (by omega)]; exact h.1, fun k' hk' => by rw [upd_ne _ _ (by omega)]; exact h.2.1 k' hk', fun v' j' hv' hj' => by rw [upd_ne _ _ (by omega)]; exact h.2.2 v' j' hv' hj'⟩
theorem MR_t {a : Nat → Int32} {n : Nat} {R : Nat → Nat} {A : Nat → Nat → Nat} (h : MR a n R A) {k : Nat} (hk : tk k) (y : Int32) : MR (upd a k y) n R A := by
  have := tk_lt hk
  exact ⟨by rw [upd_ne _ _ (by omega)]; exact h.1, fun k' hk' => by rw [upd_ne _ _ (by omega)]; exact h.2.1 k' hk', fun v' j' hv' hj' => by rw [upd_ne _ _ (by omega)]; exact h.2.2 v' j' hv' hj'⟩
theorem TR_t {a r : Nat → Int32} (h : TR a r) (k : Nat) {x y : Int32} (e : x = y) : TR (upd a k x) (upd r k y) := by
  subst e
  intro k' hk'
  by_cases c : k' = k
  · subst c; rw [upd_at, upd_at]
  · rw [upd_ne _ _ c, upd_ne _ _ c]; exact h k' hk'
theorem TR_a {a r : Nat → Int32} (h : TR a r) {k : Nat} (hk : ¬ tk k) (x : Int32) : TR (upd a k x) r := fun k' hk' => by
  have e : k' ≠ k := fun e => by subst e; exact hk hk'
  rw [upd_ne _ _ e]; exact h k' hk'
theorem TR_m {a r : Nat → Int32} (h : TR a r) {k : Nat} (hk : ¬ tk k) (x : Int32) : TR a (upd r k x) := fun k' hk' => by
  have e : k' ≠ k := fun e => by subst e; exact hk hk'
  rw [upd_ne _ _ e]; exact h k' hk'
theorem ntk_h (v j : Nat) : ¬ tk (16 + 8 * v + j) := by unfold tk; omega
theorem ntk_r {k : Nat} (hk : k < 3) : ¬ tk (2 + k) := by unfold tk; omega
theorem ntk_0 : ¬ tk 0 := by unfold tk; omega
theorem NB_h {n : Nat} {R : Nat → Nat} {A : Nat → Nat → Nat} (h : NB n R A) {v j x : Nat} (hv : v < n) (hx : x ≤ ub j) : NB n R (uA A v j x) := by
  refine ⟨h.1, h.2.1, fun v' j' hv' hj' => ?_, fun v' j' hn hv' hj' => ?_⟩
  · by_cases c : v' = v ∧ j' = j
    · obtain ⟨rfl, rfl⟩ := c; rw [uA_at]; exact hx
    · rw [uA_ne _ _ (by omega)]; exact h.2.2.1 v' j' hv' hj'
  · rw [uA_ne _ _ (by omega)]; exact h.2.2.2 v' j' hn hv' hj'
theorem NB_r {n : Nat} {R : Nat → Nat} {A : Nat → Nat → Nat} (h : NB n R A) {k x : Nat} (h1 : 1 ≤ x) (h2 : x ≤ 50) : NB n (uR R k x) A := by
  refine ⟨h.1, fun k' hk' => ?_, h.2.2.1, h.2.2.2⟩
  by_cases c : k' = k
  · subst c; rw [uR_at]; exact ⟨h1, h2⟩
  · rw [uR_ne _ _ c]; exact h.2.1 k' hk'
/-- the value of a vault, and the dew that it can bear -/
def vl (R : Nat → Nat) (f : Nat → Nat) : Nat := f 3 + f 0 * R 0 + f 1 * R 1 + f 2 * R 2
def bk (R : Nat → Nat) (f : Nat → Nat) : Nat := vl R f - vl R f * f 6 / 10
theorem vl_le {n : Nat} {R : Nat → Nat} {A : Nat → Nat → Nat} (h : NB n R A) {v : Nat} (hv : v < 5) : vl R (A v) ≤ 14899 := by
  have a0 := h.2.2.1 v 0 hv (by decide)
  have a1 := h.2.2.1 v 1 hv (by decide)
  have a2 := h.2.2.1 v 2 hv (by decide)
  have a3 := h.2.2.1 v 3 hv (by decide)
  have m0 := Nat.mul_le_mul a0 (h.2.1 0 (by decide)).2
  have m1 := Nat.mul_le_mul a1 (h.2.1 1 (by decide)).2
  have m2 := Nat.mul_le_mul a2 (h.2.1 2 (by decide)).2
  simp only [ub] at a3 m0 m1 m2
  simp at a3 m0 m1 m2
  unfold vl
  omega
theorem bk_le (R f : Nat → Nat) : bk R f ≤ vl R f := Nat.sub_le _ _
theorem A_le {n : Nat} {R : Nat → Nat} {A : Nat → Nat → Nat} (h : NB n R A) {v j : Nat} (hv : v < 5) (hj : j < 8) : A v j ≤ 14949 := by
  have := h.2.2.1 v j hv hj
  refine Nat.le_trans this ?_
  unfold ub
  repeat' split
  all_goals omega
theorem div10 {a : Nat} (h : a < 2 ^ 31) : nI a / 10 = nI (a / 10) := pk_div h (by decide) (by decide)
theorem rsv_num {V t : Nat} (hV : V ≤ 100000) (ht : t ≤ 9) : nI V * nI t / 10 = nI (V * t / 10) ∧ V * t / 10 ≤ V := by
  have := Nat.mul_le_mul hV ht
  have h2 := Nat.mul_le_mul_left V ht
  exact ⟨by rw [pk_mul, div10 (by omega)], by omega⟩
theorem bck_num {V t : Nat} (hV : V ≤ 100000) (ht : t ≤ 9) : nI V - nI V * nI t / 10 = nI (V - V * t / 10) := by
  rw [(rsv_num hV ht).1, pk_sub (rsv_num hV ht).2]
theorem sp_lt {b d : Nat} (hb : b < 2 ^ 30) (hd : d < 2 ^ 30) : nI b - nI d < 0 ↔ b < d := by
  rw [Int32.lt_iff_toInt_lt, pk_sub_toInt hb hd, Int32.toInt_zero]; omega
theorem sp_le {b d : Nat} (hb : b < 2 ^ 30) (hd : d < 2 ^ 30) : nI b - nI d ≤ 0 ↔ b ≤ d := by
  rw [Int32.le_iff_toInt_le, pk_sub_toInt hb hd, Int32.toInt_zero]; omega
theorem sp_ge {b d : Nat} (hb : b < 2 ^ 30) (hd : d < 2 ^ 30) : 0 ≤ nI b - nI d ↔ d ≤ b := by
  rw [Int32.le_iff_toInt_le, pk_sub_toInt hb hd, Int32.toInt_zero]; omega
theorem sp_gt {b d : Nat} (hb : b < 2 ^ 30) (hd : d < 2 ^ 30) : 0 < nI b - nI d ↔ d < b := by
  rw [Int32.lt_iff_toInt_lt, pk_sub_toInt hb hd, Int32.toInt_zero]; omega
theorem sp_x {x b d : Nat} (hx : x < 2 ^ 30) (hb : b < 2 ^ 30) (hd : d < 2 ^ 30) : nI x ≤ nI b - nI d ↔ x + d ≤ b := by
  rw [Int32.le_iff_toInt_le, pk_sub_toInt hb hd, nI_toInt (by omega)]; omega
theorem sp_eq {b d : Nat} (hb : b < 2 ^ 30) (hd : d < 2 ^ 30) : nI b - nI d = 0 ↔ b = d := by
  rw [← Int32.toInt_inj, pk_sub_toInt hb hd, Int32.toInt_zero]; omega
theorem sp_neg {b d : Nat} (h : b ≤ d) : -(nI b - nI d) = nI (d - b) := by
  rw [← pk_sub h]; grind
theorem ln3 {p : Nat} (h : p < 165) : ln p = 3 := if_pos h
/-- the number of a kind -/
def kn (x : Int32) : Int32 := if x = 103 then 0 else if x = 109 then 1 else if x = 104 then 2 else -1
theorem kn_cases (x : Int32) : (∃ k, k < 3 ∧ kn x = nI k) ∨ kn x = -1 := by
  unfold kn
  split
  · exact Or.inl ⟨0, by decide, rfl⟩
  · split
    · exact Or.inl ⟨1, by decide, rfl⟩
    · split
      · exact Or.inl ⟨2, by decide, rfl⟩
      · exact Or.inr rfl
/-- an argument against bounds -/
theorem arg_cases (x : Int32) (lo hi : Nat) (hh : hi < 2 ^ 30) (hl : lo ≤ hi := by decide) : (∃ m, lo ≤ m ∧ m ≤ hi ∧ x = nI m) ∨ x < nI lo ∨ nI hi < x := by
  have h1 : (nI lo).toInt = lo := nI_toInt (by omega)
  have h2 : (nI hi).toInt = hi := nI_toInt (by omega)
  by_cases c1 : x < nI lo
  · exact Or.inr (Or.inl c1)
  by_cases c2 : nI hi < x
  · exact Or.inr (Or.inr c2)
  rw [Int32.lt_iff_toInt_lt, h1] at c1
  rw [Int32.lt_iff_toInt_lt, h2] at c2
  refine Or.inl ⟨x.toInt.toNat, by omega, by omega, Int32.toInt_inj.mp ?_⟩
  rw [nI_toInt (by omega)]
  omega
