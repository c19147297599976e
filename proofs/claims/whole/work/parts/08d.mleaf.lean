/-! leaves of the model -/
theorem ix_num {v j : Nat} : (16 + 8 * nI v) + nI j = nI (16 + 8 * v + j) := by
  rw [show (16 : Int32) = nI 16 from rfl, show (8 : Int32) = nI 8 from rfl, pk_mul, nI_add, nI_add]
theorem ln190 : ln 190 = 56 := by decide
theorem ln193 : ln 193 = 56 := by decide
theorem ln192 : ln 192 = 56 := by decide
theorem ln191 : ln 191 = 448 := by decide
theorem ln196 : ln 196 = 4 := by decide
section MLEAF
variable {G : GS} {n : Nat} {R : Nat → Nat} {A : Nat → Nat → Nat} {post : Int32 → GS → Prop} {pv : GS → Prop}
theorem in56 {i : Nat} (h : i < 56) : vp_in (nI i) (ln 190) := by rw [ln190]; exact vp_in_nI h (by decide)
theorem m_of {v j : Nat} (hv : v < 5) (hj : j < 8) (h : post (G.1 190 (16 + 8 * v + j)) G) : wpX9_of post (nI v) (nI j) G := by
  unfold wpX9_of
  rw [ix_num]
  refine ⟨in56 (by omega), ?_⟩
  rw [nI_clamp (by omega)]
  exact h
theorem m_ofN (M : MR (G.1 190) n R A) (B : NB n R A) {v j : Nat} (hv : v < n) (hj : j < 8) (h : post (nI (A v j)) G) : wpX9_of post (nI v) (nI j) G := by
  have := B.1
  refine m_of (by omega) hj ?_
  rw [M.2.2 v j hv hj]
  exact h
theorem m_adds {v j : Nat} {x : Int32} (hv : v < 5) (hj : j < 8) (h : pv (gI G 190 (16 + 8 * v + j) (G.1 190 (16 + 8 * v + j) + x))) : wpX9_adds pv (nI v) (nI j) x G := by
  unfold wpX9_adds
  rw [ix_num]
  refine ⟨in56 (by omega), in56 (by omega), ?_⟩
  rintro G3 rfl
  rw [nI_clamp (by omega)]
  exact h
theorem m_puts {v j : Nat} {x : Int32} (hv : v < 5) (hj : j < 8) (h : pv (gI G 190 (16 + 8 * v + j) x)) : wpX9_puts pv (nI v) (nI j) x G := by
  unfold wpX9_puts
  rw [ix_num]
  refine ⟨in56 (by omega), ?_⟩
  rintro G3 rfl
  rw [nI_clamp (by omega)]
  exact h
theorem m_kind {x : Int32} (h : post (kn x) G) : wpX9_kindOf post x G := by
  unfold wpX9_kindOf
  unfold kn at h
  by_cases c1 : x = 103
  · rw [if_pos c1] at h ⊢; exact h
  rw [if_neg c1] at h ⊢
  by_cases c2 : x = 109
  · rw [if_pos c2] at h ⊢; exact h
  rw [if_neg c2] at h ⊢
  by_cases c3 : x = 104
  · rw [if_pos c3] at h ⊢; exact h
  rw [if_neg c3] at h ⊢
  exact h
theorem m_inT {m lo hi : Nat} (h1 : lo ≤ m) (h2 : m ≤ hi) (hh : hi < 2 ^ 31) (h : post 1 G) : wpX9_isBetween post (nI m) (nI lo) (nI hi) G :=
  ifF (nI_nlt h1 (by omega)) (ifF (nI_nlt h2 hh) h)
theorem m_inF {x a b : Int32} (hx : x < a ∨ b < x) (h : post 0 G) : wpX9_isBetween post x a b G := by
  unfold wpX9_isBetween
  by_cases c : x < a
  · exact ifT c h
  · exact ifF c (ifT (hx.resolve_left c) h)
theorem nb_01 : narrow .boolean (.int 1) = .int 1 ∧ narrow .boolean (.int 0) = .int 0 := by decide
theorem m_isT (hn : G.1 190 0 = nI n) (h5 : n ≤ 5) {v : Nat} (hv : v < n) (h : post 1 G) : wpX9_isVault post (nI v) G := by
  unfold wpX9_isVault
  refine ⟨in56 (i := 0) (by decide), ?_⟩
  show wpX9_isBetween _ _ _ (G.1 190 0 - 1) G
  rw [hn, show nI n - 1 = nI (n - 1) from pk_sub (b := 1) (by omega)]
  exact m_inT (lo := 0) (Nat.zero_le v) (by omega) (by omega) ⟨nb_01.1, h⟩
theorem m_isF (hn : G.1 190 0 = nI n) (h5 : n ≤ 5) {x : Int32} (hx : x < 0 ∨ nI n ≤ x) (h : post 0 G) : wpX9_isVault post x G := by
  unfold wpX9_isVault
  refine ⟨in56 (i := 0) (by decide), ?_⟩
  show wpX9_isBetween _ _ _ (G.1 190 0 - 1) G
  rw [hn]
  refine m_inF ?_ ⟨nb_01.2, h⟩
  rcases hx with hx | hx
  · exact Or.inl hx
  · refine Or.inr ?_
    rw [Int32.lt_iff_toInt_lt, show (1 : Int32) = nI 1 from rfl, pk_sub_toInt (by omega) (by decide)]
    rw [Int32.le_iff_toInt_le, nI_toInt (by omega)] at hx
    omega
theorem mval_step (M : MR (G.1 190) n R A) (B : NB n R A) {v k m : Nat} {acc : Int32} (hv : v < n) (hk : k < 3) (h : wlX9_valueOf_9 post (nI v) m G (acc + nI (A v k) * nI (R k)) (nI (k + 1))) : wlX9_valueOf_9 post (nI v) (m + 1) G acc (nI k) := by
  rw [wlX9_valueOf_9]
  refine ifF (nI_ge hk (by decide)) ?_
  refine m_ofN M B hv (by omega) ?_
  rw [show (2 : Int32) = nI 2 from rfl, nI_add]
  refine ⟨in56 (by omega), ?_⟩
  rintro z rfl y rfl
  rw [nI_clamp (by omega), M.2.1 k hk, nI_1]
  exact h
theorem m_value (M : MR (G.1 190) n R A) (B : NB n R A) {v : Nat} (hv : v < n) (h : post (nI (vl R (A v))) G) : wpX9_valueOf post (nI v) G := by
  unfold wpX9_valueOf
  refine m_ofN (j := 3) M B hv (by decide) ?_
  refine ⟨3 + 1, ?_⟩
  refine mval_step (k := 0) (m := 2 + 1) M B hv (by decide) ?_
  refine mval_step (k := 1) (m := 1 + 1) M B hv (by decide) ?_
  refine mval_step (k := 2) (m := 0 + 1) M B hv (by decide) ?_
  rw [wlX9_valueOf_9, pk_mul, pk_mul, pk_mul, nI_add, nI_add, nI_add]
  exact ifT (nI_le (a := 3) (b := 3) (by decide) (by decide)) h
theorem m_reserve (M : MR (G.1 190) n R A) (B : NB n R A) {v : Nat} (hv : v < n) (h : post (nI (vl R (A v) * A v 6 / 10)) G) : wpX9_reserveOf post (nI v) G := by
  have h5 := B.1
  have V := vl_le B (v := v) (by omega)
  unfold wpX9_reserveOf
  refine m_value M B hv ?_
  refine m_ofN (j := 6) M B hv (by decide) ?_
  rw [(rsv_num (by omega) (B.2.2.1 v 6 (by omega) (by decide))).1]
  exact h
theorem m_spare (M : MR (G.1 190) n R A) (B : NB n R A) {v : Nat} (hv : v < n) (h : post (nI (bk R (A v)) - nI (A v 4)) G) : wpX9_spare post (nI v) G := by
  have h5 := B.1
  have V := vl_le B (v := v) (by omega)
  have r := rsv_num (V := vl R (A v)) (by omega) (B.2.2.1 v 6 (by omega) (by decide))
  unfold wpX9_spare
  refine m_value M B hv ?_
  refine m_reserve M B hv ?_
  refine m_ofN (j := 4) M B hv (by decide) ?_
  rw [pk_sub r.2]
  exact h
theorem m_fails {x : Int32} (h : post 0 (gI G 189 0 x)) : wpX9_fails post x G := by
  unfold wpX9_fails
  rintro G1 rfl
  exact h
end MLEAF
