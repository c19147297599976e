/-! what holds at the start -/
def R00 (k : Nat) : Nat := if k = 0 then 2 else if k = 1 then 6 else 20
def A00 (_ j : Nat) : Nat := if j = 5 then 1 else 0
theorem inv00 (qb : Nat) : Inv (G00 qb) := by
  have r1 : ∀ k, k < 3 → 1 ≤ R00 k ∧ R00 k ≤ 50 := by decide
  have r2 : ∀ j, j < 8 → (if j = 5 then 1 else 0) ≤ ub j := by decide
  have r3 : ∀ k, k < 3 → lg M0 0 (2 + k) = nI (R00 k) := by decide +kernel
  have r4 : ∀ v, v < 5 → ∀ j, j < 8 → lg M0 0 (16 + 8 * v + j) = nI (A00 v j) := by decide +kernel
  have r5 : ∀ k, k < 3 → M0 190 (2 + k) = nI (R00 k) := by decide +kernel
  have r6 : ∀ k, k < 16 → (k = 1 ∨ 5 ≤ k) → lg M0 0 k = M0 190 k := by decide +kernel
  refine ⟨⟨0, R00, A00, ⟨by decide, r1, fun v j _ hj => r2 j hj, fun v j _ _ _ => rfl⟩, ⟨by rfl, r3, fun v j hv hj => r4 v hv j hj⟩, ⟨by rfl, r5, fun v j hv => absurd hv (Nat.not_lt_zero v)⟩, fun k hk => ?_⟩, ?_, ?_, ?_, ?_, ?_⟩
  · rcases hk with hk | ⟨h1, h2⟩
    · exact r6 k (by omega) (Or.inl hk)
    · exact r6 k h2 (Or.inr h1)
  · exact ⟨0, 0, 0, by decide, by decide, by decide, by rfl, by rfl, by rfl, by rfl, fun i hi => absurd hi (Nat.not_lt_zero i)⟩
  · exact Or.inl ⟨by rfl, by rfl⟩
  · exact ⟨⟨by rfl, Or.inl (by rfl)⟩, ⟨by rfl, Or.inl (by rfl)⟩⟩
  · exact ⟨0, by decide, by rfl, by rfl, fun i hi => absurd hi (Nat.not_lt_zero i)⟩
  · refine ⟨by rfl, Or.inl rfl, fun i => ?_, 0, by decide, Nat.zero_le _, by rfl, by rfl, fun i hi => absurd hi (Nat.not_lt_zero i)⟩
    show fits .byte (.int (M0 188 i)) = true
    rw [show M0 188 i = 0 from rfl]
    decide
