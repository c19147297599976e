/-! the made world as the pool -/
def M0 (p k : Nat) : Int32 :=
  if p < 165 then (if p % 15 = 2 then (if k = 0 then 2 else if k = 1 then 6 else if k = 2 then 20 else 0) else if 5 ≤ p % 15 ∧ p % 15 < 10 ∧ k = 3 then 1 else 0)
  else if p = 165 then (if k = 7 ∨ k = 8 then -1 else 0)
  else if 171 ≤ p ∧ p < 187 then (if k = 0 then 9 else if k = 2 then 103 else if k = 3 then 109 else 0)
  else if p = 189 then (if k = 13 ∨ k = 14 then -1 else 0)
  else if p = 190 then (if k = 2 then 2 else if k = 3 then 6 else if k = 4 then 20 else 0)
  else 0
def G00 (qb : Nat) : GS := (M0, (qb, 16), ((fun _ => 0), (fun _ => 0)))
def mg (Fa : Nat → Nat → Nat) (fs : Nat → Nat) (tl : List Nat) (a n3 qh p : Nat) : Nat := if p < 165 then Fa (p / 15) (p % 15) else if p = 165 then a else if p = 166 then n3 else if p = 167 then qh else if p < 187 then fs (p - 168) else tl.getD (p - 187) 0
def mperm (p : Nat) : Nat := if p < 45 then p + 1 else if p < 165 then p + 3 else if p = 165 then 0 else if p = 166 then 46 else if p = 167 then 47 else p
theorem mperm_inj {i j : Nat} (hi : i < 199) (hj : j < 199) (h : mperm i = mperm j) : i = j := by
  unfold mperm at h
  split at h <;> split at h <;> (try split at h) <;> (try split at h) <;> (try split at h) <;> (try split at h) <;> (try split at h) <;> (try split at h) <;> (try split at h) <;> (try split at h) <;> omega
theorem M0L {t k : Nat} (ht : t < 11) (hk : k < 15) : M0 (15 * t + k) = M0 k := by
  funext j
  unfold M0
  rw [if_pos (show 15 * t + k < 165 by omega), if_pos (show k < 165 by omega), show (15 * t + k) % 15 = k by omega, show k % 15 = k by omega]
theorem kdL : ∀ t, t < 11 → ∀ k, k < 15 → kd (15 * t + k) = kd k ∧ ln (15 * t + k) = 3 := by decide +kernel
section MADE
variable {D : va_G} {H : Heap} {cl : List vw_C} {X : Cx} {E : (Nat × Nat) × ((Nat → Int64) × (Nat → UInt64))} {q : Nat}
theorem rates_eq : upd (upd (upd (fun _ => 0) (0 : Int32).toNatClampNeg 2) (1 : Int32).toNatClampNeg 6) (2 : Int32).toNatClampNeg 20 = M0 2 := by
  funext k
  show upd (upd (upd (fun _ => 0) 0 2) 1 6) 2 20 k = (if k = 0 then 2 else if k = 1 then 6 else if k = 2 then 20 else 0)
  by_cases c2 : k = 2
  · subst c2; rfl
  rw [upd_ne _ _ c2, if_neg c2]
  by_cases c1 : k = 1
  · subst c1; rfl
  rw [upd_ne _ _ c1, if_neg c1]
  by_cases c0 : k = 0
  · subst c0; rfl
  rw [upd_ne _ _ c0, if_neg c0]
theorem rates_eq2 : upd (upd (upd (fun _ => 0) (2 : Int32).toNatClampNeg 2) (3 : Int32).toNatClampNeg 6) (4 : Int32).toNatClampNeg 20 = M0 190 := by
  funext k
  show upd (upd (upd (fun _ => 0) 2 2) 3 6) 4 20 k = (if k = 2 then 2 else if k = 3 then 6 else if k = 4 then 20 else 0)
  by_cases c2 : k = 4
  · subst c2; rfl
  rw [upd_ne _ _ c2, if_neg c2]
  by_cases c1 : k = 3
  · subst c1; rfl
  rw [upd_ne _ _ c1, if_neg c1]
  by_cases c0 : k = 2
  · subst c0; rfl
  rw [upd_ne _ _ c0, if_neg c0]
theorem led_at {t k : Nat} {f : Nat → Nat} (ht : t < 11) (hk : k < 15) (hx : ∀ j, j < 15 → xa X (15 * t + j) = f j) (h : va_at D cl (q, lcell X f k) H) : va_at D cl (q, cellF X E (M0 (15 * t + k)) (15 * t + k)) H := by
  obtain ⟨e1, e2⟩ := kdL t ht k hk
  rw [M0L ht hk]
  unfold cellF
  rw [e1, e2]
  by_cases k0 : k = 0
  · subst k0
    show va_at D cl (q, Sum.inr (5, [.ref (xa X (15 * t + 1)), .ref (xa X (15 * t + 2)), .ref (xa X (15 * t + 3)), .ref (xa X (15 * t + 4)), .int 0, .int 0, .int 0, .int 0, .int 0, .int 0, .int 0])) H
    rw [hx 1 (by decide), hx 2 (by decide), hx 3 (by decide), hx 4 (by decide)]
    exact h
  by_cases k1 : k = 1
  · subst k1
    show va_at D cl (q, Sum.inl (xc X 3, 5, Sum.inr (Sum.inr (Sum.inr (Sum.inr (fun k => some (xa X (15 * t + 1 + 4 + k)))))))) H
    refine at_refs (f := fun j => some (f (5 + j))) (fun j hj => ?_) h
    show some (f (5 + j)) = some (xa X (15 * t + 1 + 4 + j))
    rw [show 15 * t + 1 + 4 + j = 15 * t + (5 + j) by omega, hx (5 + j) (by omega)]
  by_cases k2 : k = 2
  · subst k2
    show va_at D cl (q, Sum.inl (xc X 0, 3, Sum.inl (M0 2))) H
    rw [← rates_eq]
    exact h
  by_cases k5 : k < 5
  · obtain rfl | rfl : k = 3 ∨ k = 4 := by omega
    · exact h
    · exact h
  by_cases k10 : k < 10
  · have ev : va_at D cl (q, Sum.inr (8, [.ref (xa X (15 * t + k + 5)), .int 0, .int 0, .int 1, .int 0, .int 0])) H := by
      rw [show 15 * t + k + 5 = 15 * t + (k + 5) by omega, hx (k + 5) (by omega)]
      unfold lcell at h
      rw [if_neg k0, if_neg k1, if_neg k2, if_neg k5, if_pos k10] at h
      exact h
    obtain rfl | rfl | rfl | rfl | rfl : k = 5 ∨ k = 6 ∨ k = 7 ∨ k = 8 ∨ k = 9 := by omega
    all_goals exact ev
  · obtain rfl | rfl | rfl | rfl | rfl : k = 10 ∨ k = 11 ∨ k = 12 ∨ k = 13 ∨ k = 14 := by omega
    all_goals exact h
theorem scr_at {k : Nat} {f : Nat → Nat} (hk : k < 19) (hx : ∀ j, j < 19 → xa X (168 + j) = f j) (h : va_at D cl (q, scell X f k) H) : va_at D cl (q, cellF X E (M0 (168 + k)) (168 + k)) H := by
  by_cases k0 : k = 0
  · subst k0
    show va_at D cl (q, Sum.inr (7, [.ref (xa X (168 + 1)), .ref (xa X (168 + 2)), .int 0, .int 0, .int 0])) H
    rw [hx 1 (by decide), hx 2 (by decide)]
    exact h
  by_cases k1 : k = 1
  · subst k1; exact h
  by_cases k2 : k = 2
  · subst k2
    show va_at D cl (q, Sum.inl (xc X 5, 16, Sum.inr (Sum.inr (Sum.inr (Sum.inr (fun k => some (xa X (171 + k)))))))) H
    refine at_refs (f := fun j => some (f (3 + j))) (fun j hj => ?_) h
    show some (f (3 + j)) = some (xa X (171 + j))
    rw [show 171 + j = 168 + (3 + j) by omega, hx (3 + j) (by omega)]
  · unfold scell at h
    rw [if_neg k0, if_neg k1, if_neg k2] at h
    have e1 : ∀ k, k < 19 → 3 ≤ k → kd (168 + k) = 10 := by decide +kernel
    have e2 : M0 (168 + k) = M0 171 := by
      funext j
      unfold M0
      rw [if_neg (show ¬ 168 + k < 165 by omega), if_neg (show ¬ 168 + k = 165 by omega), if_pos (show 171 ≤ 168 + k ∧ 168 + k < 187 by omega)]
      rfl
    unfold cellF
    rw [e1 k hk (by omega), e2]
    exact h
end MADE
