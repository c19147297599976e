/-! the made world as the pool: its places -/
section MADE
theorem w_l {l r : va_W} {i n : Nat} (h : l.length = n) (hi : i < n) : (l ++ r)[i]? = l[i]? := List.getElem?_append_left (by omega)
theorem w_r {l r : va_W} {i n : Nat} (h : l.length = n) (hi : n ≤ i) : (l ++ r)[i]? = r[i - n]? := by
  subst h
  exact List.getElem?_append_right hi
theorem SK_len (X : Cx) (f : Nat → Nat) : (SK X f).length = 19 := by simp [SK]
theorem SK_get (X : Cx) (f : Nat → Nat) {k : Nat} (h : k < 19) : (SK X f)[k]? = some (f k, scell X f k) := by simp [SK, List.getElem?_map, List.getElem?_range h]
def mFa (f0 f1 f2 : Nat → Nat) (F : Nat → Nat → Nat) (t : Nat) : Nat → Nat := if t = 0 then f0 else if t = 1 then f1 else if t = 2 then f2 else F (t - 3)
def mR (X : Cx) (F : Nat → Nat → Nat) (fq : Nat → Option Nat) (n3 qh : Nat) : va_W := [(n3, Sum.inr (4, [.ref qh, .int 0, .int 0])), (qh, Sum.inl (xc X 4, 8, Sum.inr (Sum.inr (Sum.inr (Sum.inr fq)))))] ++ LRw X F 8
/-- what the class's constructor makes, behind its own object -/
def mT (X : Cx) (f0 f1 f2 : Nat → Nat) (F : Nat → Nat → Nat) (fs : Nat → Nat) (fq : Nat → Option Nat) (n3 qh n5 qb : Nat) : va_W :=
  ((((((([] : va_W) ++ LB X f0) ++ LB X f1) ++ LB X f2) ++ mR X F fq n3 qh) ++ SK X fs) ++ [(n5, Sum.inr (1, [.ref qb, .int 0, .int 0, .int 0])), (qb, Sum.inl (xc X 2, 16, Sum.inl (fun _ => 0)))])
variable {X : Cx} {f0 f1 f2 : Nat → Nat} {F : Nat → Nat → Nat} {fs : Nat → Nat} {fq : Nat → Option Nat} {n3 qh n5 qb : Nat}
theorem l1 : (([] : va_W) ++ LB X f0).length = 15 := by rw [List.nil_append, LB_len]
theorem l2 : ((([] : va_W) ++ LB X f0) ++ LB X f1).length = 30 := by rw [List.length_append, l1, LB_len]
theorem l3 : (((([] : va_W) ++ LB X f0) ++ LB X f1) ++ LB X f2).length = 45 := by rw [List.length_append, l2, LB_len]
theorem l4 : ((((([] : va_W) ++ LB X f0) ++ LB X f1) ++ LB X f2) ++ mR X F fq n3 qh).length = 167 := by
  unfold mR
  rw [List.length_append, l3, List.length_append, LRw_len]; rfl
theorem l5 : (((((([] : va_W) ++ LB X f0) ++ LB X f1) ++ LB X f2) ++ mR X F fq n3 qh) ++ SK X fs).length = 186 := by
  rw [List.length_append, l4, SK_len]
theorem mT_len : (mT X f0 f1 f2 F fs fq n3 qh n5 qb).length = 188 := by
  unfold mT
  rw [List.length_append, l5]; rfl
theorem mT_led {t k : Nat} (ht : t < 11) (hk : k < 15) : (mT X f0 f1 f2 F fs fq n3 qh n5 qb)[if t < 3 then 15 * t + k else 15 * t + k + 2]? = some (mFa f0 f1 f2 F t k, lcell X (mFa f0 f1 f2 F t) k) := by
  unfold mT mFa
  by_cases c0 : t = 0
  · subst c0
    rw [if_pos (by decide), w_l l5 (by omega), w_l l4 (by omega), w_l l3 (by omega), w_l l2 (by omega), w_l l1 (by omega), List.nil_append, if_pos rfl, show 15 * 0 + k = k by omega]
    exact LB_get X f0 hk
  by_cases c1 : t = 1
  · subst c1
    rw [if_pos (by decide), w_l l5 (by omega), w_l l4 (by omega), w_l l3 (by omega), w_l l2 (by omega), w_r l1 (by omega), if_neg c0, if_pos rfl, show 15 * 1 + k - 15 = k by omega]
    exact LB_get X f1 hk
  by_cases c2 : t = 2
  · subst c2
    rw [if_pos (by decide), w_l l5 (by omega), w_l l4 (by omega), w_l l3 (by omega), w_r l2 (by omega), if_neg c0, if_neg c1, if_pos rfl, show 15 * 2 + k - 30 = k by omega]
    exact LB_get X f2 hk
  · rw [if_neg (by omega), w_l l5 (by omega), w_l l4 (by omega), w_r l3 (by omega), if_neg c0, if_neg c1, if_neg c2, show mR X F fq n3 qh = [(n3, Sum.inr (4, [Value.ref qh, Value.int 0, Value.int 0])), (qh, Sum.inl (xc X 4, 8, Sum.inr (Sum.inr (Sum.inr (Sum.inr fq)))))] ++ LRw X F 8 from rfl, w_r (n := 2) rfl (by omega), show 15 * t + k + 2 - 45 - 2 = 15 * (t - 3) + k by omega, LRw_get X F (by omega), show (15 * (t - 3) + k) / 15 = t - 3 by omega, show (15 * (t - 3) + k) % 15 = k by omega]
theorem mT_his : (mT X f0 f1 f2 F fs fq n3 qh n5 qb)[45]? = some (n3, Sum.inr (4, [.ref qh, .int 0, .int 0])) := by
  unfold mT
  rw [w_l l5 (by omega), w_l l4 (by omega), w_r l3 (by omega)]; rfl
theorem mT_sts : (mT X f0 f1 f2 F fs fq n3 qh n5 qb)[46]? = some (qh, Sum.inl (xc X 4, 8, Sum.inr (Sum.inr (Sum.inr (Sum.inr fq))))) := by
  unfold mT
  rw [w_l l5 (by omega), w_l l4 (by omega), w_r l3 (by omega)]; rfl
theorem mT_scr {k : Nat} (hk : k < 19) : (mT X f0 f1 f2 F fs fq n3 qh n5 qb)[167 + k]? = some (fs k, scell X fs k) := by
  unfold mT
  rw [w_l l5 (by omega), w_r l4 (by omega), show 167 + k - 167 = k by omega]
  exact SK_get X fs hk
theorem mT_sb : (mT X f0 f1 f2 F fs fq n3 qh n5 qb)[186]? = some (n5, Sum.inr (1, [.ref qb, .int 0, .int 0, .int 0])) := by
  unfold mT
  rw [w_r l5 (by omega)]; rfl
theorem mT_by : (mT X f0 f1 f2 F fs fq n3 qh n5 qb)[187]? = some (qb, Sum.inl (xc X 2, 16, Sum.inl (fun _ => 0))) := by
  unfold mT
  rw [w_r l5 (by omega)]; rfl
/-- all that is made -/
def mObj (f0 f1 f2 : Nat → Nat) (fs : Nat → Nat) (n3 n5 a : Nat) : Nat × va_E := (a, Sum.inr (9, [.ref (f0 0), .ref (f1 0), .ref (f2 0), .ref n3, .ref (fs 0), .ref n5, .int 0, .int (-1), .int (-1)]))
def mM (X : Cx) (a9 q1 q2 q3 q4 q5 q6 q7 : Nat) : va_W := [(a9, Sum.inr (10, [.int 0, .ref q1, .ref q2, .ref q3, .ref q4, .int 0, .int 0, .int 0, .ref q5, .int 0, .ref q6, .int 0, .int 0, .int (-1), .int (-1), .ref q7, .int 0, .int 0])), (q1, Sum.inl (xc X 0, 56, Sum.inl (upd (upd (upd (fun _ => 0) (2 : Int32).toNatClampNeg 2) (3 : Int32).toNatClampNeg 6) (4 : Int32).toNatClampNeg 20))), (q2, Sum.inl (xc X 0, 448, Sum.inl (fun _ => 0))), (q3, Sum.inl (xc X 0, 56, Sum.inl (fun _ => 0))), (q4, Sum.inl (xc X 0, 56, Sum.inl (fun _ => 0))), (q5, Sum.inl (xc X 1, 60, Sum.inl (fun _ => 0))), (q6, Sum.inl (xc X 1, 60, Sum.inl (fun _ => 0))), (q7, Sum.inl (xc X 0, 4, Sum.inl (fun _ => 0)))]
theorem mpool {D : va_G} {C : Nat → ClassId} {kf : Nat → Nat → Nat} {z : Nat} {H : Heap} {A : Nat → Prop} {g0 : Nat → Nat} {a a9 q1 q2 q3 q4 q5 q6 q7 ql qd : Nat} (hfq : ∀ k, k < 8 → fq k = some (F k 0))
    (hP : va_P D vwCl (((([] ++ (mObj f0 f1 f2 fs n3 n5 a :: mT (D, C, kf, g0, z) f0 f1 f2 F fs fq n3 qh n5 qb)) ++ mM (D, C, kf, g0, z) a9 q1 q2 q3 q4 q5 q6 q7) ++ [(ql, Sum.inl (C 6, 1, Sum.inr (Sum.inl (fun _ => 0))))]) ++ [(qd, Sum.inl (C 7, 1, Sum.inr (Sum.inr (Sum.inr (Sum.inl (fun _ => 0))))))]) H)
    (hD : va_D A (((([] ++ (mObj f0 f1 f2 fs n3 n5 a :: mT (D, C, kf, g0, z) f0 f1 f2 F fs fq n3 qh n5 qb)) ++ mM (D, C, kf, g0, z) a9 q1 q2 q3 q4 q5 q6 q7) ++ [(ql, Sum.inl (C 6, 1, Sum.inr (Sum.inl (fun _ => 0))))]) ++ [(qd, Sum.inl (C 7, 1, Sum.inr (Sum.inr (Sum.inr (Sum.inl (fun _ => 0))))))])) :
    ∃ g : Nat → Nat, va_P D vwCl (pool (D, C, kf, g, z) (G00 qb)) H ∧ va_D A (pool (D, C, kf, g, z) (G00 qb)) ∧ g 165 = a ∧ g 189 = a9 ∧ g 197 = ql ∧ g 198 = qd := by
  generalize hg : mg (mFa f0 f1 f2 F) fs [n5, qb, a9, q1, q2, q3, q4, q5, q6, q7, ql, qd] a n3 qh = g
  have gL : ∀ t, t < 11 → ∀ k, k < 15 → g (15 * t + k) = mFa f0 f1 f2 F t k := fun t ht k hk => by
    rw [← hg]
    unfold mg
    rw [if_pos (by omega), show (15 * t + k) / 15 = t by omega, show (15 * t + k) % 15 = k by omega]
  have gS : ∀ k, k < 19 → g (168 + k) = fs k := fun k hk => by
    rw [← hg]
    unfold mg
    rw [if_neg (by omega), if_neg (by omega), if_neg (by omega), if_neg (by omega), if_pos (by omega), show 168 + k - 168 = k by omega]
  have g165 : g 165 = a := by rw [← hg]; rfl
  have g166 : g 166 = n3 := by rw [← hg]; rfl
  have g167 : g 167 = qh := by rw [← hg]; rfl
  have g187 : g 187 = n5 := by rw [← hg]; rfl
  have g188 : g 188 = qb := by rw [← hg]; rfl
  have g189 : g 189 = a9 := by rw [← hg]; rfl
  have g190 : g 190 = q1 := by rw [← hg]; rfl
  have g191 : g 191 = q2 := by rw [← hg]; rfl
  have g192 : g 192 = q3 := by rw [← hg]; rfl
  have g193 : g 193 = q4 := by rw [← hg]; rfl
  have g194 : g 194 = q5 := by rw [← hg]; rfl
  have g195 : g 195 = q6 := by rw [← hg]; rfl
  have g196 : g 196 = q7 := by rw [← hg]; rfl
  have g197 : g 197 = ql := by rw [← hg]; rfl
  have g198 : g 198 = qd := by rw [← hg]; rfl
  clear hg
  have n1 : ([] ++ (mObj f0 f1 f2 fs n3 n5 a :: mT (D, C, kf, g0, z) f0 f1 f2 F fs fq n3 qh n5 qb)).length = 189 := by
    rw [List.nil_append, List.length_cons, mT_len]
  have n2 : (([] ++ (mObj f0 f1 f2 fs n3 n5 a :: mT (D, C, kf, g0, z) f0 f1 f2 F fs fq n3 qh n5 qb)) ++ mM (D, C, kf, g0, z) a9 q1 q2 q3 q4 q5 q6 q7).length = 197 := by
    rw [List.length_append, n1]; rfl
  have n3' : ((([] ++ (mObj f0 f1 f2 fs n3 n5 a :: mT (D, C, kf, g0, z) f0 f1 f2 F fs fq n3 qh n5 qb)) ++ mM (D, C, kf, g0, z) a9 q1 q2 q3 q4 q5 q6 q7) ++ [(ql, Sum.inl (C 6, 1, Sum.inr (Sum.inl (fun _ => 0))))]).length = 198 := by
    rw [List.length_append, n2]; rfl
  have key := blk_conv (D := D) (cl := vwCl) (A := A) (H := H) (ws := []) (pool (D, C, kf, g, z) (G00 qb)) mperm (fun p q hq => ?_) (fun i j hi hj h => mperm_inj (by rw [pool_len] at hi; exact hi) (by rw [pool_len] at hj; exact hj) h) (by rw [List.nil_append]; exact hP) (by rw [List.nil_append]; exact hD)
  · rw [List.nil_append] at key
    exact ⟨g, key.1, key.2, g165, g189, g197, g198⟩
  have hp : p < 199 := by
    have := (List.getElem?_eq_some_iff.mp hq).1
    rw [pool_len] at this; exact this
  rw [pool_get _ _ hp] at hq
  cases hq
  have ad : p ≠ 188 → adr (D, C, kf, g, z) (G00 qb) p = g p := fun h => if_neg h
  show ∃ q', _ ∧ q'.1 = adr (D, C, kf, g, z) (G00 qb) p ∧ (va_at D vwCl q' H → va_at D vwCl (adr (D, C, kf, g, z) (G00 qb) p, cellF (D, C, kf, g, z) (G00 qb).2 (M0 p) p) H)
  by_cases c1 : p < 165
  · obtain ⟨t, k, ht, hk, rfl⟩ : ∃ t k, t < 11 ∧ k < 15 ∧ p = 15 * t + k := ⟨p / 15, p % 15, by omega, by omega, by omega⟩
    rw [ad (by omega), gL t ht k hk]
    refine ⟨_, ?_, rfl, fun h => led_at (f := mFa f0 f1 f2 F t) ht hk (fun j hj => gL t ht j hj) h⟩
    have e : mperm (15 * t + k) = (if t < 3 then 15 * t + k else 15 * t + k + 2) + 1 := by
      unfold mperm
      by_cases c : t < 3
      · rw [if_pos (by omega), if_pos c]
      · rw [if_neg (by omega), if_pos c1, if_neg c]
    have e2 : (if t < 3 then 15 * t + k else 15 * t + k + 2) < 188 := by split <;> omega
    rw [e, w_l n3' (by omega), w_l n2 (by omega), w_l n1 (by omega), List.nil_append, List.getElem?_cons_succ]
    exact mT_led ht hk
  by_cases c2 : p = 165
  · subst c2
    refine ⟨mObj f0 f1 f2 fs n3 n5 a, ?_, by rw [ad (by decide), g165]; rfl, fun h => ?_⟩
    · show _[0]? = _
      rw [w_l n3' (by omega), w_l n2 (by omega), w_l n1 (by omega)]; rfl
    · rw [ad (by decide), g165]
      show va_at D vwCl (a, Sum.inr (9, [.ref (g 0), .ref (g 15), .ref (g 30), .ref (g 166), .ref (g 168), .ref (g 187), .int 0, .int (-1), .int (-1)])) H
      rw [show g 0 = f0 0 from gL 0 (by decide) 0 (by decide), show g 15 = f1 0 from gL 1 (by decide) 0 (by decide), show g 30 = f2 0 from gL 2 (by decide) 0 (by decide), g166, show g 168 = fs 0 from gS 0 (by decide), g187]
      exact h
  by_cases c3 : p = 166
  · subst c3
    refine ⟨_, by show _[45 + 1]? = _; rw [w_l n3' (by omega), w_l n2 (by omega), w_l n1 (by omega), List.nil_append, List.getElem?_cons_succ]; exact mT_his, by rw [ad (by decide), g166], fun h => ?_⟩
    rw [ad (by decide), g166]
    show va_at D vwCl (n3, Sum.inr (4, [.ref (g 167), .int 0, .int 0])) H
    rw [g167]; exact h
  by_cases c4 : p = 167
  · subst c4
    refine ⟨_, by show _[46 + 1]? = _; rw [w_l n3' (by omega), w_l n2 (by omega), w_l n1 (by omega), List.nil_append, List.getElem?_cons_succ]; exact mT_sts, by rw [ad (by decide), g167], fun h => ?_⟩
    rw [ad (by decide), g167]
    show va_at D vwCl (qh, Sum.inl (C 4, 8, Sum.inr (Sum.inr (Sum.inr (Sum.inr (fun k => some (g (45 + 15 * k)))))))) H
    refine at_refs (f := fq) (fun j hj => ?_) h
    rw [hfq j hj, show 45 + 15 * j = 15 * (j + 3) + 0 by omega, gL (j + 3) (by omega) 0 (by decide)]
    unfold mFa
    rw [if_neg (by omega), if_neg (by omega), if_neg (by omega), Nat.add_sub_cancel]
  have pe : mperm p = p := by
    unfold mperm
    rw [if_neg (by omega), if_neg c1, if_neg c2, if_neg c3, if_neg c4]
  rw [pe]
  by_cases c5 : p < 187
  · obtain ⟨k, hk, rfl⟩ : ∃ k, k < 19 ∧ p = 168 + k := ⟨p - 168, by omega, by omega⟩
    rw [ad (by omega), gS k hk]
    refine ⟨_, ?_, rfl, fun h => scr_at (f := fs) hk (fun j hj => gS j hj) h⟩
    rw [w_l n3' (by omega), w_l n2 (by omega), w_l n1 (by omega), List.nil_append, show 168 + k = 167 + k + 1 by omega, List.getElem?_cons_succ]
    exact mT_scr hk
  by_cases c6 : p = 187
  · subst c6
    refine ⟨_, by show _[186 + 1]? = _; rw [w_l n3' (by omega), w_l n2 (by omega), w_l n1 (by omega), List.nil_append, List.getElem?_cons_succ]; exact mT_sb, by rw [ad (by decide), g187], fun h => ?_⟩
    rw [ad (by decide), g187]
    exact h
  by_cases c7 : p = 188
  · subst c7
    refine ⟨_, by show _[187 + 1]? = _; rw [w_l n3' (by omega), w_l n2 (by omega), w_l n1 (by omega), List.nil_append, List.getElem?_cons_succ]; exact mT_by, rfl, fun h => h⟩
  by_cases c8 : p < 197
  · obtain rfl | rfl | rfl | rfl | rfl | rfl | rfl | rfl : p = 189 ∨ p = 190 ∨ p = 191 ∨ p = 192 ∨ p = 193 ∨ p = 194 ∨ p = 195 ∨ p = 196 := by omega
    · refine ⟨_, by rw [w_l n3' (by omega), w_l n2 (by omega), w_r n1 (by omega)]; rfl, by rw [ad (by decide), g189], fun h => ?_⟩
      rw [ad (by decide), g189]
      show va_at D vwCl (a9, Sum.inr (10, [.int 0, .ref (g 190), .ref (g 191), .ref (g 192), .ref (g 193), .int 0, .int 0, .int 0, .ref (g 194), .int 0, .ref (g 195), .int 0, .int 0, .int (-1), .int (-1), .ref (g 196), .int 0, .int 0])) H
      rw [g190, g191, g192, g193, g194, g195, g196]
      exact h
    · refine ⟨_, by rw [w_l n3' (by omega), w_l n2 (by omega), w_r n1 (by omega)]; rfl, by rw [ad (by decide), g190], fun h => ?_⟩
      rw [ad (by decide), g190]
      show va_at D vwCl (q1, Sum.inl (C 0, 56, Sum.inl (M0 190))) H
      rw [← rates_eq2]
      exact h
    · exact ⟨_, by rw [w_l n3' (by omega), w_l n2 (by omega), w_r n1 (by omega)]; rfl, by rw [ad (by decide), g191], fun h => by rw [ad (by decide), g191]; exact h⟩
    · exact ⟨_, by rw [w_l n3' (by omega), w_l n2 (by omega), w_r n1 (by omega)]; rfl, by rw [ad (by decide), g192], fun h => by rw [ad (by decide), g192]; exact h⟩
    · exact ⟨_, by rw [w_l n3' (by omega), w_l n2 (by omega), w_r n1 (by omega)]; rfl, by rw [ad (by decide), g193], fun h => by rw [ad (by decide), g193]; exact h⟩
    · exact ⟨_, by rw [w_l n3' (by omega), w_l n2 (by omega), w_r n1 (by omega)]; rfl, by rw [ad (by decide), g194], fun h => by rw [ad (by decide), g194]; exact h⟩
    · exact ⟨_, by rw [w_l n3' (by omega), w_l n2 (by omega), w_r n1 (by omega)]; rfl, by rw [ad (by decide), g195], fun h => by rw [ad (by decide), g195]; exact h⟩
    · exact ⟨_, by rw [w_l n3' (by omega), w_l n2 (by omega), w_r n1 (by omega)]; rfl, by rw [ad (by decide), g196], fun h => by rw [ad (by decide), g196]; exact h⟩
  obtain rfl | rfl : p = 197 ∨ p = 198 := by omega
  · exact ⟨_, by rw [w_l n3' (by omega), w_r n2 (by omega)]; rfl, by rw [ad (by decide), g197], fun h => by rw [ad (by decide), g197]; exact h⟩
  · exact ⟨_, by rw [w_r n3' (by omega)]; rfl, by rw [ad (by decide), g198], fun h => by rw [ad (by decide), g198]; exact h⟩
end MADE
