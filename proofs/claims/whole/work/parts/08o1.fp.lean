/-! the two quotients are no NaN: own rows, over the format's fields alone -/
def Fm (f : FP.Core.Fmt) : Prop := 2 ^ f.p = 2 * f.tails ∧ f.exps = 2 * f.emax + 2 ∧ 1 ≤ f.tails ∧ 1 ≤ f.emax
theorem Fm64 : Fm FP.Core.b64 := by unfold Fm; decide
theorem Fm32 : Fm FP.Core.b32 := by unfold Fm; decide
/-- what is no NaN; what is a number, with its significand -/
def NN (f : FP.Core.Fmt) (n : Nat) : Prop := FP.Core.fieldE f n ≠ f.exps - 1 ∨ FP.Core.fieldT f n = 0
def FN (f : FP.Core.Fmt) (n c : Nat) : Prop := FP.Core.fieldE f n ≠ f.exps - 1 ∧ c = if FP.Core.fieldE f n = 0 then FP.Core.fieldT f n else f.tails + FP.Core.fieldT f n
theorem FN_dec {f : FP.Core.Fmt} {n c : Nat} (h : FN f n c) : ∃ s q, FP.Core.decode f n = .fin s c q := by
  unfold FP.Core.decode
  rw [if_neg h.1]
  by_cases e : FP.Core.fieldE f n = 0
  · have := h.2
    rw [if_pos e] at this
    rw [if_pos e, this]
    exact ⟨_, _, rfl⟩
  · have := h.2
    rw [if_neg e] at this
    rw [if_neg e, this]
    exact ⟨_, _, rfl⟩
theorem NN_dec {f : FP.Core.Fmt} {n : Nat} (h : NN f n) : FP.Core.decode f n ≠ .nan := by
  unfold FP.Core.decode
  by_cases e : FP.Core.fieldE f n = f.exps - 1
  · rw [if_pos e, if_pos (h.resolve_left (fun g => g e))]
    intro g; cases g
  · rw [if_neg e]
    split <;> (intro g; cases g)
theorem dec_NN {f : FP.Core.Fmt} {n : Nat} (h : FP.Core.decode f n ≠ .nan) : NN f n := by
  unfold FP.Core.decode at h
  by_cases e : FP.Core.fieldE f n = f.exps - 1
  · rw [if_pos e] at h
    by_cases t : FP.Core.fieldT f n = 0
    · exact Or.inr t
    · rw [if_neg t] at h; exact absurd rfl h
  · exact Or.inl e
theorem asm_T {f : FP.Core.Fmt} (s : Bool) (e : Nat) {t : Nat} (ht : t < f.tails) : FP.Core.fieldT f (FP.Core.assemble f s e t) = t := by
  unfold FP.Core.fieldT FP.Core.assemble
  rw [Nat.mul_add_mod_of_lt ht]
theorem asm_E {f : FP.Core.Fmt} (s : Bool) {e t : Nat} (he : e < f.exps) (ht : t < f.tails) : FP.Core.fieldE f (FP.Core.assemble f s e t) = e := by
  unfold FP.Core.fieldE FP.Core.assemble
  rw [Nat.add_comm, Nat.add_mul_div_right _ _ (by omega), Nat.div_eq_of_lt ht, Nat.zero_add, Nat.add_comm, Nat.add_mul_mod_self_right, Nat.mod_eq_of_lt he]
theorem enc_fin {f : FP.Core.Fmt} (h : Fm f) (s : Bool) {c : Nat} {q : Int} (hc : c < 2 ^ f.p) (hq : q ≤ f.qmax) : FN f (FP.Core.encode f (.fin s c q)) c := by
  obtain ⟨h1, h2, h3, h4⟩ := h
  have hx : (q - f.qmin).toNat + 1 < f.exps - 1 := by
    unfold FP.Core.Fmt.qmax at hq
    unfold FP.Core.Fmt.qmin
    omega
  show FN f (if c < f.tails then FP.Core.assemble f s 0 c else FP.Core.assemble f s ((q - f.qmin).toNat + 1) (c - f.tails)) c
  by_cases e : c < f.tails
  · rw [if_pos e]
    have a := asm_E (f := f) s (e := 0) (by omega) e
    refine ⟨by rw [a]; omega, ?_⟩
    rw [a, if_pos rfl, asm_T s 0 e]
  · rw [if_neg e]
    have a := asm_E (f := f) s (e := (q - f.qmin).toNat + 1) (t := c - f.tails) (by omega) (by omega)
    refine ⟨by rw [a]; omega, ?_⟩
    rw [a, if_neg (by omega), asm_T s _ (show c - f.tails < f.tails by omega)]
    omega
theorem enc_inf {f : FP.Core.Fmt} (h : Fm f) (s : Bool) : NN f (FP.Core.encode f (.inf s)) := Or.inr (asm_T s _ (by have := h.2.2.1; omega))
theorem FN_NN {f : FP.Core.Fmt} {n c : Nat} (h : FN f n c) : NN f n := Or.inl h.1
theorem qmin_qmax {f : FP.Core.Fmt} (h : Fm f) : f.qmin ≤ f.qmax := by
  unfold FP.Core.Fmt.qmax FP.Core.Fmt.qmin
  have := h.2.2.2
  omega
theorem rr_NN {f : FP.Core.Fmt} (h : Fm f) (s : Bool) (a b : Nat) (e : Int) : NN f (FP.Core.encode f (FP.Core.roundRatio f s a b e)) := by
  unfold FP.Core.roundRatio
  split
  · exact FN_NN (enc_fin h s (Nat.two_pow_pos _) (qmin_qmax h))
  · unfold FP.Core.roundAt FP.Core.settle FP.Core.bound
    split
    · rename_i c
      split
      · rename_i q; exact FN_NN (enc_fin h s c q)
      · exact enc_inf h s
    · split
      · rename_i q; exact FN_NN (enc_fin h s (by have := h.1; have := h.2.2.1; omega) q)
      · exact enc_inf h s
theorem near_ge (a b : Nat) : a / b ≤ FP.Core.nearest a b := by
  unfold FP.Core.nearest
  repeat' split
  all_goals omega
/-- a whole number that isn't too great is a number other than zero -/
theorem rr_int {f : FP.Core.Fmt} (h : Fm f) (s : Bool) {a : Nat} (ha : a ≠ 0) (hl : (a.log2 : Int) - ((f.p : Int) - 1) + 1 ≤ f.qmax) (hq0 : f.qmin + 1 ≤ f.qmax) (hqn : f.qmin ≤ 0) (hp : 1 ≤ f.p) : ∃ c, c ≠ 0 ∧ FN f (FP.Core.encode f (FP.Core.roundRatio f s a 1 0)) c := by
  have hlead : FP.Core.leading a 1 = (a.log2 : Int) := by
    unfold FP.Core.leading
    have e1 : Nat.log2 1 = 0 := by decide
    rw [e1]
    have g := Nat.log2_self_le ha
    simp only [Int.natCast_zero, Int.sub_zero, Int.toNat_natCast]
    rw [if_pos]
    rw [show (-(a.log2 : Int)).toNat = 0 by omega]
    omega
  have hq : FP.Core.quantum f a 1 0 = max f.qmin ((a.log2 : Int) - ((f.p : Int) - 1)) := by
    unfold FP.Core.quantum
    rw [hlead, Int.add_zero]
  unfold FP.Core.roundRatio
  rw [if_neg ha, hq]
  generalize hQ : max f.qmin ((a.log2 : Int) - ((f.p : Int) - 1)) = q
  have hq1 : q + 1 ≤ f.qmax := by omega
  have hn : 1 ≤ FP.Core.nearest (FP.Core.unitsNum a 0 q) (FP.Core.unitsDen 1 0 q) := by
    refine Nat.le_trans ?_ (near_ge _ _)
    unfold FP.Core.unitsNum FP.Core.unitsDen
    rw [Nat.one_mul, Nat.le_div_iff_mul_le (Nat.two_pow_pos _), Nat.one_mul, Int.sub_zero]
    by_cases c : q ≤ 0
    · rw [show q.toNat = 0 by omega]
      have := Nat.two_pow_pos (0 - q).toNat
      exact Nat.mul_pos (by omega) this
    · refine Nat.le_trans ?_ (Nat.le_mul_of_pos_right _ (Nat.two_pow_pos _))
      refine Nat.le_trans (Nat.pow_le_pow_right (by decide) (show q.toNat ≤ a.log2 by omega)) (Nat.log2_self_le ha)
  unfold FP.Core.roundAt FP.Core.settle FP.Core.bound
  split
  · rename_i c
    rw [if_pos (by omega)]
    exact ⟨_, by omega, enc_fin h s c (by omega)⟩
  · exact ⟨_, by have := h.2.2.1; omega, enc_fin h s (by have := h.1; have := h.2.2.1; omega) (by omega)⟩
theorem fi_FN {f : FP.Core.Fmt} (h : Fm f) {i : Int} (hi : i.natAbs < 2 ^ 32) (hl : (32 : Int) - ((f.p : Int) - 1) + 1 ≤ f.qmax) (hq0 : f.qmin + 1 ≤ f.qmax) (hqn : f.qmin ≤ 0) (hp : 1 ≤ f.p) : ∃ c, (i ≠ 0 → c ≠ 0) ∧ FN f (FP.Core.fromInt f i) c := by
  show ∃ c, (i ≠ 0 → c ≠ 0) ∧ FN f (FP.Core.encode f (FP.Core.roundRatio f (decide (i < 0)) i.natAbs 1 0)) c
  by_cases e : i.natAbs = 0
  · refine ⟨0, fun g => absurd (Int.natAbs_eq_zero.mp e) g, ?_⟩
    unfold FP.Core.roundRatio
    rw [if_pos e]
    exact enc_fin h _ (Nat.two_pow_pos _) (qmin_qmax h)
  · have := (Nat.log2_lt e).mpr hi
    obtain ⟨c, c0, hc⟩ := rr_int h (decide (i < 0)) e (by omega) hq0 hqn hp
    exact ⟨c, fun _ => c0, hc⟩
/-- the fields don't see what lies above -/
theorem fE_mod (f : FP.Core.Fmt) (n : Nat) (ht : 1 ≤ f.tails) : FP.Core.fieldE f (n % (f.tails * (f.exps * 2))) = FP.Core.fieldE f n := by
  unfold FP.Core.fieldE
  rw [Nat.mod_mul_right_div_self, Nat.mod_mul_right_mod]
theorem fT_mod (f : FP.Core.Fmt) (n : Nat) : FP.Core.fieldT f (n % (f.tails * (f.exps * 2))) = FP.Core.fieldT f n := by
  unfold FP.Core.fieldT
  rw [Nat.mod_mul_right_mod]
theorem sz64 : FP.Core.b64.tails * (FP.Core.b64.exps * 2) = 2 ^ 64 := by decide
theorem sz32 : FP.Core.b32.tails * (FP.Core.b32.exps * 2) = 2 ^ 32 := by decide
theorem tN64 (n : Nat) : (UInt64.ofNat n).toNat = n % (FP.Core.b64.tails * (FP.Core.b64.exps * 2)) := by rw [sz64]; rfl
theorem tN32 (n : Nat) : (UInt32.ofNat n).toNat = n % (FP.Core.b32.tails * (FP.Core.b32.exps * 2)) := by rw [sz32]; rfl
theorem FN64 {n c : Nat} (h : FN FP.Core.b64 n c) : FN FP.Core.b64 (UInt64.ofNat n).toNat c := by
  rw [tN64]; unfold FN; rw [fE_mod _ _ Fm64.2.2.1, fT_mod]; exact h
theorem FN32 {n c : Nat} (h : FN FP.Core.b32 n c) : FN FP.Core.b32 (UInt32.ofNat n).toNat c := by
  rw [tN32]; unfold FN; rw [fE_mod _ _ Fm32.2.2.1, fT_mod]; exact h
theorem NN64 {n : Nat} (h : NN FP.Core.b64 n) : NN FP.Core.b64 (UInt64.ofNat n).toNat := by
  rw [tN64]; unfold NN; rw [fE_mod _ _ Fm64.2.2.1, fT_mod]; exact h
theorem NN32 {n : Nat} (h : NN FP.Core.b32 n) : NN FP.Core.b32 (UInt32.ofNat n).toNat := by
  rw [tN32]; unfold NN; rw [fE_mod _ _ Fm32.2.2.1, fT_mod]; exact h
theorem i32_abs (a : Int32) : a.toInt.natAbs < 2 ^ 32 := by
  have h1 := Int32.toInt_lt a
  have h2 := Int32.le_toInt a
  omega
theorem i2d_FN (a : Int32) : ∃ c, (a ≠ 0 → c ≠ 0) ∧ FN FP.Core.b64 (FP.i2d a).toNat c := by
  obtain ⟨c, h1, h2⟩ := fi_FN Fm64 (i32_abs a) (by decide) (by decide) (by decide) (by decide)
  exact ⟨c, fun h => h1 (fun e => h (Int32.toInt_inj.mp (e.trans Int32.toInt_zero.symm))), FN64 h2⟩
theorem i2f_FN (a : Int32) : ∃ c, (a ≠ 0 → c ≠ 0) ∧ FN FP.Core.b32 (FP.i2f a).toNat c := by
  obtain ⟨c, h1, h2⟩ := fi_FN Fm32 (i32_abs a) (by decide) (by decide) (by decide) (by decide)
  exact ⟨c, fun h => h1 (fun e => h (Int32.toInt_inj.mp (e.trans Int32.toInt_zero.symm))), FN32 h2⟩
theorem quo_NN {f : FP.Core.Fmt} (h : Fm f) {x y c d : Nat} (hx : FN f x c) (hy : FN f y d) (hd : d ≠ 0) : NN f (FP.Core.div f x y) := by
  obtain ⟨s, q, e1⟩ := FN_dec hx
  obtain ⟨t, r, e2⟩ := FN_dec hy
  unfold FP.Core.div
  rw [e1, e2]
  show NN f (FP.Core.encode f (if d = 0 then (if c = 0 then .nan else .inf (s != t)) else FP.Core.roundRatio f (s != t) c d (q - r)))
  rw [if_neg hd]
  exact rr_NN h _ _ _ _
theorem FP_mean {a b : Int32} (hb : b ≠ 0) : NN FP.Core.b64 (FP.ddiv (FP.i2d a) (FP.i2d b)).toNat := by
  obtain ⟨c, _, h1⟩ := i2d_FN a
  obtain ⟨d, d0, h2⟩ := i2d_FN b
  exact NN64 (quo_NN Fm64 h1 h2 (d0 hb))
theorem FP_share {a b : Int32} (hb : b ≠ 0) : NN FP.Core.b32 (FP.fdiv (FP.i2f a) (FP.i2f b)).toNat := by
  obtain ⟨c, _, h1⟩ := i2f_FN a
  obtain ⟨d, d0, h2⟩ := i2f_FN b
  exact NN32 (quo_NN Fm32 h1 h2 (d0 hb))
theorem FP_f2d {x : UInt32} (h : NN FP.Core.b32 x.toNat) : NN FP.Core.b64 (FP.f2d x).toNat := by
  have nn := NN_dec h
  have e : FP.Core.fIsNaN x = false := decide_eq_false nn
  unfold FP.f2d
  rw [e]
  show NN FP.Core.b64 (UInt64.ofNat (FP.Core.encode FP.Core.b64 (FP.Core.round FP.Core.b64 (FP.Core.decode FP.Core.b32 x.toNat)))).toNat
  refine NN64 ?_
  cases hd : FP.Core.decode FP.Core.b32 x.toNat with
  | nan => exact absurd hd nn
  | inf s => exact enc_inf Fm64 s
  | fin s c q => exact rr_NN Fm64 s c 1 q
theorem FP_nn64 {r : UInt64} (h : NN FP.Core.b64 r.toNat) : vf_n64 r := by
  unfold vf_n64
  rw [UInt64.le_iff_toNat_le, UInt64.toNat_and]
  show r.toNat &&& (2 ^ 63 - 1) ≤ 9218868437227405312
  rw [Nat.and_two_pow_sub_one_eq_mod]
  unfold NN FP.Core.fieldE FP.Core.fieldT at h
  rw [show FP.Core.b64.tails = 4503599627370496 by decide, show FP.Core.b64.exps = 2048 by decide] at h
  omega
theorem FP_nn32 {r : UInt32} (h : NN FP.Core.b32 r.toNat) : vf_n32 r := by
  unfold vf_n32
  rw [UInt32.le_iff_toNat_le, UInt32.toNat_and]
  show r.toNat &&& (2 ^ 31 - 1) ≤ 2139095040
  rw [Nat.and_two_pow_sub_one_eq_mod]
  unfold NN FP.Core.fieldE FP.Core.fieldT at h
  rw [show FP.Core.b32.tails = 8388608 by decide, show FP.Core.b32.exps = 256 by decide] at h
  omega
theorem cmp_int_self (i : Int) : compare i i = .eq := by
  show compareOfLessAndEq i i = .eq
  unfold compareOfLessAndEq
  rw [if_neg (Int.lt_irrefl i), if_pos rfl]
theorem FP_cmp {x : UInt64} (h : NN FP.Core.b64 x.toNat) : Op.cmpValue (FP.dcmp x x) .l = 0 := by
  have nn := NN_dec h
  have e : FP.dcmp x x = some .eq := by
    show FP.Core.order (FP.Core.decode FP.Core.b64 x.toNat) (FP.Core.decode FP.Core.b64 x.toNat) = some .eq
    cases hd : FP.Core.decode FP.Core.b64 x.toNat with
    | nan => exact absurd hd nn
    | inf s => show some (compare (FP.Core.signed s 1) (FP.Core.signed s 1)) = some .eq; rw [cmp_int_self]
    | fin s c q => show some (compare (FP.Core.signed s (FP.Core.inUnits c q (min q q))) (FP.Core.signed s (FP.Core.inUnits c q (min q q)))) = some .eq; rw [cmp_int_self]
  rw [e]
  rfl
