/-! scripts: a command as a list of items -/
/-- item 1 a digit, 2 a kind, 3 a number, else that character -/
def iok (cs : Nat → Nat) (it p : Nat) : Prop := if it = 1 then dgt (cs p) else if it = 2 then isk (cs p) else if it = 3 then dgt (cs p) else cs p = it
noncomputable def iwd (cs : Nat → Nat) (it p : Nat) : Nat := if it = 3 then nlen cs p else 1
def RT (cs : Nat → Nat) : List Nat → Nat → Nat → Prop
  | [], p, e => e = p
  | it :: l, p, e => iok cs it p ∧ RT cs l (p + iwd cs it p) e
def RF (cs : Nat → Nat) : List Nat → Nat → Nat → Prop
  | [], _, _ => False
  | it :: l, p, f => (¬ iok cs it p ∧ f = p) ∨ (iok cs it p ∧ RF cs l (p + iwd cs it p) f)
section ITEMS
variable {cs : Nat → Nat} {L q p : Nat} {o : Nat → Int32} {G0 G : GS} {post : Int32 → GS → Prop} {ns : Nat → Int32} {so : Int32}
theorem nlen_2 (cs : Nat → Nat) (p : Nat) : 1 ≤ nlen cs p ∧ nlen cs p ≤ 2 := by
  rcases nl_cases cs p with ⟨_, h, _⟩ | ⟨_, h, _⟩ <;> omega
theorem iwd_2 (cs : Nat → Nat) (it p : Nat) : 1 ≤ iwd cs it p ∧ iwd cs it p ≤ 2 := by
  have := nlen_2 cs p
  unfold iwd
  split <;> omega
theorem R_or (cs : Nat → Nat) : ∀ l p, (∃ e, RT cs l p e) ∨ (∃ f, RF cs l p f)
  | [], p => Or.inl ⟨p, rfl⟩
  | it :: l, p => by
    by_cases c : iok cs it p
    · rcases R_or cs l (p + iwd cs it p) with ⟨e, h⟩ | ⟨f, h⟩
      · exact Or.inl ⟨e, c, h⟩
      · exact Or.inr ⟨f, Or.inr ⟨c, h⟩⟩
    · exact Or.inr ⟨p, Or.inl ⟨c, rfl⟩⟩
theorem RT_len {cs : Nat → Nat} : ∀ {l p e}, RT cs l p e → p + l.length ≤ e
  | [], p, e, h => by cases h; exact Nat.le_refl _
  | it :: l, p, e, h => by
    have h1 := RT_len h.2
    have := iwd_2 cs it p
    simp only [List.length_cons]
    omega
theorem iok_in (hc : CSx cs L) {it p : Nat} (h1 : 1 ≤ it) (h : iok cs it p) : p + iwd cs it p ≤ L := by
  have h0 : cs p ≠ 0 := by
    intro g
    unfold iok dgt isk at h
    rw [g] at h
    split at h
    · omega
    split at h
    · omega
    split at h
    · omega
    · omega
  have hp := cs_in hc h0
  unfold iwd
  split
  · rcases nl_cases cs p with ⟨d, e, _⟩ | ⟨_, e, _⟩
    · have := cs_in hc (i := p + 1) (by have := d.1; omega)
      omega
    · omega
  · omega
theorem RT_in (hc : CSx cs L) : ∀ {l : List Nat} {p e}, (∀ x, x ∈ l → 1 ≤ x) → p ≤ L → RT cs l p e → e ≤ L
  | [], p, e, _, h, g => by cases g; exact h
  | it :: l, p, e, ha, h, g => RT_in hc (fun x hx => ha x (List.mem_cons_of_mem _ hx)) (iok_in hc (ha it (List.mem_cons_self ..)) g.1) g.2
theorem RF_in (hc : CSx cs L) : ∀ {l : List Nat} {p f}, (∀ x, x ∈ l → 1 ≤ x) → p ≤ L → RF cs l p f → f ≤ L
  | [], p, e, _, h, g => g.elim
  | it :: l, p, e, ha, h, g => by
    rcases g with g | g
    · omega
    · exact RF_in hc (fun x hx => ha x (List.mem_cons_of_mem _ hx)) (iok_in hc (ha it (List.mem_cons_self ..)) g.1) g.2
/-! words -/
def Wk (k : Nat) : List Nat := ([[118,97,117,108,116,32], [112,117,116,32], [116,97,107,101,32], [115,119,97,112,32], [109,105,110,116,32], [109,101,108,116,32], [97,117,100,105,116,32], [114,97,116,101,32], [115,116,105,99,107,32], [100,97,121]] : List (List Nat)).getD k []
def Fk (k : Nat) : List Nat := ([[100], [118,32,107,110], [118,32,107,110], [118,32,107,111,110], [118,32,110], [118,32,110], [118], [107,110], [118,32,100], []] : List (List Nat)).getD k []
noncomputable def fit (cs : Nat → Nat) : List Nat → Nat → Nat
  | [], _ => 0
  | c :: l, p => if cs p = c then fit cs l (p + 1) + 1 else 0
theorem fit_le (cs : Nat → Nat) : ∀ l p, fit cs l p ≤ l.length
  | [], p => Nat.le_refl _
  | c :: l, p => by
    have := fit_le cs l (p + 1)
    unfold fit
    split <;> simp only [List.length_cons] <;> omega
theorem fit_at {cs : Nat → Nat} : ∀ {l : List Nat} {p i : Nat}, i < fit cs l p → cs (p + i) = l.getD i 0
  | [], p, i, h => by cases h
  | c :: l, p, i, h => by
    unfold fit at h
    by_cases e : cs p = c
    · rw [if_pos e] at h
      cases i with
      | zero => exact e
      | succ i =>
        have := fit_at (cs := cs) (l := l) (p := p + 1) (i := i) (by omega)
        rw [show p + (i + 1) = p + 1 + i by omega]
        exact this
    · rw [if_neg e] at h; cases h
theorem fit_ne {cs : Nat → Nat} : ∀ {l : List Nat} {p : Nat}, fit cs l p < l.length → cs (p + fit cs l p) ≠ l.getD (fit cs l p) 0
  | [], p, h => by cases h
  | c :: l, p, h => by
    unfold fit at h ⊢
    by_cases e : cs p = c
    · rw [if_pos e] at h ⊢
      simp only [List.length_cons] at h
      have := fit_ne (cs := cs) (l := l) (p := p + 1) (by omega)
      rw [show p + (fit cs l (p + 1) + 1) = p + 1 + fit cs l (p + 1) by omega]
      exact this
    · rw [if_neg e]
      exact e
def lit (l : List Nat) : Prop := ∀ x, x ∈ l → 4 ≤ x
theorem iok_l {it p : Nat} (h : 4 ≤ it) : iok cs it p ↔ cs p = it := by
  unfold iok
  rw [if_neg (by omega), if_neg (by omega), if_neg (by omega)]
theorem iwd_l {it p : Nat} (h : 4 ≤ it) : iwd cs it p = 1 := if_neg (by omega)
/-- a word and what is behind it -/
theorem RF_fit {cs : Nat → Nat} : ∀ {l m : List Nat} {p : Nat}, lit l → fit cs l p < l.length → RF cs (l ++ m) p (p + fit cs l p)
  | [], m, p, _, h => by cases h
  | c :: l, m, p, a, h => by
    have a4 := a c (List.mem_cons_self ..)
    by_cases e : cs p = c
    · refine Or.inr ⟨(iok_l a4).mpr e, ?_⟩
      rw [iwd_l a4]
      unfold fit at h ⊢
      rw [if_pos e] at h ⊢
      simp only [List.length_cons] at h
      have := RF_fit (cs := cs) (l := l) (m := m) (p := p + 1) (fun x hx => a x (List.mem_cons_of_mem _ hx)) (by omega)
      rw [show p + (fit cs l (p + 1) + 1) = p + 1 + fit cs l (p + 1) by omega]
      exact this
    · refine Or.inl ⟨fun g => e ((iok_l a4).mp g), ?_⟩
      unfold fit
      rw [if_neg e]; rfl
theorem RF_app {cs : Nat → Nat} : ∀ {l m : List Nat} {p f : Nat}, lit l → fit cs l p = l.length → RF cs m (p + l.length) f → RF cs (l ++ m) p f
  | [], m, p, f, _, _, h => h
  | c :: l, m, p, f, a, e, h => by
    have a4 := a c (List.mem_cons_self ..)
    by_cases g : cs p = c
    · refine Or.inr ⟨(iok_l a4).mpr g, ?_⟩
      rw [iwd_l a4]
      unfold fit at e
      rw [if_pos g] at e
      simp only [List.length_cons] at e h
      refine RF_app (fun x hx => a x (List.mem_cons_of_mem _ hx)) (by omega) ?_
      rw [show p + 1 + l.length = p + (l.length + 1) by omega]
      exact h
    · unfold fit at e
      rw [if_neg g] at e
      cases e
theorem RT_app {cs : Nat → Nat} : ∀ {l m : List Nat} {p f : Nat}, lit l → fit cs l p = l.length → RT cs m (p + l.length) f → RT cs (l ++ m) p f
  | [], m, p, f, _, _, h => h
  | c :: l, m, p, f, a, e, h => by
    have a4 := a c (List.mem_cons_self ..)
    by_cases g : cs p = c
    · refine ⟨(iok_l a4).mpr g, ?_⟩
      rw [iwd_l a4]
      unfold fit at e
      rw [if_pos g] at e
      simp only [List.length_cons] at e h
      refine RT_app (fun x hx => a x (List.mem_cons_of_mem _ hx)) (by omega) ?_
      rw [show p + 1 + l.length = p + (l.length + 1) by omega]
      exact h
    · unfold fit at e
      rw [if_neg g] at e
      cases e
theorem W_len : ∀ k, k < 10 → LTl.getD (CWl.getD k 0) 0 = (Wk k).length := by decide
theorem W_lt : ∀ k, k < 10 → (Wk k).length ≤ 6 := by decide
theorem W_lit : ∀ k, k < 10 → ∀ x, x ∈ Wk k → 4 ≤ x := by decide
theorem W_hi : ∀ k, k < 10 → ∀ i, i < (Wk k).length → (Wk k).getD i 0 < 128 := by decide
theorem W_ch : ∀ k, k < 10 → ∀ i, i < (Wk k).length → (LTb.getD (CWl.getD k 0) []).getD i 0 = nI ((Wk k).getD i 0) := by decide
theorem F_len : ∀ k, k < 10 → LTl.getD (CFl.getD k 0) 0 = (Fk k).length := by decide
theorem F_ch : ∀ k, k < 10 → ∀ i, i < (Fk k).length → (LTb.getD (CFl.getD k 0) []).getD i 0 = nI ((Fk k).getD i 0) := by decide
theorem F_hi : ∀ k, k < 10 → ∀ i, i < (Fk k).length → (Fk k).getD i 0 < 128 := by decide
end ITEMS
