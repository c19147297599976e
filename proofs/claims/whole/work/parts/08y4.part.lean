/-! scripts: the class reads one order -/
def ph (x : Nat) : Nat := if x = 100 ∨ x = 118 then 1 else if x = 107 ∨ x = 111 then 2 else if x = 110 then 3 else x
def okx (x : Nat) : Prop := x = 100 ∨ x = 107 ∨ x = 110 ∨ x = 111 ∨ x = 118 ∨ x = 32
noncomputable def fo (cs : Nat → Nat) (x p : Nat) (o : Nat → Int32) : Nat → Int32 :=
  if x = 100 then upd o 4 (nI (cs p - 48)) else if x = 107 then upd o 2 (nI (cs p)) else if x = 110 then upd o 4 (nI (nval cs p)) else if x = 111 then upd o 3 (nI (cs p)) else if x = 118 then upd o 1 (nI (cs p - 48)) else o
noncomputable def foF (cs : Nat → Nat) : List Nat → Nat → (Nat → Int32) → Nat → Int32
  | [], _, o => o
  | x :: l, p, o => foF cs l (p + iwd cs (ph x) p) (fo cs x p o)
section PART
variable {cs : Nat → Nat} {L q p : Nat} {o : Nat → Int32} {G0 G : GS} {post : Int32 → GS → Prop}
theorem row_at (G : GS) (q k : Nat) (x : Int32) : (gI G q k x).1 q k = x := by rw [gI_at, upd_at]
theorem s_part (hq : 170 < q) (hc : CSx cs L) (h : PX cs L q p o G0 G) (hp : p < 700) {x : Nat} (hx : okx x)
    (kT : iok cs (ph x) p → ∀ G', PX cs L q (p + iwd cs (ph x) p) (fo cs x p o) G0 G' → post 1 G') (kF : ¬ iok cs (ph x) p → ∀ o' G', PX cs L q p o' G0 G' → post 0 G') : wpX6_readPart post (nI x) q G := by
  have hb := cs_le hc p
  unfold wpX6_readPart
  rintro z rfl
  rcases hx with rfl | rfl | rfl | rfl | rfl | rfl
  · refine ifT rfl ?_
    by_cases c : dgt (cs p)
    · refine s_rdT hq hc h (by omega) c (fun G1 h1 => ?_)
      rintro G2 rfl
      refine ifF (by rw [row_at]; exact nI_pos (by omega)) (kT c _ (PX_row hq h1 _ _))
    · refine s_rdF hc h (by omega) c ?_
      rintro G2 rfl
      refine ifT (by rw [row_at]; decide) (kF c _ _ (PX_row hq h _ _))
  · refine ifF (by decide) (ifT rfl ?_)
    by_cases c : isk (cs p)
    · refine s_rkT hq hc h (by omega) c (fun G1 h1 => ⟨pk_charN (by omega), ?_⟩)
      rintro G2 rfl
      refine ifF (by rw [row_at]; intro g; have := (nI_eq (b := 0) (by omega) (by decide)).mp g; rcases c with c | c | c <;> omega) (kT c _ (PX_row hq h1 _ _))
    · refine s_rkF hc h (by omega) c ⟨pk_charN (q := 0) (by omega), ?_⟩
      rintro G2 rfl
      refine ifT (by rw [row_at]) (kF c _ _ (PX_row hq h _ _))
  · refine ifF (by decide) (ifF (by decide) (ifT rfl ?_))
    by_cases c : dgt (cs p)
    · have hv : nval cs p < 1000 := by
        have := cs_le hc (p + 1)
        rcases nl_cases cs p with ⟨_, _, e⟩ | ⟨_, _, e⟩ <;> omega
      refine s_rnT hq hc h (by omega) c (fun G1 h1 => ?_)
      rintro G2 rfl
      refine ifF (by rw [row_at]; exact nI_pos (by omega)) (kT c _ (PX_row hq h1 _ _))
    · refine s_rnF hc h (by omega) c ?_
      rintro G2 rfl
      refine ifT (by rw [row_at]; decide) (kF c _ _ (PX_row hq h _ _))
  · refine ifF (by decide) (ifF (by decide) (ifF (by decide) (ifT rfl ?_)))
    by_cases c : isk (cs p)
    · refine s_rkT hq hc h (by omega) c (fun G1 h1 => ⟨pk_charN (by omega), ?_⟩)
      rintro G2 rfl
      refine ifF (by rw [row_at]; intro g; have := (nI_eq (b := 0) (by omega) (by decide)).mp g; rcases c with c | c | c <;> omega) (kT c _ (PX_row hq h1 _ _))
    · refine s_rkF hc h (by omega) c ⟨pk_charN (q := 0) (by omega), ?_⟩
      rintro G2 rfl
      refine ifT (by rw [row_at]) (kF c _ _ (PX_row hq h _ _))
  · refine ifF (by decide) (ifF (by decide) (ifF (by decide) (ifF (by decide) (ifT rfl ?_))))
    by_cases c : dgt (cs p)
    · refine s_rdT hq hc h (by omega) c (fun G1 h1 => ?_)
      rintro G2 rfl
      refine ifF (by rw [row_at]; exact nI_pos (by omega)) (kT c _ (PX_row hq h1 _ _))
    · refine s_rdF hc h (by omega) c ?_
      rintro G2 rfl
      refine ifT (by rw [row_at]; decide) (kF c _ _ (PX_row hq h _ _))
  · refine ifF (by decide) (ifF (by decide) (ifF (by decide) (ifF (by decide) (ifF (by decide) ?_))))
    by_cases c : cs p = 32
    · exact s_rsT hq hc h (by omega) c (fun G1 h1 => ⟨by decide, kT c _ h1⟩)
    · exact s_rsF hc h (by omega) (by decide) c ⟨by decide, kF c _ _ h⟩
theorem F_okx : ∀ k, k < 10 → ∀ i, i < (Fk k).length → ((Fk k).getD i 0 = 100 ∨ (Fk k).getD i 0 = 107 ∨ (Fk k).getD i 0 = 110 ∨ (Fk k).getD i 0 = 111 ∨ (Fk k).getD i 0 = 118 ∨ (Fk k).getD i 0 = 32) := by decide
theorem lp_form (hq : 170 < q) (hc : CSx cs L) {k : Nat} (hk : k < 10) : ∀ (l : List Nat) (i p : Nat) (o : Nat → Int32) (G : GS), (∀ j, j < l.length → (Fk k).getD (i + j) 0 = l.getD j 0) → i + l.length = (Fk k).length → p + 2 * l.length < 700 → PX cs L q p o G0 G →
    (∀ e G', RT cs (l.map ph) p e → PX cs L q e (foF cs l p o) G0 G' → post 1 G') → (∀ f o' G', RF cs (l.map ph) p f → PX cs L q f o' G0 G' → post 0 G') → wlX6_readOrder_36 post q (l.length + 1) G (CFl.getD k 0) (nI i) := by
  have hF : ∀ k, k < 10 → (Fk k).length ≤ 5 := by decide
  have h5 := hF k hk
  intro l
  induction l with
  | nil =>
    intro i p o G _ e _ h kT _
    rw [wlX6_readOrder_36]
    refine s_len (F_len k hk) (by omega) (ifT (nI_le (by rw [← e]; exact Nat.le_refl _) (by simp only [List.length_nil] at e; omega)) (kT _ _ rfl h))
  | cons x l ih =>
    intro i p o G hx e hp h kT kF
    simp only [List.length_cons] at e hp
    have hi : i < (Fk k).length := by omega
    have hx0 : (Fk k).getD i 0 = x := hx 0 (by simp only [List.length_cons]; omega)
    have ox := F_okx k hk i hi
    rw [hx0] at ox
    have w2 := iwd_2 cs (ph x) p
    show wlX6_readOrder_36 post q (l.length + 1 + 1) G (CFl.getD k 0) (nI i)
    rw [wlX6_readOrder_36]
    refine s_len (F_len k hk) (by omega) (ifF (nI_ge hi (by omega)) ?_)
    refine s_charAt (F_len k hk) (F_ch k hk i hi) hi (by omega) (F_hi k hk i hi) ?_
    rw [hx0]
    refine s_part hq hc h (by omega) ox (fun c G1 h1 => ifF (by decide) ?_) (fun c o' G1 h1 => ifT rfl (kF _ _ _ (Or.inl ⟨c, rfl⟩) h1))
    rintro z rfl
    rw [nI_1]
    refine ih (i + 1) _ _ G1 (fun j hj => ?_) (by omega) (by omega) h1 (fun e G' r h' => kT e G' ⟨c, r⟩ h') (fun f o' G' r h' => kF f o' G' (Or.inr ⟨c, r⟩) h')
    have := hx (j + 1) (by simp only [List.length_cons]; omega)
    rw [show i + 1 + j = i + (j + 1) by omega]
    exact this
/-- what an order says: the row of its four arguments -/
noncomputable def dF (cs : Nat → Nat) (p : Nat) : List Nat := if cs (p + 3) = 32 then [32, 3] else []
noncomputable def itm (cs : Nat → Nat) (k p : Nat) : List Nat := Wk k ++ if k = 9 then dF cs p else (Fk k).map ph
noncomputable def ar (cs : Nat → Nat) (k p : Nat) : Nat → Int32 := if k = 9 then (fun _ => if cs (p + 3) = 32 then nI (nval cs (p + 4)) else 1) else foF cs (Fk k) (p + (Wk k).length) (fun _ => 0)
def mp (k : Nat) : List Nat := ([[4], [1,2,4], [1,2,4], [1,2,3,4], [1,4], [1,4], [1], [2,4], [1,4], [4]] : List (List Nat)).getD k []
def CFd (cs : Nat → Nat) (k p : Nat) (o : Nat → Int32) : Prop := o 0 = nI k ∧ ∀ i, i < (mp k).length → o ((mp k).getD i 0) = ar cs k p ((mp k).getD i 0)
theorem ar_foF {k p : Nat} (h : k < 9) (o : Nat → Int32) : CFd cs k p (foF cs (Fk k) (p + (Wk k).length) (upd o 0 (nI k))) := by
  obtain rfl | rfl | rfl | rfl | rfl | rfl | rfl | rfl | rfl : k = 0 ∨ k = 1 ∨ k = 2 ∨ k = 3 ∨ k = 4 ∨ k = 5 ∨ k = 6 ∨ k = 7 ∨ k = 8 := by omega
  · exact ⟨rfl, fun i hi => by
      obtain rfl : i = 0 := by have : i < 1 := hi; omega
      rfl⟩
  · exact ⟨rfl, fun i hi => by
      obtain rfl | rfl | rfl : i = 0 ∨ i = 1 ∨ i = 2 := by have : i < 3 := hi; omega
      all_goals rfl⟩
  · exact ⟨rfl, fun i hi => by
      obtain rfl | rfl | rfl : i = 0 ∨ i = 1 ∨ i = 2 := by have : i < 3 := hi; omega
      all_goals rfl⟩
  · exact ⟨rfl, fun i hi => by
      obtain rfl | rfl | rfl | rfl : i = 0 ∨ i = 1 ∨ i = 2 ∨ i = 3 := by have : i < 4 := hi; omega
      all_goals rfl⟩
  · exact ⟨rfl, fun i hi => by
      obtain rfl | rfl : i = 0 ∨ i = 1 := by have : i < 2 := hi; omega
      all_goals rfl⟩
  · exact ⟨rfl, fun i hi => by
      obtain rfl | rfl : i = 0 ∨ i = 1 := by have : i < 2 := hi; omega
      all_goals rfl⟩
  · exact ⟨rfl, fun i hi => by
      obtain rfl : i = 0 := by have : i < 1 := hi; omega
      rfl⟩
  · exact ⟨rfl, fun i hi => by
      obtain rfl | rfl : i = 0 ∨ i = 1 := by have : i < 2 := hi; omega
      all_goals rfl⟩
  · exact ⟨rfl, fun i hi => by
      obtain rfl | rfl : i = 0 ∨ i = 1 := by have : i < 2 := hi; omega
      all_goals rfl⟩
theorem s_days (hq : 170 < q) (hc : CSx cs L) (h : PX cs L q (p + 3) o G0 G) (hp : p < 500)
    (kT : ∀ e G' o', RT cs (dF cs p) (p + 3) e → o' 0 = o 0 → o' 4 = (if cs (p + 3) = 32 then nI (nval cs (p + 4)) else 1) → PX cs L q e o' G0 G' → post 1 G') (kF : ∀ f o' G', RF cs (dF cs p) (p + 3) f → PX cs L q f o' G0 G' → post 0 G') : wpX6_readDays post q G := by
  unfold wpX6_readDays
  rintro G1 rfl
  have h1 := PX_row hq h 4 1
  unfold dF at kT kF
  by_cases c : cs (p + 3) = 32
  · rw [if_pos c] at kT kF
    refine s_rsT hq hc h1 (by omega) c (fun G2 h2 => ifF (by decide) ?_)
    refine s_part (x := 110) hq hc h2 (by omega) (by unfold okx; omega) (fun d G3 h3 => ⟨by decide, ?_⟩) (fun d o' G3 h3 => ⟨by decide, ?_⟩)
    · exact kT _ _ (fo cs 110 (p + 3 + 1) (upd o 4 1)) ⟨c, d, rfl⟩ rfl (by rw [if_pos c]; rfl) h3
    · exact kF _ _ _ (Or.inr ⟨c, Or.inl ⟨d, rfl⟩⟩) h3
  · rw [if_neg c] at kT kF
    refine s_rsF hc h1 (by omega) (by decide) c (ifT rfl ?_)
    exact kT _ _ (upd o 4 1) rfl rfl (by rw [if_neg c]; rfl) h1
theorem c_cmd (hq : 170 < q) (hc : CSx cs L) (h : PX cs L q p o G0 G) (hp : p < 400) {k : Nat} (hs : sel cs k p)
    (kT : ∀ e o' G', RT cs (itm cs k p) p e → CFd cs k p o' → PX cs L q e o' G0 G' → post 1 G') (kF : ∀ f o' G', RF cs (itm cs k p) p f → PX cs L q f o' G0 G' → post 0 G') : wpX6_readOrder post q G := by
  have hk := hs.1
  have h6 := W_lt k hk
  unfold wpX6_readOrder
  refine s_word hq hc h (by omega) hk (fun j hj hn => sel_sep hs j hj hn) (fun c G1 h1 => ifF (by decide) ?_) (fun c G1 h1 => ifT rfl ?_)
  · have e0 : (G1.1 q 0).toNatClampNeg = k := by rw [h1.2.2.2.1, upd_at, nI_clamp (by omega)]
    rw [e0]
    refine ⟨hk, ?_⟩
    by_cases d : k = 9
    · subst d
      refine ifT rfl ?_
      refine s_days (p := p) hq hc h1 (by omega) (fun e G' o' r a b h' => ⟨by decide, ?_⟩) (fun f o' G' r h' => ⟨by decide, ?_⟩)
      · refine kT e o' G' (RT_app (W_lit 9 hk) c r) ⟨a.trans (upd_at _ _ _), fun i hi => ?_⟩ h'
        obtain rfl : i = 0 := by have : i < 1 := hi; omega
        exact b
      · exact kF f o' G' (RF_app (W_lit 9 hk) c r) h'
    · refine ifF d ⟨hk, _, lp_form hq hc hk (Fk k) 0 (p + (Wk k).length) _ G1 (fun j hj => by rw [Nat.zero_add]) (by omega) ?_ h1 (fun e G' r h' => ?_) (fun f o' G' r h' => ?_)⟩
      · have : ∀ k, k < 10 → (Fk k).length ≤ 5 := by decide
        have := this k hk
        omega
      · refine kT e _ G' ?_ (ar_foF (by omega) _) h'
        unfold itm
        rw [if_neg d]
        exact RT_app (W_lit k hk) c r
      · refine kF f o' G' ?_ h'
        unfold itm
        rw [if_neg d]
        exact RF_app (W_lit k hk) c r
  · exact kF _ _ _ (RF_fit (W_lit k hk) c) h1
theorem c_none (hq : 170 < q) (hc : CSx cs L) (h : PX cs L q p o G0 G) (hp : p < 400) (hs : nosel cs p) (kF : ∀ G', PX cs L q p o G0 G' → post 0 G') : wpX6_readOrder post q G := by
  unfold wpX6_readOrder
  exact s_word0 hq hc h (by omega) hs (fun G1 h1 => ifT rfl (kF G1 h1))
end PART
