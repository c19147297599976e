/-! scripts: the whole text, on both sides -/
def GL (cs : Nat → Nat) (L : Nat) : List (Nat × Nat) → Nat → Prop
  | [], _ => False
  | kp :: l, p => kp.2 = p ∧ sel cs kp.1 p ∧ ∃ e, RT cs (itm cs kp.1 p) p e ∧ ((l = [] ∧ e = L) ∨ (e ≠ L ∧ cs e = 59 ∧ GL cs L l (e + 1)))
def BL (cs : Nat → Nat) (L : Nat) : Nat → Nat → Nat → Prop
  | 0, p, f => (nosel cs p ∧ f = p) ∨ (∃ k, sel cs k p ∧ RF cs (itm cs k p) p f) ∨ ∃ k, sel cs k p ∧ RT cs (itm cs k p) p f ∧ f ≠ L ∧ cs f ≠ 59
  | n + 1, p, f => ∃ k e, sel cs k p ∧ RT cs (itm cs k p) p e ∧ e ≠ L ∧ cs e = 59 ∧ BL cs L n (e + 1) f
section SCAN
variable {cs : Nat → Nat} {L p : Nat} {G0 G : GS} {post : Int32 → GS → Prop} {ns : Nat → Int32} {so : Int32}
theorem RT_det {cs : Nat → Nat} : ∀ {l : List Nat} {p e e' : Nat}, RT cs l p e → RT cs l p e' → e = e'
  | [], p, e, e', h, h' => h.trans h'.symm
  | it :: l, p, e, e', h, h' => RT_det h.2 h'.2
theorem RTF {cs : Nat → Nat} : ∀ {l : List Nat} {p e f : Nat}, RT cs l p e → ¬ RF cs l p f
  | [], p, e, f, h, h' => h'
  | it :: l, p, e, f, h, h' => h'.elim (fun g => g.1 h.1) (fun g => RTF h.2 g.2)
theorem RF_det {cs : Nat → Nat} : ∀ {l : List Nat} {p e e' : Nat}, RF cs l p e → RF cs l p e' → e = e'
  | [], p, e, e', h, h' => h.elim
  | it :: l, p, e, e', h, h' => by
    rcases h with h | h
    · rcases h' with g | g
      · rw [h.2, g.2]
      · exact absurd g.1 h.1
    · rcases h' with g | g
      · exact absurd h.1 g.1
      · exact RF_det h.2 g.2
theorem itm_1 {k : Nat} (hk : k < 10) (p x : Nat) (h : x ∈ itm cs k p) : 1 ≤ x := by
  unfold itm at h
  rcases List.mem_append.mp h with h | h
  · have := W_lit k hk x h; omega
  · split at h
    · unfold dF at h
      split at h
      · simp at h; omega
      · simp at h
    · have : ∀ k, k < 10 → ∀ y, y ∈ (Fk k).map ph → 1 ≤ y := by decide
      exact this k hk x h
theorem itm_3 {k : Nat} (hk : k < 10) (p : Nat) : 3 ≤ (itm cs k p).length := by
  have : ∀ k, k < 10 → 3 ≤ (Wk k).length := by decide
  have := this k hk
  unfold itm
  rw [List.length_append]
  omega
theorem cmd_end (hc : CSx cs L) {k e : Nat} (hk : k < 10) (hp : p ≤ L) (h : RT cs (itm cs k p) p e) : p + 3 ≤ e ∧ e ≤ L := by
  have := RT_len h
  have := itm_3 (cs := cs) hk p
  exact ⟨by omega, RT_in hc (itm_1 hk p) hp h⟩
theorem GB_or (hc : CSx cs L) : ∀ m p, L + 1 = p + m → p ≤ L → (∃ l, GL cs L l p) ∨ ∃ n f, f ≤ L ∧ BL cs L n p f := by
  intro m
  induction m using Nat.strongRecOn with
  | ind m ih =>
    intro p e hp
    rcases sel_or cs p with hs | ⟨k, hs⟩
    · exact Or.inr ⟨0, p, hp, Or.inl ⟨hs, rfl⟩⟩
    rcases R_or cs (itm cs k p) p with ⟨x, hx⟩ | ⟨f, hf⟩
    · obtain ⟨a, b⟩ := cmd_end hc hs.1 hp hx
      by_cases c : x = L
      · exact Or.inl ⟨[(k, p)], rfl, hs, x, hx, Or.inl ⟨rfl, c⟩⟩
      by_cases d : cs x = 59
      · rcases ih (L + 1 - (x + 1)) (by omega) (x + 1) (by omega) (by omega) with ⟨l, hl⟩ | ⟨n, f, hf, hb⟩
        · exact Or.inl ⟨(k, p) :: l, rfl, hs, x, hx, Or.inr ⟨c, d, hl⟩⟩
        · exact Or.inr ⟨n + 1, f, hf, k, x, hs, hx, c, d, hb⟩
      · exact Or.inr ⟨0, x, b, Or.inr (Or.inr ⟨k, hs, hx, c, d⟩)⟩
    · exact Or.inr ⟨0, f, RF_in hc (itm_1 hs.1 p) hp hf, Or.inr (Or.inl ⟨k, hs, hf⟩)⟩
/-- the class's state -/
def FX (cs : Nat → Nat) (L p : Nat) (G0 G : GS) : Prop :=
  G.1 168 2 = nI L ∧ (∀ i, i < L → G.1 169 i = nI (cs i)) ∧ G.1 168 3 = nI p ∧ (∀ r, r ≠ 168 → (r < 171 ∨ 187 ≤ r) → G.1 r = G0.1 r) ∧ (∀ k, k ≠ 3 → k ≠ 4 → G.1 168 k = G0.1 168 k) ∧ G.2 = G0.2
def SX (cs : Nat → Nat) (L p j : Nat) (ds : Nat → Nat × Nat) (G0 G : GS) : Prop :=
  FX cs L p G0 G ∧ G.1 168 4 = nI j ∧ ∀ i, i < j → CFd cs (ds i).1 (ds i).2 (G.1 (171 + i))
theorem FX_px {j : Nat} (h : FX cs L p G0 G) : PX cs L (171 + j) p (G.1 (171 + j)) G G := ⟨h.1, h.2.1, h.2.2.1, rfl, fun _ _ _ => rfl, fun _ _ => rfl, rfl⟩
theorem FX_to {j e : Nat} {o' : Nat → Int32} {G' : GS} (hj : j < 16) (h : FX cs L p G0 G) (h' : PX cs L (171 + j) e o' G G') : FX cs L e G0 G' :=
  ⟨h'.1, h'.2.1, h'.2.2.1, fun r a b => (h'.2.2.2.2.1 r a (by omega)).trans (h.2.2.2.1 r a b), fun k a b => (h'.2.2.2.2.2.1 k a).trans (h.2.2.2.2.1 k a b), h'.2.2.2.2.2.2.trans h.2.2.2.2.2⟩
theorem FX_pos (h : FX cs L p G0 G) (k : Nat) (hk : k = 3 ∨ k = 4) (x : Int32) (p' : Nat) (e : k = 3 → x = nI p') (e' : k = 4 → p' = p) : FX cs L p' G0 (gI G 168 k x) := by
  obtain ⟨h1, h2, h3, h4, h5, h6⟩ := h
  refine ⟨?_, fun i hi => ?_, ?_, fun r a b => ?_, fun j a b => ?_, h6⟩
  · rw [gI_at, upd_ne _ _ (by omega)]; exact h1
  · rw [gI_ne _ _ _ (by decide)]; exact h2 i hi
  · rcases hk with rfl | rfl
    · rw [gI_at, upd_at]; exact e rfl
    · rw [gI_at, upd_ne _ _ (by decide), e' rfl]; exact h3
  · rw [gI_ne _ _ _ a]; exact h4 r a b
  · rw [gI_at, upd_ne _ _ (by omega)]; exact h5 j a b
theorem SX_next {j e k : Nat} {o' : Nat → Int32} {ds : Nat → Nat × Nat} {G' : GS} (hj : j < 16) (h : SX cs L p j ds G0 G) (h' : PX cs L (171 + j) e o' G G') (hd : ds j = (k, p)) (hf : CFd cs k p o') : SX cs L e (j + 1) ds G0 (gI G' 168 4 (G'.1 168 4 + 1)) := by
  refine ⟨FX_pos (FX_to hj h.1 h') 4 (Or.inr rfl) _ e (fun c => absurd c (by decide)) (fun _ => rfl), ?_, fun i hi => ?_⟩
  · rw [gI_at, upd_at, h'.2.2.2.2.2.1 4 (by decide), h.2.1, nI_1]
  · rw [gI_ne _ _ _ (by omega)]
    by_cases c : i = j
    · subst c
      rw [hd, h'.2.2.2.1]
      exact hf
    · rw [h'.2.2.2.2.1 (171 + i) (by omega) (by omega)]
      exact h.2.2 i (by omega)
theorem lp_parseT (hc : CSx cs L) {ds : Nat → Nat × Nat} {n : Nat} (K : ∀ G', SX cs L L n ds G0 G' → post 1 G') : ∀ (l : List (Nat × Nat)) (p j : Nat) (G : GS), GL cs L l p → 4 * j ≤ p → p ≤ L → SX cs L p j ds G0 G → (∀ i, i < l.length → ds (j + i) = l.getD i (0, 0)) → j + l.length = n → wlX6_parse_10 post l.length G := by
  have hL := hc.1
  intro l
  induction l with
  | nil => intro p j G g; exact g.elim
  | cons kp l ih =>
    intro p j G g hj hp h hd hn
    obtain ⟨k, p'⟩ := kp
    obtain ⟨e0, hs, e, hr, ho⟩ := g
    have e0 : p' = p := e0
    subst e0
    have d0 : ds j = (k, p') := hd 0 (by simp only [List.length_cons]; omega)
    have he := cmd_end hc hs.1 hp hr
    have hj15 : j ≤ 15 := by omega
    simp only [List.length_cons] at hn
    show wlX6_parse_10 post (l.length + 1) G
    rw [wlX6_parse_10]
    rw [h.2.1]
    have px := FX_px (j := j) h.1
    refine ifF (nI_ge (b := 16) (by omega) (by decide)) ⟨vp_in_nI (by omega) (by decide), ?_⟩
    rw [nI_clamp (by omega)]
    refine c_cmd (by omega) hc px (by omega) hs (fun e2 o' G1 r f h1 => ifF (by decide) ?_) (fun f o' G1 r h1 => (RTF hr r).elim)
    obtain rfl := RT_det hr r
    rintro G8 rfl
    have nx := SX_next (by omega) h h1 d0 f
    rw [nx.1.2.2.1, nx.1.1]
    rcases ho with ⟨rfl, rfl⟩ | ⟨n1, c59, gl⟩
    · refine ifT rfl (K _ ?_)
      have : j + 1 = n := hn
      rw [← this]; exact nx
    · refine ifF (fun g => n1 ((nI_eq (by omega) (by omega)).mp g)) ?_
      have py := FX_px (j := 20) nx.1
      refine s_rsT (c := 59) (by omega) hc py (by omega) c59 (fun G2 h2 => ifF (by decide) ?_)
      refine ih (e + 1) (j + 1) G2 gl (by omega) (by omega) ⟨?_, ?_, ?_⟩ (fun i hi => ?_) (by omega)
      · obtain ⟨a1, a2, a3, a4, a5, a6, a7⟩ := h2
        have b := nx.1
        exact ⟨a1, a2, a3, fun r x y => by
          by_cases c : r = 171 + 20
          · subst c; rw [a4]; exact b.2.2.2.1 _ (by decide) (by decide)
          · rw [a5 r x c]; exact b.2.2.2.1 r x y, fun k x y => (a6 k x).trans (b.2.2.2.2.1 k x y), a7.trans b.2.2.2.2.2⟩
      · rw [h2.2.2.2.2.2.1 4 (by decide)]; exact nx.2.1
      · intro i hi
        rw [h2.2.2.2.2.1 (171 + i) (by omega) (by omega)]
        exact nx.2.2 i hi
      · rw [show j + 1 + i = j + (i + 1) by omega]
        exact hd (i + 1) (by simp only [List.length_cons]; omega)
theorem lp_parseF (hc : CSx cs L) {f : Nat} (K : ∀ G', FX cs L f G0 G' → post 0 G') : ∀ (n p j : Nat) (G : GS), BL cs L n p f → 4 * j ≤ p → p ≤ L → FX cs L p G0 G → G.1 168 4 = nI j → wlX6_parse_10 post (n + 1) G := by
  have hL := hc.1
  intro n
  induction n with
  | zero =>
    intro p j G g hj hp h h4
    rw [wlX6_parse_10, h4]
    have px := FX_px (j := j) h
    refine ifF (nI_ge (b := 16) (by omega) (by decide)) ⟨vp_in_nI (by omega) (by decide), ?_⟩
    rw [nI_clamp (by omega)]
    rcases g with ⟨hs, rfl⟩ | ⟨k, hs, hr⟩ | ⟨k, hs, hr, n1, n2⟩
    · exact c_none (by omega) hc px (by omega) hs (fun G1 h1 => ifT rfl (K _ (FX_to (by omega) h h1)))
    · refine c_cmd (by omega) hc px (by omega) hs (fun e2 o' G1 r f h1 => (RTF r hr).elim) (fun f o' G1 r h1 => ifT rfl ?_)
      obtain rfl := RF_det hr r
      exact K _ (FX_to (by omega) h h1)
    · have he := cmd_end hc hs.1 hp hr
      refine c_cmd (by omega) hc px (by omega) hs (fun e2 o' G1 r d h1 => ifF (by decide) ?_) (fun f o' G1 r h1 => (RTF hr r).elim)
      obtain rfl := RT_det hr r
      rintro G8 rfl
      have nx := FX_pos (FX_to (by omega) h h1) 4 (Or.inr rfl) (G1.1 168 4 + 1) _ (fun c => absurd c (by decide)) (fun _ => rfl)
      rw [nx.2.2.1, nx.1]
      refine ifF (fun g => n1 ((nI_eq (by omega) (by omega)).mp g)) ?_
      exact s_rsF (c := 59) hc (FX_px (j := 20) nx) (by omega) (by decide) n2 (ifT rfl (K _ nx))
  | succ n ih =>
    intro p j G g hj hp h h4
    rw [wlX6_parse_10, h4]
    have px := FX_px (j := j) h
    refine ifF (nI_ge (b := 16) (by omega) (by decide)) ⟨vp_in_nI (by omega) (by decide), ?_⟩
    rw [nI_clamp (by omega)]
    obtain ⟨k, e, hs, hr, n1, c59, gl⟩ := g
    have he := cmd_end hc hs.1 hp hr
    refine c_cmd (by omega) hc px (by omega) hs (fun e2 o' G1 r d h1 => ifF (by decide) ?_) (fun f o' G1 r h1 => (RTF hr r).elim)
    obtain rfl := RT_det hr r
    rintro G8 rfl
    have nx := FX_pos (FX_to (by omega) h h1) 4 (Or.inr rfl) (G1.1 168 4 + 1) _ (fun c => absurd c (by decide)) (fun _ => rfl)
    have n4 : (gI G1 168 4 (G1.1 168 4 + 1)).1 168 4 = nI (j + 1) := by
      rw [gI_at, upd_at, h1.2.2.2.2.2.1 4 (by decide), h4, nI_1]
    rw [nx.2.2.1, nx.1]
    refine ifF (fun g => n1 ((nI_eq (by omega) (by omega)).mp g)) ?_
    refine s_rsT (c := 59) (by omega) hc (FX_px (j := 20) nx) (by omega) c59 (fun G2 h2 => ifF (by decide) ?_)
    refine ih (e + 1) (j + 1) G2 gl (by omega) (by omega) ?_ ?_
    · obtain ⟨a1, a2, a3, a4, a5, a6, a7⟩ := h2
      exact ⟨a1, a2, a3, fun r x y => by
        by_cases c : r = 171 + 20
        · subst c; rw [a4]; exact nx.2.2.2.1 _ (by decide) (by decide)
        · rw [a5 r x c]; exact nx.2.2.2.1 r x y, fun k x y => (a6 k x).trans (nx.2.2.2.2.1 k x y), a7.trans nx.2.2.2.2.2⟩
    · rw [h2.2.2.2.2.2.1 4 (by decide)]; exact n4
/-- the model's -/
theorem lp_rallT (hc : CSx cs L) (K : ∀ ns so G', PM cs L L ns so G0 G' → post 1 G') : ∀ (l : List (Nat × Nat)) (p : Nat) (ns : Nat → Int32) (so : Int32) (G : GS), GL cs L l p → p ≤ L → PM cs L p ns so G0 G → wlX9_readsAll_7 post (l.length + 1) G 1 := by
  have hL := hc.1
  intro l
  induction l with
  | nil => intro p ns so G g; exact g.elim
  | cons kp l ih =>
    intro p ns so G g hp h
    obtain ⟨k, p'⟩ := kp
    obtain ⟨e0, hs, e, hr, ho⟩ := g
    have he := cmd_end hc hs.1 hp hr
    show wlX9_readsAll_7 post (l.length + 1 + 1) G 1
    rw [wlX9_readsAll_7]
    refine ifF (by decide) ?_
    refine m_cmd hc h (by omega) hs (fun e2 ns2 so2 G1 r z h1 => ifF (by decide) ?_) (fun f ns2 so2 G1 r h1 => (RTF hr r).elim)
    obtain rfl := RT_det hr r
    rcases ho with ⟨rfl, rfl⟩ | ⟨n1, c59, gl⟩
    · refine m_rF (c := 59) hc h1 (by omega) (by decide) (by decide) (by rw [hc.2.2 e (Nat.le_refl _)]; decide) ?_
      show wlX9_readsAll_7 post (0 + 1) G1 0
      rw [wlX9_readsAll_7]
      refine ifT rfl ?_
      rw [h1.1, h1.2.2.1]
      exact ifT rfl (K _ _ _ h1)
    · exact m_rT (c := 59) hc h1 (by omega) (by decide) (by decide) c59 (fun G2 h2 => ih (e + 1) _ _ G2 gl (by omega) h2)
theorem lp_rallF (hc : CSx cs L) {f : Nat} (K : ∀ ns so G', PM cs L f ns so G0 G' → post 0 G') : ∀ (n p : Nat) (ns : Nat → Int32) (so : Int32) (G : GS), BL cs L n p f → p ≤ L → PM cs L p ns so G0 G → wlX9_readsAll_7 post (n + 2) G 1 := by
  have hL := hc.1
  intro n
  induction n with
  | zero =>
    intro p ns so G g hp h
    rw [wlX9_readsAll_7]
    refine ifF (by decide) ?_
    rcases g with ⟨hs, rfl⟩ | ⟨k, hs, hr⟩ | ⟨k, hs, hr, n1, n2⟩
    · exact m_none hc h (by omega) hs (fun so' G' h' => ifT rfl (K _ _ _ h'))
    · refine m_cmd hc h (by omega) hs (fun e2 ns2 so2 G1 r z h1 => (RTF r hr).elim) (fun f ns2 so2 G1 r h1 => ifT rfl ?_)
      obtain rfl := RF_det hr r
      exact K _ _ _ h1
    · have he := cmd_end hc hs.1 hp hr
      refine m_cmd hc h (by omega) hs (fun e2 ns2 so2 G1 r z h1 => ifF (by decide) ?_) (fun f ns2 so2 G1 r h1 => (RTF hr r).elim)
      obtain rfl := RT_det hr r
      refine m_rF (c := 59) hc h1 (by omega) (by decide) (by decide) n2 ?_
      rw [wlX9_readsAll_7]
      refine ifT rfl ?_
      rw [h1.1, h1.2.2.1]
      exact ifF (fun g => n1 ((nI_eq (by omega) (by omega)).mp g)) (K _ _ _ h1)
  | succ n ih =>
    intro p ns so G g hp h
    rw [wlX9_readsAll_7]
    refine ifF (by decide) ?_
    obtain ⟨k, e, hs, hr, n1, c59, gl⟩ := g
    have he := cmd_end hc hs.1 hp hr
    refine m_cmd hc h (by omega) hs (fun e2 ns2 so2 G1 r z h1 => ifF (by decide) ?_) (fun f ns2 so2 G1 r h1 => (RTF hr r).elim)
    obtain rfl := RT_det hr r
    exact m_rT (c := 59) hc h1 (by omega) (by decide) (by decide) c59 (fun G2 h2 => ih (e + 1) _ _ G2 gl (by omega) h2)
end SCAN
