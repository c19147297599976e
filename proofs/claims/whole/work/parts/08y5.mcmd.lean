/-! scripts: the model reads one command; printed by wip/whole/gen/gen_y5.py -/
def QF (cs : Nat → Nat) (L : Nat) (G0 : GS) (post : Int32 → GS → Prop) (l : List Nat) (p : Nat) : Prop := ∀ f ns so G', RF cs l p f → PM cs L f ns so G0 G' → post 0 G'
def QT (cs : Nat → Nat) (L : Nat) (G0 : GS) (post : Int32 → GS → Prop) (Z : (Nat → Int32) → Int32 → Prop) (l : List Nat) (p : Nat) : Prop := ∀ e ns so G', RT cs l p e → Z ns so → PM cs L e ns so G0 G' → post 1 G'
def srt (k : Nat) : Nat := ([118, 112, 116, 115, 109, 101, 97, 114, 107, 100] : List Nat).getD k 0
def MFd (cs : Nat → Nat) (k p : Nat) (ns : Nat → Int32) (so : Int32) : Prop := so = nI (srt k) ∧ ∀ i, i < (mp k).length → ns i = ar cs k p ((mp k).getD i 0)
section MODEL
variable {cs : Nat → Nat} {L p : Nat} {G0 G : GS} {post post' : Int32 → GS → Prop} {ns : Nat → Int32} {so : Int32} {Z : (Nat → Int32) → Int32 → Prop} {l : List Nat} {it : Nat} {NEXT : GS → Prop}
theorem QF_s (k : QF cs L G0 post (it :: l) p) (h : iok cs it p) : QF cs L G0 post l (p + iwd cs it p) := fun f ns so G' r h' => k f ns so G' (Or.inr ⟨h, r⟩) h'
theorem QT_s (k : QT cs L G0 post Z (it :: l) p) (h : iok cs it p) : QT cs L G0 post Z l (p + iwd cs it p) := fun f ns so G' r z h' => k f ns so G' ⟨h, r⟩ z h'
theorem QF_m (m : ∀ G, post 0 G → post' 0 G) (k : QF cs L G0 post l p) : QF cs L G0 post' l p := fun f ns so G' r h' => m _ (k f ns so G' r h')
theorem QT_m (m : ∀ G, post 1 G → post' 1 G) (k : QT cs L G0 post Z l p) : QT cs L G0 post' Z l p := fun f ns so G' r z h' => m _ (k f ns so G' r z h')
theorem t_lit (hc : CSx cs L) (h : PM cs L p ns so G0 G) (hp : p < 700) {c : Nat} (h4 : 4 ≤ c) (h2 : c < 1000) (kF : QF cs L G0 post (c :: l) p) (kT : QT cs L G0 post Z (c :: l) p)
    (next : ∀ G', PM cs L (p + 1) ns so G0 G' → QF cs L G0 post l (p + 1) → QT cs L G0 post Z l (p + 1) → NEXT G') : wpX9_reads (fun r G1 => if r = 0 then post 0 G1 else NEXT G1) (nI c) G := by
  by_cases e : cs p = c
  · have ok := (iok_l (cs := cs) h4).mpr e
    have f := QF_s kF ok
    have t := QT_s kT ok
    rw [iwd_l h4] at f t
    exact m_rT hc h (by omega) (by omega) h2 e (fun G' h' => ifF (by decide) (next G' h' f t))
  · exact m_rF hc h (by omega) (by omega) h2 e (ifT rfl (kF _ _ _ _ (Or.inl ⟨fun g => e ((iok_l h4).mp g), rfl⟩) h))
theorem t_dig (hc : CSx cs L) (h : PM cs L p ns so G0 G) (hp : p < 700) {j : Nat} (hj : j < 4) (kF : QF cs L G0 post (1 :: l) p) (kT : QT cs L G0 post Z (1 :: l) p)
    (next : ∀ G', PM cs L (p + 1) (upd ns j (nI (cs p - 48))) so G0 G' → QF cs L G0 post l (p + 1) → QT cs L G0 post Z l (p + 1) → NEXT G') : wpX9_readsDigit (fun r G1 => if r = 0 then post 0 G1 else NEXT G1) (nI j) G := by
  by_cases e : dgt (cs p)
  · exact m_dT hc h (by omega) hj e (fun G' h' => ifF (by decide) (next G' h' (QF_s kF e) (QT_s kT e)))
  · exact m_dF hc h (by omega) e (ifT rfl (kF _ _ _ _ (Or.inl ⟨e, rfl⟩) h))
theorem t_kin (hc : CSx cs L) (h : PM cs L p ns so G0 G) (hp : p < 700) {j : Nat} (hj : j < 4) (kF : QF cs L G0 post (2 :: l) p) (kT : QT cs L G0 post Z (2 :: l) p)
    (next : ∀ G', PM cs L (p + 1) (upd ns j (nI (cs p))) so G0 G' → QF cs L G0 post l (p + 1) → QT cs L G0 post Z l (p + 1) → NEXT G') : wpX9_readsKind (fun r G1 => if r = 0 then post 0 G1 else NEXT G1) (nI j) G := by
  by_cases e : isk (cs p)
  · exact m_kT hc h (by omega) hj e (fun G' h' => ifF (by decide) (next G' h' (QF_s kF e) (QT_s kT e)))
  · exact m_kF hc h (by omega) hj e (fun G' h' => ifT rfl (kF _ _ _ _ (Or.inl ⟨e, rfl⟩) h'))
theorem t_num (hc : CSx cs L) (h : PM cs L p ns so G0 G) (hp : p < 700) {j : Nat} (hj : j < 4) (kF : QF cs L G0 post (3 :: l) p) (kT : QT cs L G0 post Z (3 :: l) p)
    (next : ∀ G', PM cs L (p + nlen cs p) (upd ns j (nI (nval cs p))) so G0 G' → QF cs L G0 post l (p + nlen cs p) → QT cs L G0 post Z l (p + nlen cs p) → NEXT G') : wpX9_readsNumber (fun r G1 => if r = 0 then post 0 G1 else NEXT G1) (nI j) G := by
  by_cases e : dgt (cs p)
  · exact m_nT hc h (by omega) hj e (fun G' h' => ifF (by decide) (next G' h' (QF_s kF e) (QT_s kT e)))
  · exact m_nF hc h (by omega) e (ifT rfl (kF _ _ _ _ (Or.inl ⟨e, rfl⟩) h))

theorem m_flies (hc : CSx cs L) (h0 : PM cs L p ns so G0 G) (hp : p < 600) (f0 : QF cs L G0 post [32,1,32,2,3] p) (t0 : QT cs L G0 post Z [32,1,32,2,3] p) (z : Z (upd (upd (upd ns 0 (nI (cs (p + 1) - 48))) 1 (nI (cs (p + 3)))) 2 (nI (nval cs (p + 4)))) so) : wpX9_readsFlies post G := by
  unfold wpX9_readsFlies
  refine t_lit (c := 32) hc h0 (by omega) (by decide) (by decide) f0 t0 (fun G1 h1 f1 t1 => ?_)
  refine t_dig (j := 0) hc h1 (by omega) (by decide) f1 t1 (fun G2 h2 f2 t2 => ?_)
  refine t_lit (c := 32) hc h2 (by omega) (by decide) (by decide) f2 t2 (fun G3 h3 f3 t3 => ?_)
  refine t_kin (j := 1) hc h3 (by omega) (by decide) f3 t3 (fun G4 h4 f4 t4 => ?_)
  refine t_num (j := 2) hc h4 (by omega) (by decide) f4 t4 (fun G5 h5 f5 t5 => ?_)
  exact t5 _ _ _ G5 rfl (z) h5
theorem m_rday (hc : CSx cs L) (h0 : PM cs L p ns so G0 G) (hp : p < 600) (f0 : QF cs L G0 post ([97,121] ++ if cs (p + 2) = 32 then [32, 3] else []) p) (t0 : QT cs L G0 post Z ([97,121] ++ if cs (p + 2) = 32 then [32, 3] else []) p) (z : ∀ m, m 0 = (if cs (p + 2) = 32 then nI (nval cs (p + 3)) else 1) → Z m so) : wpX9_readsDay post G := by
  unfold wpX9_readsDay
  refine t_lit (c := 97) hc h0 (by omega) (by decide) (by decide) f0 t0 (fun G1 h1 f1 t1 => ?_)
  refine t_lit (c := 121) hc h1 (by omega) (by decide) (by decide) f1 t1 (fun G2 h2 f2 t2 => ?_)
  refine ⟨in4 (k := 0) (by decide), ?_⟩
  rintro G8 rfl
  have h8 := PM_num h2 0 1
  by_cases c : cs (p + 2) = 32
  · rw [if_pos c] at f2 t2 z
    refine m_rT (c := 32) hc h8 (by omega) (by decide) (by decide) c (fun G9 h9 => ifF (by decide) ?_)
    refine t_num (j := 0) hc h9 (by omega) (by decide) (QF_s f2 c) (QT_s t2 c) (fun G3 h3 f3 t3 => ?_)
    exact t3 _ _ _ _ rfl (z _ rfl) h3
  · rw [if_neg c] at f2 t2 z
    refine m_rF (c := 32) hc h8 (by omega) (by decide) (by decide) c (ifT rfl ?_)
    exact t2 _ _ _ _ rfl (z _ rfl) h8
theorem m_sT (hc : CSx cs L) (h0 : PM cs L p ns so G0 G) (hp : p < 600) (e : cs p = 119) (f0 : QF cs L G0 post [119,97,112,32,1,32,2,2,3] p) (t0 : QT cs L G0 post Z [119,97,112,32,1,32,2,2,3] p) (z : Z (upd (upd (upd (upd ns 0 (nI (cs (p + 4) - 48))) 1 (nI (cs (p + 6)))) 2 (nI (cs (p + 7)))) 3 (nI (nval cs (p + 8)))) so) : wpX9_readsS post G := by
  unfold wpX9_readsS
  refine m_rT (c := 119) hc h0 (by omega) (by decide) (by decide) e (fun G1 h1 => ifF (by decide) ?_)
  have f1 := QF_s f0 e
  have t1 := QT_s t0 e
  rw [iwd_l (by decide)] at f1 t1
  refine t_lit (c := 97) hc h1 (by omega) (by decide) (by decide) f1 t1 (fun G2 h2 f2 t2 => ?_)
  refine t_lit (c := 112) hc h2 (by omega) (by decide) (by decide) f2 t2 (fun G3 h3 f3 t3 => ?_)
  refine t_lit (c := 32) hc h3 (by omega) (by decide) (by decide) f3 t3 (fun G4 h4 f4 t4 => ?_)
  refine t_dig (j := 0) hc h4 (by omega) (by decide) f4 t4 (fun G5 h5 f5 t5 => ?_)
  refine t_lit (c := 32) hc h5 (by omega) (by decide) (by decide) f5 t5 (fun G6 h6 f6 t6 => ?_)
  refine t_kin (j := 1) hc h6 (by omega) (by decide) f6 t6 (fun G7 h7 f7 t7 => ?_)
  refine t_kin (j := 2) hc h7 (by omega) (by decide) f7 t7 (fun G8 h8 f8 t8 => ?_)
  refine t_num (j := 3) hc h8 (by omega) (by decide) f8 t8 (fun G9 h9 f9 t9 => ?_)
  exact t9 _ _ _ G9 rfl (z) h9
theorem m_sF (hc : CSx cs L) (h : PM cs L p ns so G0 G) (hp : p < 600) (e : cs p ≠ 119) (f0 : QF cs L G0 post [116,105,99,107,32,1,32,1] p) (t0 : QT cs L G0 post Z [116,105,99,107,32,1,32,1] p) (z : Z (upd (upd ns 0 (nI (cs (p + 5) - 48))) 1 (nI (cs (p + 7) - 48))) 107) : wpX9_readsS post G := by
  unfold wpX9_readsS
  refine m_rF (c := 119) hc h (by omega) (by decide) (by decide) e (ifT rfl ?_)
  rintro G4 rfl
  have h0 := PM_sort h 107
  refine t_lit (c := 116) hc h0 (by omega) (by decide) (by decide) f0 t0 (fun G1 h1 f1 t1 => ?_)
  refine t_lit (c := 105) hc h1 (by omega) (by decide) (by decide) f1 t1 (fun G2 h2 f2 t2 => ?_)
  refine t_lit (c := 99) hc h2 (by omega) (by decide) (by decide) f2 t2 (fun G3 h3 f3 t3 => ?_)
  refine t_lit (c := 107) hc h3 (by omega) (by decide) (by decide) f3 t3 (fun G4 h4 f4 t4 => ?_)
  refine t_lit (c := 32) hc h4 (by omega) (by decide) (by decide) f4 t4 (fun G5 h5 f5 t5 => ?_)
  refine t_dig (j := 0) hc h5 (by omega) (by decide) f5 t5 (fun G6 h6 f6 t6 => ?_)
  refine t_lit (c := 32) hc h6 (by omega) (by decide) (by decide) f6 t6 (fun G7 h7 f7 t7 => ?_)
  refine t_dig (j := 1) hc h7 (by omega) (by decide) f7 t7 (fun G8 h8 f8 t8 => ?_)
  exact t8 _ _ _ G8 rfl (z) h8
theorem m_mT (hc : CSx cs L) (h0 : PM cs L p ns so G0 G) (hp : p < 600) (e : cs p = 105) (f0 : QF cs L G0 post [105,110,116,32,1,32,3] p) (t0 : QT cs L G0 post Z [105,110,116,32,1,32,3] p) (z : Z (upd (upd ns 0 (nI (cs (p + 4) - 48))) 1 (nI (nval cs (p + 6)))) so) : wpX9_readsM post G := by
  unfold wpX9_readsM
  refine m_rT (c := 105) hc h0 (by omega) (by decide) (by decide) e (fun G1 h1 => ifF (by decide) ?_)
  have f1 := QF_s f0 e
  have t1 := QT_s t0 e
  rw [iwd_l (by decide)] at f1 t1
  refine t_lit (c := 110) hc h1 (by omega) (by decide) (by decide) f1 t1 (fun G2 h2 f2 t2 => ?_)
  refine t_lit (c := 116) hc h2 (by omega) (by decide) (by decide) f2 t2 (fun G3 h3 f3 t3 => ?_)
  refine t_lit (c := 32) hc h3 (by omega) (by decide) (by decide) f3 t3 (fun G4 h4 f4 t4 => ?_)
  refine t_dig (j := 0) hc h4 (by omega) (by decide) f4 t4 (fun G5 h5 f5 t5 => ?_)
  refine t_lit (c := 32) hc h5 (by omega) (by decide) (by decide) f5 t5 (fun G6 h6 f6 t6 => ?_)
  refine t_num (j := 1) hc h6 (by omega) (by decide) f6 t6 (fun G7 h7 f7 t7 => ?_)
  exact t7 _ _ _ G7 rfl (z) h7
theorem m_mF (hc : CSx cs L) (h : PM cs L p ns so G0 G) (hp : p < 600) (e : cs p ≠ 105) (f0 : QF cs L G0 post [101,108,116,32,1,32,3] p) (t0 : QT cs L G0 post Z [101,108,116,32,1,32,3] p) (z : Z (upd (upd ns 0 (nI (cs (p + 4) - 48))) 1 (nI (nval cs (p + 6)))) 101) : wpX9_readsM post G := by
  unfold wpX9_readsM
  refine m_rF (c := 105) hc h (by omega) (by decide) (by decide) e (ifT rfl ?_)
  rintro G4 rfl
  have h0 := PM_sort h 101
  refine t_lit (c := 101) hc h0 (by omega) (by decide) (by decide) f0 t0 (fun G1 h1 f1 t1 => ?_)
  refine t_lit (c := 108) hc h1 (by omega) (by decide) (by decide) f1 t1 (fun G2 h2 f2 t2 => ?_)
  refine t_lit (c := 116) hc h2 (by omega) (by decide) (by decide) f2 t2 (fun G3 h3 f3 t3 => ?_)
  refine t_lit (c := 32) hc h3 (by omega) (by decide) (by decide) f3 t3 (fun G4 h4 f4 t4 => ?_)
  refine t_dig (j := 0) hc h4 (by omega) (by decide) f4 t4 (fun G5 h5 f5 t5 => ?_)
  refine t_lit (c := 32) hc h5 (by omega) (by decide) (by decide) f5 t5 (fun G6 h6 f6 t6 => ?_)
  refine t_num (j := 1) hc h6 (by omega) (by decide) f6 t6 (fun G7 h7 f7 t7 => ?_)
  exact t7 _ _ _ G7 rfl (z) h7
theorem b01 (G : GS) (h : post 0 G) : narrow .boolean (.int (0 : Int32)) = .int (0 : Int32) ∧ post 0 G := ⟨by decide, h⟩
theorem b11 (G : GS) (h : post 1 G) : narrow .boolean (.int (1 : Int32)) = .int (1 : Int32) ∧ post 1 G := ⟨by decide, h⟩
theorem i01 (G : GS) (h : post 0 G) : (fun (r : Int32) (G : GS) => if r = 0 then post 0 G else post 1 G) 0 G := ifT rfl h
theorem i11 (G : GS) (h : post 1 G) : (fun (r : Int32) (G : GS) => if r = 0 then post 0 G else post 1 G) 1 G := ifF (by decide) h
theorem m_cmd_0 (hc : CSx cs L) (h : PM cs L p ns so G0 G) (hp : p < 500) (hs : sel cs 0 p) (kF : QF cs L G0 post (itm cs 0 p) p) (kT : QT cs L G0 post (MFd cs 0 p) (itm cs 0 p) p) : wpX9_readsCommand post G := by
  have e : cs p = 118 := hs.2.1
  have em : mc cs L p = nI 118 := (mc_eq hc (by decide) (by decide)).mpr e
  unfold wpX9_readsCommand
  refine m_next hc h (by omega) ?_
  rintro G3 rfl
  have hh := PM_sort h (mc cs L p)
  refine m_rT (c := 118) hc hh (by omega) (by decide) (by decide) e (fun G1 h1 => ifF (by decide) ?_)
  have f1 := QF_s kF e
  have t1 := QT_s kT e
  rw [iwd_l (by decide)] at f1 t1
  refine t_lit (c := 97) hc h1 (by omega) (by decide) (by decide) f1 t1 (fun G2 h2 f2 t2 => ?_)
  refine t_lit (c := 117) hc h2 (by omega) (by decide) (by decide) f2 t2 (fun G3 h3 f3 t3 => ?_)
  refine t_lit (c := 108) hc h3 (by omega) (by decide) (by decide) f3 t3 (fun G4 h4 f4 t4 => ?_)
  refine t_lit (c := 116) hc h4 (by omega) (by decide) (by decide) f4 t4 (fun G5 h5 f5 t5 => ?_)
  refine t_lit (c := 32) hc h5 (by omega) (by decide) (by decide) f5 t5 (fun G6 h6 f6 t6 => ?_)
  refine t_dig (j := 0) hc h6 (by omega) (by decide) f6 t6 (fun G7 h7 f7 t7 => ?_)
  exact t7 _ _ _ G7 rfl (⟨em.trans rfl, fun i hi => by
      obtain rfl : i = 0 := by have : i < 1 := hi; omega
      all_goals rfl⟩) h7
theorem m_cmd_1 (hc : CSx cs L) (h : PM cs L p ns so G0 G) (hp : p < 500) (hs : sel cs 1 p) (kF : QF cs L G0 post (itm cs 1 p) p) (kT : QT cs L G0 post (MFd cs 1 p) (itm cs 1 p) p) : wpX9_readsCommand post G := by
  have e : cs p = 112 := hs.2.1
  have em : mc cs L p = nI 112 := (mc_eq hc (by decide) (by decide)).mpr e
  unfold wpX9_readsCommand
  refine m_next hc h (by omega) ?_
  rintro G3 rfl
  have hh := PM_sort h (mc cs L p)
  refine m_rF (c := 118) hc hh (by omega) (by decide) (by decide) (by rw [e]; decide) (ifT rfl ?_)
  refine m_rT (c := 112) hc hh (by omega) (by decide) (by decide) e (fun G1 h1 => ifF (by decide) ?_)
  have f1 := QF_s kF e
  have t1 := QT_s kT e
  rw [iwd_l (by decide)] at f1 t1
  refine t_lit (c := 117) hc h1 (by omega) (by decide) (by decide) f1 t1 (fun G2 h2 f2 t2 => ?_)
  refine t_lit (c := 116) hc h2 (by omega) (by decide) (by decide) f2 t2 (fun G3 h3 f3 t3 => ?_)
  refine m_flies hc h3 (by omega) (QF_m i01 f3) (QT_m i11 t3) (⟨em.trans rfl, fun i hi => by
      obtain rfl | rfl | rfl : i = 0 ∨ i = 1 ∨ i = 2 := by have : i < 3 := hi; omega
      all_goals rfl⟩)
theorem m_cmd_2 (hc : CSx cs L) (h : PM cs L p ns so G0 G) (hp : p < 500) (hs : sel cs 2 p) (kF : QF cs L G0 post (itm cs 2 p) p) (kT : QT cs L G0 post (MFd cs 2 p) (itm cs 2 p) p) : wpX9_readsCommand post G := by
  have e : cs p = 116 := hs.2.1
  have em : mc cs L p = nI 116 := (mc_eq hc (by decide) (by decide)).mpr e
  unfold wpX9_readsCommand
  refine m_next hc h (by omega) ?_
  rintro G3 rfl
  have hh := PM_sort h (mc cs L p)
  refine m_rF (c := 118) hc hh (by omega) (by decide) (by decide) (by rw [e]; decide) (ifT rfl ?_)
  refine m_rF (c := 112) hc hh (by omega) (by decide) (by decide) (by rw [e]; decide) (ifT rfl ?_)
  refine m_rT (c := 116) hc hh (by omega) (by decide) (by decide) e (fun G1 h1 => ifF (by decide) ?_)
  have f1 := QF_s kF e
  have t1 := QT_s kT e
  rw [iwd_l (by decide)] at f1 t1
  refine t_lit (c := 97) hc h1 (by omega) (by decide) (by decide) f1 t1 (fun G2 h2 f2 t2 => ?_)
  refine t_lit (c := 107) hc h2 (by omega) (by decide) (by decide) f2 t2 (fun G3 h3 f3 t3 => ?_)
  refine t_lit (c := 101) hc h3 (by omega) (by decide) (by decide) f3 t3 (fun G4 h4 f4 t4 => ?_)
  refine m_flies hc h4 (by omega) (QF_m i01 f4) (QT_m i11 t4) (⟨em.trans rfl, fun i hi => by
      obtain rfl | rfl | rfl : i = 0 ∨ i = 1 ∨ i = 2 := by have : i < 3 := hi; omega
      all_goals rfl⟩)
theorem m_cmd_3 (hc : CSx cs L) (h : PM cs L p ns so G0 G) (hp : p < 500) (hs : sel cs 3 p) (kF : QF cs L G0 post (itm cs 3 p) p) (kT : QT cs L G0 post (MFd cs 3 p) (itm cs 3 p) p) : wpX9_readsCommand post G := by
  have e : cs p = 115 := hs.2.1
  have em : mc cs L p = nI 115 := (mc_eq hc (by decide) (by decide)).mpr e
  unfold wpX9_readsCommand
  refine m_next hc h (by omega) ?_
  rintro G3 rfl
  have hh := PM_sort h (mc cs L p)
  refine m_rF (c := 118) hc hh (by omega) (by decide) (by decide) (by rw [e]; decide) (ifT rfl ?_)
  refine m_rF (c := 112) hc hh (by omega) (by decide) (by decide) (by rw [e]; decide) (ifT rfl ?_)
  refine m_rF (c := 116) hc hh (by omega) (by decide) (by decide) (by rw [e]; decide) (ifT rfl ?_)
  refine m_rT (c := 115) hc hh (by omega) (by decide) (by decide) e (fun G1 h1 => ifF (by decide) ?_)
  have f1 := QF_s kF e
  have t1 := QT_s kT e
  rw [iwd_l (by decide)] at f1 t1
  refine m_sT hc h1 (by omega) (hs.2.2.1 rfl) (QF_m b01 f1) (QT_m b11 t1) (⟨em.trans rfl, fun i hi => by
      obtain rfl | rfl | rfl | rfl : i = 0 ∨ i = 1 ∨ i = 2 ∨ i = 3 := by have : i < 4 := hi; omega
      all_goals rfl⟩)
theorem m_cmd_4 (hc : CSx cs L) (h : PM cs L p ns so G0 G) (hp : p < 500) (hs : sel cs 4 p) (kF : QF cs L G0 post (itm cs 4 p) p) (kT : QT cs L G0 post (MFd cs 4 p) (itm cs 4 p) p) : wpX9_readsCommand post G := by
  have e : cs p = 109 := hs.2.1
  have em : mc cs L p = nI 109 := (mc_eq hc (by decide) (by decide)).mpr e
  unfold wpX9_readsCommand
  refine m_next hc h (by omega) ?_
  rintro G3 rfl
  have hh := PM_sort h (mc cs L p)
  refine m_rF (c := 118) hc hh (by omega) (by decide) (by decide) (by rw [e]; decide) (ifT rfl ?_)
  refine m_rF (c := 112) hc hh (by omega) (by decide) (by decide) (by rw [e]; decide) (ifT rfl ?_)
  refine m_rF (c := 116) hc hh (by omega) (by decide) (by decide) (by rw [e]; decide) (ifT rfl ?_)
  refine m_rF (c := 115) hc hh (by omega) (by decide) (by decide) (by rw [e]; decide) (ifT rfl ?_)
  refine m_rT (c := 109) hc hh (by omega) (by decide) (by decide) e (fun G1 h1 => ifF (by decide) ?_)
  have f1 := QF_s kF e
  have t1 := QT_s kT e
  rw [iwd_l (by decide)] at f1 t1
  refine m_mT hc h1 (by omega) (hs.2.2.2.2.1 rfl) (QF_m b01 f1) (QT_m b11 t1) (⟨em.trans rfl, fun i hi => by
      obtain rfl | rfl : i = 0 ∨ i = 1 := by have : i < 2 := hi; omega
      all_goals rfl⟩)
theorem m_cmd_5 (hc : CSx cs L) (h : PM cs L p ns so G0 G) (hp : p < 500) (hs : sel cs 5 p) (kF : QF cs L G0 post (itm cs 5 p) p) (kT : QT cs L G0 post (MFd cs 5 p) (itm cs 5 p) p) : wpX9_readsCommand post G := by
  have e : cs p = 109 := hs.2.1
  have em : mc cs L p = nI 109 := (mc_eq hc (by decide) (by decide)).mpr e
  unfold wpX9_readsCommand
  refine m_next hc h (by omega) ?_
  rintro G3 rfl
  have hh := PM_sort h (mc cs L p)
  refine m_rF (c := 118) hc hh (by omega) (by decide) (by decide) (by rw [e]; decide) (ifT rfl ?_)
  refine m_rF (c := 112) hc hh (by omega) (by decide) (by decide) (by rw [e]; decide) (ifT rfl ?_)
  refine m_rF (c := 116) hc hh (by omega) (by decide) (by decide) (by rw [e]; decide) (ifT rfl ?_)
  refine m_rF (c := 115) hc hh (by omega) (by decide) (by decide) (by rw [e]; decide) (ifT rfl ?_)
  refine m_rT (c := 109) hc hh (by omega) (by decide) (by decide) e (fun G1 h1 => ifF (by decide) ?_)
  have f1 := QF_s kF e
  have t1 := QT_s kT e
  rw [iwd_l (by decide)] at f1 t1
  refine m_mF hc h1 (by omega) (hs.2.2.2.2.2 rfl) (QF_m b01 f1) (QT_m b11 t1) (⟨rfl, fun i hi => by
      obtain rfl | rfl : i = 0 ∨ i = 1 := by have : i < 2 := hi; omega
      all_goals rfl⟩)
theorem m_cmd_6 (hc : CSx cs L) (h : PM cs L p ns so G0 G) (hp : p < 500) (hs : sel cs 6 p) (kF : QF cs L G0 post (itm cs 6 p) p) (kT : QT cs L G0 post (MFd cs 6 p) (itm cs 6 p) p) : wpX9_readsCommand post G := by
  have e : cs p = 97 := hs.2.1
  have em : mc cs L p = nI 97 := (mc_eq hc (by decide) (by decide)).mpr e
  unfold wpX9_readsCommand
  refine m_next hc h (by omega) ?_
  rintro G3 rfl
  have hh := PM_sort h (mc cs L p)
  refine m_rF (c := 118) hc hh (by omega) (by decide) (by decide) (by rw [e]; decide) (ifT rfl ?_)
  refine m_rF (c := 112) hc hh (by omega) (by decide) (by decide) (by rw [e]; decide) (ifT rfl ?_)
  refine m_rF (c := 116) hc hh (by omega) (by decide) (by decide) (by rw [e]; decide) (ifT rfl ?_)
  refine m_rF (c := 115) hc hh (by omega) (by decide) (by decide) (by rw [e]; decide) (ifT rfl ?_)
  refine m_rF (c := 109) hc hh (by omega) (by decide) (by decide) (by rw [e]; decide) (ifT rfl ?_)
  refine m_rT (c := 97) hc hh (by omega) (by decide) (by decide) e (fun G1 h1 => ifF (by decide) ?_)
  have f1 := QF_s kF e
  have t1 := QT_s kT e
  rw [iwd_l (by decide)] at f1 t1
  refine t_lit (c := 117) hc h1 (by omega) (by decide) (by decide) f1 t1 (fun G2 h2 f2 t2 => ?_)
  refine t_lit (c := 100) hc h2 (by omega) (by decide) (by decide) f2 t2 (fun G3 h3 f3 t3 => ?_)
  refine t_lit (c := 105) hc h3 (by omega) (by decide) (by decide) f3 t3 (fun G4 h4 f4 t4 => ?_)
  refine t_lit (c := 116) hc h4 (by omega) (by decide) (by decide) f4 t4 (fun G5 h5 f5 t5 => ?_)
  refine t_lit (c := 32) hc h5 (by omega) (by decide) (by decide) f5 t5 (fun G6 h6 f6 t6 => ?_)
  refine t_dig (j := 0) hc h6 (by omega) (by decide) f6 t6 (fun G7 h7 f7 t7 => ?_)
  exact t7 _ _ _ G7 rfl (⟨em.trans rfl, fun i hi => by
      obtain rfl : i = 0 := by have : i < 1 := hi; omega
      all_goals rfl⟩) h7
theorem m_cmd_7 (hc : CSx cs L) (h : PM cs L p ns so G0 G) (hp : p < 500) (hs : sel cs 7 p) (kF : QF cs L G0 post (itm cs 7 p) p) (kT : QT cs L G0 post (MFd cs 7 p) (itm cs 7 p) p) : wpX9_readsCommand post G := by
  have e : cs p = 114 := hs.2.1
  have em : mc cs L p = nI 114 := (mc_eq hc (by decide) (by decide)).mpr e
  unfold wpX9_readsCommand
  refine m_next hc h (by omega) ?_
  rintro G3 rfl
  have hh := PM_sort h (mc cs L p)
  refine m_rF (c := 118) hc hh (by omega) (by decide) (by decide) (by rw [e]; decide) (ifT rfl ?_)
  refine m_rF (c := 112) hc hh (by omega) (by decide) (by decide) (by rw [e]; decide) (ifT rfl ?_)
  refine m_rF (c := 116) hc hh (by omega) (by decide) (by decide) (by rw [e]; decide) (ifT rfl ?_)
  refine m_rF (c := 115) hc hh (by omega) (by decide) (by decide) (by rw [e]; decide) (ifT rfl ?_)
  refine m_rF (c := 109) hc hh (by omega) (by decide) (by decide) (by rw [e]; decide) (ifT rfl ?_)
  refine m_rF (c := 97) hc hh (by omega) (by decide) (by decide) (by rw [e]; decide) (ifT rfl ?_)
  refine m_rT (c := 114) hc hh (by omega) (by decide) (by decide) e (fun G1 h1 => ifF (by decide) ?_)
  have f1 := QF_s kF e
  have t1 := QT_s kT e
  rw [iwd_l (by decide)] at f1 t1
  refine t_lit (c := 97) hc h1 (by omega) (by decide) (by decide) f1 t1 (fun G2 h2 f2 t2 => ?_)
  refine t_lit (c := 116) hc h2 (by omega) (by decide) (by decide) f2 t2 (fun G3 h3 f3 t3 => ?_)
  refine t_lit (c := 101) hc h3 (by omega) (by decide) (by decide) f3 t3 (fun G4 h4 f4 t4 => ?_)
  refine t_lit (c := 32) hc h4 (by omega) (by decide) (by decide) f4 t4 (fun G5 h5 f5 t5 => ?_)
  refine t_kin (j := 0) hc h5 (by omega) (by decide) f5 t5 (fun G6 h6 f6 t6 => ?_)
  refine t_num (j := 1) hc h6 (by omega) (by decide) f6 t6 (fun G7 h7 f7 t7 => ?_)
  exact t7 _ _ _ G7 rfl (⟨em.trans rfl, fun i hi => by
      obtain rfl | rfl : i = 0 ∨ i = 1 := by have : i < 2 := hi; omega
      all_goals rfl⟩) h7
theorem m_cmd_8 (hc : CSx cs L) (h : PM cs L p ns so G0 G) (hp : p < 500) (hs : sel cs 8 p) (kF : QF cs L G0 post (itm cs 8 p) p) (kT : QT cs L G0 post (MFd cs 8 p) (itm cs 8 p) p) : wpX9_readsCommand post G := by
  have e : cs p = 115 := hs.2.1
  have em : mc cs L p = nI 115 := (mc_eq hc (by decide) (by decide)).mpr e
  unfold wpX9_readsCommand
  refine m_next hc h (by omega) ?_
  rintro G3 rfl
  have hh := PM_sort h (mc cs L p)
  refine m_rF (c := 118) hc hh (by omega) (by decide) (by decide) (by rw [e]; decide) (ifT rfl ?_)
  refine m_rF (c := 112) hc hh (by omega) (by decide) (by decide) (by rw [e]; decide) (ifT rfl ?_)
  refine m_rF (c := 116) hc hh (by omega) (by decide) (by decide) (by rw [e]; decide) (ifT rfl ?_)
  refine m_rT (c := 115) hc hh (by omega) (by decide) (by decide) e (fun G1 h1 => ifF (by decide) ?_)
  have f1 := QF_s kF e
  have t1 := QT_s kT e
  rw [iwd_l (by decide)] at f1 t1
  refine m_sF hc h1 (by omega) (hs.2.2.2.1 rfl) (QF_m b01 f1) (QT_m b11 t1) (⟨rfl, fun i hi => by
      obtain rfl | rfl : i = 0 ∨ i = 1 := by have : i < 2 := hi; omega
      all_goals rfl⟩)
theorem m_cmd_9 (hc : CSx cs L) (h : PM cs L p ns so G0 G) (hp : p < 500) (hs : sel cs 9 p) (kF : QF cs L G0 post (itm cs 9 p) p) (kT : QT cs L G0 post (MFd cs 9 p) (itm cs 9 p) p) : wpX9_readsCommand post G := by
  have e : cs p = 100 := hs.2.1
  have em : mc cs L p = nI 100 := (mc_eq hc (by decide) (by decide)).mpr e
  unfold wpX9_readsCommand
  refine m_next hc h (by omega) ?_
  rintro G3 rfl
  have hh := PM_sort h (mc cs L p)
  refine m_rF (c := 118) hc hh (by omega) (by decide) (by decide) (by rw [e]; decide) (ifT rfl ?_)
  refine m_rF (c := 112) hc hh (by omega) (by decide) (by decide) (by rw [e]; decide) (ifT rfl ?_)
  refine m_rF (c := 116) hc hh (by omega) (by decide) (by decide) (by rw [e]; decide) (ifT rfl ?_)
  refine m_rF (c := 115) hc hh (by omega) (by decide) (by decide) (by rw [e]; decide) (ifT rfl ?_)
  refine m_rF (c := 109) hc hh (by omega) (by decide) (by decide) (by rw [e]; decide) (ifT rfl ?_)
  refine m_rF (c := 97) hc hh (by omega) (by decide) (by decide) (by rw [e]; decide) (ifT rfl ?_)
  refine m_rF (c := 114) hc hh (by omega) (by decide) (by decide) (by rw [e]; decide) (ifT rfl ?_)
  refine m_rT (c := 100) hc hh (by omega) (by decide) (by decide) e (fun G1 h1 => ifF (by decide) ?_)
  have f1 := QF_s kF e
  have t1 := QT_s kT e
  rw [iwd_l (by decide)] at f1 t1
  refine m_rday hc h1 (by omega) (QF_m i01 f1) (QT_m i11 t1) (fun m hm => ⟨em.trans rfl, fun i hi => ?_⟩)
  obtain rfl : i = 0 := by have : i < 1 := hi; omega
  exact hm
theorem m_cmd (hc : CSx cs L) (h : PM cs L p ns so G0 G) (hp : p < 500) {k : Nat} (hs : sel cs k p) (kT : QT cs L G0 post (MFd cs k p) (itm cs k p) p) (kF : QF cs L G0 post (itm cs k p) p) : wpX9_readsCommand post G := by
  have hk := hs.1
  obtain rfl | rfl | rfl | rfl | rfl | rfl | rfl | rfl | rfl | rfl : k = 0 ∨ k = 1 ∨ k = 2 ∨ k = 3 ∨ k = 4 ∨ k = 5 ∨ k = 6 ∨ k = 7 ∨ k = 8 ∨ k = 9 := by omega
  · exact m_cmd_0 hc h hp hs kF kT
  · exact m_cmd_1 hc h hp hs kF kT
  · exact m_cmd_2 hc h hp hs kF kT
  · exact m_cmd_3 hc h hp hs kF kT
  · exact m_cmd_4 hc h hp hs kF kT
  · exact m_cmd_5 hc h hp hs kF kT
  · exact m_cmd_6 hc h hp hs kF kT
  · exact m_cmd_7 hc h hp hs kF kT
  · exact m_cmd_8 hc h hp hs kF kT
  · exact m_cmd_9 hc h hp hs kF kT
theorem m_none (hc : CSx cs L) (h : PM cs L p ns so G0 G) (hp : p < 500) (hs : nosel cs p) (kF : ∀ so' G', PM cs L p ns so' G0 G' → post 0 G') : wpX9_readsCommand post G := by
  unfold wpX9_readsCommand
  refine m_next hc h (by omega) ?_
  rintro G3 rfl
  have hh := PM_sort h (mc cs L p)
  refine m_rF (c := 118) hc hh (by omega) (by decide) (by decide) (hs 0 (by decide)) (ifT rfl ?_)
  refine m_rF (c := 112) hc hh (by omega) (by decide) (by decide) (hs 1 (by decide)) (ifT rfl ?_)
  refine m_rF (c := 116) hc hh (by omega) (by decide) (by decide) (hs 2 (by decide)) (ifT rfl ?_)
  refine m_rF (c := 115) hc hh (by omega) (by decide) (by decide) (hs 3 (by decide)) (ifT rfl ?_)
  refine m_rF (c := 109) hc hh (by omega) (by decide) (by decide) (hs 4 (by decide)) (ifT rfl ?_)
  refine m_rF (c := 97) hc hh (by omega) (by decide) (by decide) (hs 6 (by decide)) (ifT rfl ?_)
  refine m_rF (c := 114) hc hh (by omega) (by decide) (by decide) (hs 7 (by decide)) (ifT rfl ?_)
  refine m_rF (c := 100) hc hh (by omega) (by decide) (by decide) (hs 9 (by decide)) (ifT rfl ?_)
  exact kF _ _ hh
end MODEL
