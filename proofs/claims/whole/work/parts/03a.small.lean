/-! small rows; printed by wip/whole/gen/gen_aux.py -/
theorem Ev.S {X : Cx} {U : State} {H : Heap} (h : Ev X U H) : vk_S 37 LTl LTb (xk X 2) (xk X 3) (xA X) U H := h.2.2.2.1.1
theorem Ev.zR {X : Cx} {U : State} {H : Heap} (h : Ev X U H) : va_Z "FlyTreasury$1" "$SwitchMap$FlyTreasury$Refusal" "[I" (.ref (xk X 4 0)) (xA X) U H := h.2.2.2.1.2.2.2.2.2.1.1
theorem Ev.tR {X : Cx} {U : State} {H : Heap} (h : Ev X U H) : va_T .int (xk X 4 0) 5 (fun i => .int (([0, 1, 2, 3, 4] : List Int32).getD i 0)) (xA X) U H := h.2.2.2.1.2.2.2.2.2.1.2
theorem Ev.zC {X : Cx} {U : State} {H : Heap} (h : Ev X U H) : va_Z "FlyTreasury$1" "$SwitchMap$FlyTreasury$Command" "[I" (.ref (xk X 4 1)) (xA X) U H := h.2.2.2.1.2.2.2.2.2.2.1.1
theorem Ev.tC {X : Cx} {U : State} {H : Heap} (h : Ev X U H) : va_T .int (xk X 4 1) 10 (fun i => .int (([1, 2, 3, 4, 5, 6, 7, 8, 9, 0] : List Int32).getD i 0)) (xA X) U H := h.2.2.2.1.2.2.2.2.2.2.1.2
theorem Ev.zM {X : Cx} {U : State} {H : Heap} (h : Ev X U H) : va_Z "FlyTreasury" "COMMANDS" "[LFlyTreasury$Command;" (.ref (xk X 4 2)) (xA X) U H := h.2.2.2.1.2.2.2.2.2.2.2.1.1
theorem Ev.tM {X : Cx} {U : State} {H : Heap} (h : Ev X U H) : va_T (.object "FlyTreasury$Command") (xk X 4 2) 10 (fun i => .ref (xk X 1 i)) (xA X) U H := h.2.2.2.1.2.2.2.2.2.2.2.1.2
theorem Ev.zO {X : Cx} {U : State} {H : Heap} (h : Ev X U H) : va_Z "java/lang/Integer" "DigitOnes" "[B" (.ref (xk X 4 3)) (xA X) U H := h.2.2.2.1.2.2.2.2.2.2.2.2.1.1
theorem Ev.tO {X : Cx} {U : State} {H : Heap} (h : Ev X U H) : va_T .byte (xk X 4 3) 100 (fun i => .int (DOl.getD i 0)) (xA X) U H := h.2.2.2.1.2.2.2.2.2.2.2.2.1.2
theorem Ev.zT {X : Cx} {U : State} {H : Heap} (h : Ev X U H) : va_Z "java/lang/Integer" "DigitTens" "[B" (.ref (xk X 4 4)) (xA X) U H := h.2.2.2.1.2.2.2.2.2.2.2.2.2.1.1
theorem Ev.tT {X : Cx} {U : State} {H : Heap} (h : Ev X U H) : va_T .byte (xk X 4 4) 100 (fun i => .int (DTl.getD i 0)) (xA X) U H := h.2.2.2.1.2.2.2.2.2.2.2.2.2.1.2
theorem Ev.cs {X : Cx} {U : State} {H : Heap} (h : Ev X U H) : va_Z "java/lang/String" "COMPACT_STRINGS" "Z" (.int 1) (xA X) U H := h.2.2.2.1.2.2.2.2.2.2.2.2.2.2.1
theorem Ev.un {X : Cx} {U : State} {H : Heap} (h : Ev X U H) : vx_Zq Bundle.tN "UNASSIGNED_STACK" Bundle.steD (xA X) U H := h.2.2.2.1.2.2.2.2.2.2.2.2.2.2.2.1
theorem Ev.su {X : Cx} {U : State} {H : Heap} (h : Ev X U H) : vx_Zq Bundle.tN "SUPPRESSED_SENTINEL" Bundle.listD (xA X) U H := h.2.2.2.1.2.2.2.2.2.2.2.2.2.2.2.2.1
theorem Ev.fm {X : Cx} {U : State} {H : Heap} (h : Ev X U H) : ∃ r : Option Nat, va_Z "jdk/internal/util/Preconditions" "SIOOBE_FORMATTER" "Ljava/util/function/BiFunction;" (va_rf r) (xA X) U H := by
  rcases h.2.2.2.1.2.2.2.2.2.2.2.2.2.2.2.2.2 with h | ⟨t, h⟩
  · exact ⟨none, h⟩
  · exact ⟨some t, h⟩
theorem Ev.e0 {X : Cx} {U : State} {H : Heap} (h : Ev X U H) : va_En "FlyTreasury$Refusal" "LFlyTreasury$Refusal;" RNl [("java/lang/Enum", "ordinal", "I", [0, 1, 2, 3, 4])] (xk X 0) (xA X) U H := h.2.2.2.1.2.1
theorem Ev.e1 {X : Cx} {U : State} {H : Heap} (h : Ev X U H) : va_En "FlyTreasury$Command" "LFlyTreasury$Command;" CNl [("java/lang/Enum", "ordinal", "I", [0, 1, 2, 3, 4, 5, 6, 7, 8, 9])] (xk X 1) (xA X) U H := h.2.2.2.1.2.2.1
theorem en_Z0 {X : Cx} {U : State} {H : Heap} (h : Ev X U H) {i : Nat} (hi : i < 5) : va_Z "FlyTreasury$Refusal" (RNl.getD i "") "LFlyTreasury$Refusal;" (.ref (xk X 0 i)) (xA X) U H := (h.e0.1 i hi).1
theorem en_Z1 {X : Cx} {U : State} {H : Heap} (h : Ev X U H) {i : Nat} (hi : i < 10) : va_Z "FlyTreasury$Command" (CNl.getD i "") "LFlyTreasury$Command;" (.ref (xk X 1 i)) (xA X) U H := (h.e1.1 i hi).1
theorem enI0 {X : Cx} {U : State} {H : Heap} (h : Ev X U H) {i j : Nat} (hi : i < 5) (hj : j < 5) (e : xk X 0 i = xk X 0 j) : i = j := h.e0.2 i j hi hj e
theorem enI1 {X : Cx} {U : State} {H : Heap} (h : Ev X U H) {i j : Nat} (hi : i < 10) (hj : j < 10) (e : xk X 1 i = xk X 1 j) : i = j := h.e1.2 i j hi hj e
theorem ordl0 : ∀ i, i < 5 → ([0, 1, 2, 3, 4] : List Int32).getD i 0 = nI i := by decide +kernel
theorem ordl1 : ∀ i, i < 10 → ([0, 1, 2, 3, 4, 5, 6, 7, 8, 9] : List Int32).getD i 0 = nI i := by decide +kernel
theorem en_O0 {X : Cx} {U : State} {H : Heap} (h : Ev X U H) {i : Nat} (hi : i < 5) : va_OF "java/lang/Enum" "ordinal" "I" (.int (nI i)) (xk X 0 i) (xA X) U H := by
  have h1 := (h.e0.1 i hi).2.2 _ List.mem_cons_self
  rw [← ordl0 i hi]; exact h1
theorem en_O1 {X : Cx} {U : State} {H : Heap} (h : Ev X U H) {i : Nat} (hi : i < 10) : va_OF "java/lang/Enum" "ordinal" "I" (.int (nI i)) (xk X 1 i) (xA X) U H := by
  have h1 := (h.e1.1 i hi).2.2 _ List.mem_cons_self
  rw [← ordl1 i hi]; exact h1
theorem en_word {X : Cx} {U : State} {H : Heap} (h : Ev X U H) {i : Nat} (hi : i < 10) : va_OF "FlyTreasury$Command" "word" "Ljava/lang/String;" (.ref (xk X 2 (CWl.getD i 0))) (xk X 1 i) (xA X) U H := h.2.2.2.1.2.2.2.1 i hi
theorem en_form {X : Cx} {U : State} {H : Heap} (h : Ev X U H) {i : Nat} (hi : i < 10) : va_OF "FlyTreasury$Command" "form" "Ljava/lang/String;" (.ref (xk X 2 (CFl.getD i 0))) (xk X 1 i) (xA X) U H := h.2.2.2.1.2.2.2.2.1 i hi
theorem lit_all : ∀ i, i < 10 → CWl.getD i 0 < 37 ∧ CFl.getD i 0 < 37 := by decide +kernel
theorem lit_word {i : Nat} (hi : i < 10) : CWl.getD i 0 < 37 := (lit_all i hi).1
theorem lit_form {i : Nat} (hi : i < 10) : CFl.getD i 0 < 37 := (lit_all i hi).2
theorem k0_all : ∀ q, q < 199 → kd q = 0 → kd (q + 1) = 1 ∧ kd (q + 2) = 2 ∧ kd (q + 3) = 2 ∧ kd (q + 4) = 2 := by decide +kernel
theorem k3_all : ∀ q, q < 199 → kd q = 3 → kd (q + 5) = 2 := by decide +kernel
theorem k0_1 {q : Nat} (h : kd q = 0) : kd (q + 1) = 1 := (k0_all q (kd_lt h (by decide)) h).1
theorem k0_2 {q : Nat} (h : kd q = 0) : kd (q + 2) = 2 := (k0_all q (kd_lt h (by decide)) h).2.1
theorem k0_3 {q : Nat} (h : kd q = 0) : kd (q + 3) = 2 := (k0_all q (kd_lt h (by decide)) h).2.2.1
theorem k0_4 {q : Nat} (h : kd q = 0) : kd (q + 4) = 2 := (k0_all q (kd_lt h (by decide)) h).2.2.2
theorem k3_5 {q : Nat} (h : kd q = 3) : kd (q + 5) = 2 := k3_all q (kd_lt h (by decide)) h
theorem vin_lt {i : Int32} {n : Nat} (h : vp_in i n) : i.toNatClampNeg < n := Nat.not_le.mp fun q => h (Or.inr q)
theorem k1_all : ∀ q, q < 199 → kd q = 1 → ∀ j, j < 5 → kd (q + 4 + j) = 3 := by decide +kernel
theorem k1_e {q : Nat} {i : Int32} (h : kd q = 1) (hi : vp_in i 5) : kd (q + 4 + i.toNatClampNeg) = 3 := k1_all q (kd_lt h (by decide)) h _ (vin_lt hi)
theorem k6_all : ∀ j, j < 8 → kd (45 + 15 * j) = 0 := by decide +kernel
theorem k6_e {i : Int32} (hi : vp_in i 8) : kd (45 + 15 * i.toNatClampNeg) = 0 := k6_all _ (vin_lt hi)
theorem k9_all : ∀ j, j < 16 → kd (171 + j) = 10 := by decide +kernel
theorem k9_e {i : Int32} (hi : vp_in i 16) : kd (171 + i.toNatClampNeg) = 10 := k9_all _ (vin_lt hi)
section SMALL
variable {p : Program} {l : Launch} {e : Env} {R : Room} {s : State} {m : MethodId} {args : Array Value} {below : List Frame} {meth : Method} {c : Code} {H : Heap} {locs : List Loc} {cells slots : Nat} {Q : State → Prop} {cc : ByteArray} {pc : Nat} {ls : Array Slot} {rest : List Value} {X : Cx} {G : GS} {own C host : String} {index q : Nat} {mc ms d n nL nLc b : Nat} {y : MethodName} {bc : ByteArray} {ret : Option FieldType} {As st0 : List Value} {a : Array Value} {Qc : Array Value → State → Outcome → State → Prop} {xpost : String → GS → Prop} {i1 i2 i3 i4 i5 i6 : Nat}
theorem rv_X3 {q : Nat} (hE : Ev X s s.heap) (hP : va_P (xD X) vwCl (pool X G) H) (hk : kd q = 0) : ∃ cell : Cell, H[xa X q]? = some cell ∧ cell.vm.isStatics = false ∧ s.vm.findClass "FlyTreasury$Ledger" = some cell.cls := va_recv hE.2.1 hP (ci := 5) (q0 := q) rfl (at_X3 X G hk)
theorem rv_X7 {q : Nat} (hE : Ev X s s.heap) (hP : va_P (xD X) vwCl (pool X G) H) (hk : kd q = 3) : ∃ cell : Cell, H[xa X q]? = some cell ∧ cell.vm.isStatics = false ∧ s.vm.findClass "FlyTreasury$Vault" = some cell.cls := va_recv hE.2.1 hP (ci := 8) (q0 := q) rfl (at_X7 X G hk)
theorem rv_X8 {q : Nat} (hE : Ev X s s.heap) (hP : va_P (xD X) vwCl (pool X G) H) (hk : kd q = 4) : ∃ cell : Cell, H[xa X q]? = some cell ∧ cell.vm.isStatics = false ∧ s.vm.findClass "FlyTreasury" = some cell.cls := va_recv hE.2.1 hP (ci := 9) (q0 := q) rfl (at_X8 X G hk)
theorem rv_X2 {q : Nat} (hE : Ev X s s.heap) (hP : va_P (xD X) vwCl (pool X G) H) (hk : kd q = 5) : ∃ cell : Cell, H[xa X q]? = some cell ∧ cell.vm.isStatics = false ∧ s.vm.findClass "FlyTreasury$History" = some cell.cls := va_recv hE.2.1 hP (ci := 4) (q0 := q) rfl (at_X2 X G hk)
theorem rv_X6 {q : Nat} (hE : Ev X s s.heap) (hP : va_P (xD X) vwCl (pool X G) H) (hk : kd q = 7) : ∃ cell : Cell, H[xa X q]? = some cell ∧ cell.vm.isStatics = false ∧ s.vm.findClass "FlyTreasury$Script" = some cell.cls := va_recv hE.2.1 hP (ci := 7) (q0 := q) rfl (at_X6 X G hk)
theorem rv_X4 {q : Nat} (hE : Ev X s s.heap) (hP : va_P (xD X) vwCl (pool X G) H) (hk : kd q = 10) : ∃ cell : Cell, H[xa X q]? = some cell ∧ cell.vm.isStatics = false ∧ s.vm.findClass "FlyTreasury$Order" = some cell.cls := va_recv hE.2.1 hP (ci := 6) (q0 := q) rfl (at_X4 X G hk)
theorem rv_J4 {q : Nat} (hE : Ev X s s.heap) (hP : va_P (xD X) vwCl (pool X G) H) (hk : kd q = 11) : ∃ cell : Cell, H[xa X q]? = some cell ∧ cell.vm.isStatics = false ∧ s.vm.findClass "java/lang/StringBuilder" = some cell.cls := va_recv hE.2.1 hP (ci := 1) (q0 := q) rfl (at_J4 X G hk)
theorem rv_X9 {q : Nat} (hE : Ev X s s.heap) (hP : va_P (xD X) vwCl (pool X G) H) (hk : kd q = 13) : ∃ cell : Cell, H[xa X q]? = some cell ∧ cell.vm.isStatics = false ∧ s.vm.findClass "FlyTreasuryModel" = some cell.cls := va_recv hE.2.1 hP (ci := 10) (q0 := q) rfl (at_X9 X G hk)
theorem vk_getfN {o n d own ref host : String} {index q : Nat} {v : Value} (hx : p.tables.exec = Jvm.exec) (hb : c.code = cc) (hE : va_OF o n d v q (xA X) s s.heap) (hS : va_S (xA X) s.heap H locs) (hown : s.vm.findClass own = some m.cls) (hlink : (Cond.fieldLinkNest own index ref n d host).before args s = true) (hsame : ∀ x, s.fieldFound? o n d = some x → s.fieldFound? ref n d = some x) (hdg : decode cc pc = .ok (.getfield index, 3))
    (kk : W p l e R s m args below meth c H locs cells slots Q (F0 m (pc + 3) ls (v :: rest))) : W p l e R s m args below meth c H locs cells slots Q (F0 m pc ls (.ref q :: rest)) := by
  obtain ⟨cf, k, fi, f, cell, h1, h2, h3, h4, h5, h6⟩ := hE.kept hS.2.1
  exact va_Wgetf hx hb hown hlink (hsame _ h1) h2 h3 h4 (v := v) h5 rfl rfl hdg kk
theorem va_tr {E : String} {t N : Nat} {f : Nat → Nat} (hx : p.tables.exec = Jvm.exec) (hb : c.code = cc) (hT : va_T (.object E) t N (fun i => .ref (f i)) (xA X) s s.heap) (hS : va_S (xA X) s.heap H locs) {i : Int32} (hin : vp_in i N) {v : Value} (hv : .ref (f i.toNatClampNeg) = v) (hdg : decode cc pc = .ok (.aaload, 1))
    (kk : W p l e R s m args below meth c H locs cells slots Q (F0 m (pc + 1) ls (v :: rest))) : W p l e R s m args below meth c H locs cells slots Q (F0 m pc ls (.int i :: .ref t :: rest)) := by
  obtain ⟨cell, h1, h2, h3, h4, h5, h6, h7⟩ := hT.kept hS.2.1
  have hlt : i.toNatClampNeg < N := vin_lt hin
  exact W.aald (v := v) (ty := .object E) hx hb h1 h2 rfl h3 (fun q => hin (by rcases q with q | q; exact Or.inl q; exact Or.inr (by omega))) (by rw [← hv]; exact h6 _ hlt) rfl rfl hdg kk
theorem last_14 (hx : p.tables.exec = Jvm.exec) (hb : c.code = cc) (hE : Ev X s s.heap) (hP : va_P (xD X) vwCl (pool X G) H) (hD : va_D (xA X) (pool X G)) (hS : va_S (xA X) s.heap H locs) {i : Int32} {x : Int64} (hin : vp_in i 1) (hdg : decode cc pc = .ok (.lastore, 1))
    (kk : ∀ (G1 : GS) (H1 : Heap) (locs1 : List Loc), G1 = gL G i.toNatClampNeg x → va_P (xD X) vwCl (pool X G1) H1 → va_D (xA X) (pool X G1) → va_S (xA X) s.heap H1 locs1 → W p l e R s m args below meth c H1 locs1 cells slots Q (F0 m (pc + 1) ls rest)) : W p l e R s m args below meth c H locs cells slots Q (F0 m pc ls (.long x :: .int i :: .ref (xa X 197) :: rest)) := by
  refine va_last hx hb hE.2.1 hP hD hS 197 6 (at_14 X G) rfl hin hdg (fun H1 locs1 h1 h2 h3 => ?_)
  have e : (pool X G).set 197 (xa X 197, .inl (xc X 6, 1, .inr (.inl (vp_updL G.2.2.1 i.toNatClampNeg x)))) = pool X (gL G i.toNatClampNeg x) := by
    refine pool_set X G (gL G i.toNatClampNeg x) rfl (ce_14 X (gL G i.toNatClampNeg x) rfl) (fun q hq hn => ⟨rfl, ?_⟩)
    unfold cell cellF gL
    have h14 : ¬ kd q = 14 := by revert hq hn; revert q; decide +kernel
    simp only [if_neg h14]
  exact kk _ H1 locs1 rfl (e ▸ h1) (e ▸ h2) h3
theorem dast_15 (hx : p.tables.exec = Jvm.exec) (hb : c.code = cc) (hE : Ev X s s.heap) (hP : va_P (xD X) vwCl (pool X G) H) (hD : va_D (xA X) (pool X G)) (hS : va_S (xA X) s.heap H locs) {i : Int32} {x : UInt64} (hin : vp_in i 1) (hdg : decode cc pc = .ok (.dastore, 1))
    (kk : ∀ (G1 : GS) (H1 : Heap) (locs1 : List Loc), G1 = gD G i.toNatClampNeg x → va_P (xD X) vwCl (pool X G1) H1 → va_D (xA X) (pool X G1) → va_S (xA X) s.heap H1 locs1 → W p l e R s m args below meth c H1 locs1 cells slots Q (F0 m (pc + 1) ls rest)) : W p l e R s m args below meth c H locs cells slots Q (F0 m pc ls (.double x :: .int i :: .ref (xa X 198) :: rest)) := by
  refine va_dast hx hb hE.2.1 hP hD hS 198 7 (at_15 X G) rfl hin hdg (fun H1 locs1 h1 h2 h3 => ?_)
  have e : (pool X G).set 198 (xa X 198, .inl (xc X 7, 1, .inr (.inr (.inr (.inl (vf_upd G.2.2.2 i.toNatClampNeg x)))))) = pool X (gD G i.toNatClampNeg x) := by
    refine pool_set X G (gD G i.toNatClampNeg x) rfl (ce_15 X (gD G i.toNatClampNeg x) rfl) (fun q hq hn => ⟨rfl, ?_⟩)
    have h15 : kd q = 0 ∨ kd q = 1 ∨ kd q = 2 ∨ kd q = 3 ∨ kd q = 4 ∨ kd q = 5 ∨ kd q = 6 ∨ kd q = 7 ∨ kd q = 8 ∨ kd q = 9 ∨ kd q = 10 ∨ kd q = 11 ∨ kd q = 12 ∨ kd q = 13 ∨ kd q = 14 := by revert hq hn; revert q; decide +kernel
    unfold cell cellF gD
    rcases h15 with h | h | h | h | h | h | h | h | h | h | h | h | h | h | h <;> simp [h]
  exact kk _ H1 locs1 rfl (e ▸ h1) (e ▸ h2) h3
end SMALL
theorem sr_0 {X : Cx} {U : State} {H : Heap} (h : Ev X U H) : vk_R "FlyTreasury" 227 "gmh" (xk X 2 0) U := h.2.2.1 ("FlyTreasury", 227, "gmh", 0) (List.mem_of_getElem? (i := 0) rfl)
theorem sr_1 {X : Cx} {U : State} {H : Heap} (h : Ev X U H) : vk_R "FlyTreasury" 343 "there is no such vault" (xk X 2 1) U := h.2.2.1 ("FlyTreasury", 343, "there is no such vault", 1) (List.mem_of_getElem? (i := 1) rfl)
theorem sr_2 {X : Cx} {U : State} {H : Heap} (h : Ev X U H) : vk_R "FlyTreasury" 364 "an argument is not one of those that are allowed" (xk X 2 2) U := h.2.2.1 ("FlyTreasury", 364, "an argument is not one of those that are allowed", 2) (List.mem_of_getElem? (i := 2) rfl)
theorem sr_3 {X : Cx} {U : State} {H : Heap} (h : Ev X U H) : vk_R "FlyTreasury" 366 "the vault or the treasury is not ready for this" (xk X 2 3) U := h.2.2.1 ("FlyTreasury", 366, "the vault or the treasury is not ready for this", 3) (List.mem_of_getElem? (i := 3) rfl)
theorem sr_4 {X : Cx} {U : State} {H : Heap} (h : Ev X U H) : vk_R "FlyTreasury" 370 "the flies or the dew of the vault do not allow this" (xk X 2 4) U := h.2.2.1 ("FlyTreasury", 370, "the flies or the dew of the vault do not allow this", 4) (List.mem_of_getElem? (i := 4) rfl)
theorem sr_5 {X : Cx} {U : State} {H : Heap} (h : Ev X U H) : vk_R "FlyTreasury$Ledger" 86 "gmh" (xk X 2 0) U := h.2.2.1 ("FlyTreasury$Ledger", 86, "gmh", 0) (List.mem_of_getElem? (i := 5) rfl)
theorem sr_6 {X : Cx} {U : State} {H : Heap} (h : Ev X U H) : vk_R "FlyTreasury" 352 "the kind is not g, m or h" (xk X 2 5) U := h.2.2.1 ("FlyTreasury", 352, "the kind is not g, m or h", 5) (List.mem_of_getElem? (i := 6) rfl)
theorem sr_7 {X : Cx} {U : State} {H : Heap} (h : Ev X U H) : vk_R "FlyTreasury" 168 "the vault is not frozen" (xk X 2 6) U := h.2.2.1 ("FlyTreasury", 168, "the vault is not frozen", 6) (List.mem_of_getElem? (i := 7) rfl)
theorem sr_8 {X : Cx} {U : State} {H : Heap} (h : Ev X U H) : vk_R "FlyTreasury" 222 "there is no such rank" (xk X 2 7) U := h.2.2.1 ("FlyTreasury", 222, "there is no such rank", 7) (List.mem_of_getElem? (i := 8) rfl)
theorem sr_9 {X : Cx} {U : State} {H : Heap} (h : Ev X U H) : vk_R "FlyTreasury" 255 "there are no vaults" (xk X 2 8) U := h.2.2.1 ("FlyTreasury", 255, "there are no vaults", 8) (List.mem_of_getElem? (i := 9) rfl)
theorem sr_10 {X : Cx} {U : State} {H : Heap} (h : Ev X U H) : vk_R "FlyTreasury" 258 "there was no audit" (xk X 2 9) U := h.2.2.1 ("FlyTreasury", 258, "there was no audit", 9) (List.mem_of_getElem? (i := 10) rfl)
theorem sr_11 {X : Cx} {U : State} {H : Heap} (h : Ev X U H) : vk_R "FlyTreasury" 288 "the output text has no such index" (xk X 2 10) U := h.2.2.1 ("FlyTreasury", 288, "the output text has no such index", 10) (List.mem_of_getElem? (i := 11) rfl)
theorem sr_12 {X : Cx} {U : State} {H : Heap} (h : Ev X U H) : vk_R "FlyTreasury" 294 "the character code is not between 32 and 126" (xk X 2 11) U := h.2.2.1 ("FlyTreasury", 294, "the character code is not between 32 and 126", 11) (List.mem_of_getElem? (i := 12) rfl)
theorem sr_13 {X : Cx} {U : State} {H : Heap} (h : Ev X U H) : vk_R "FlyTreasury" 301 "the script buffer is full" (xk X 2 12) U := h.2.2.1 ("FlyTreasury", 301, "the script buffer is full", 12) (List.mem_of_getElem? (i := 13) rfl)
theorem sr_14 {X : Cx} {U : State} {H : Heap} (h : Ev X U H) : vk_R "FlyTreasury$Script" 115 "gmh" (xk X 2 0) U := h.2.2.1 ("FlyTreasury$Script", 115, "gmh", 0) (List.mem_of_getElem? (i := 14) rfl)
theorem sr_15 {X : Cx} {U : State} {H : Heap} (h : Ev X U H) : vk_R "FlyTreasury" 313 "the script does not have the required form" (xk X 2 13) U := h.2.2.1 ("FlyTreasury", 313, "the script does not have the required form", 13) (List.mem_of_getElem? (i := 15) rfl)
theorem sr_16 {X : Cx} {U : State} {H : Heap} (h : Ev X U H) : vk_R "FlyTreasury" 321 "a command of the script failed" (xk X 2 14) U := h.2.2.1 ("FlyTreasury", 321, "a command of the script failed", 14) (List.mem_of_getElem? (i := 16) rfl)
theorem sr_17 {X : Cx} {U : State} {H : Heap} (h : Ev X U H) : vk_R "FlyTreasury" 326 "every script so far had the required form" (xk X 2 15) U := h.2.2.1 ("FlyTreasury", 326, "every script so far had the required form", 15) (List.mem_of_getElem? (i := 17) rfl)
theorem sr_18 {X : Cx} {U : State} {H : Heap} (h : Ev X U H) : vk_R "FlyTreasury" 328 "no command of a script has failed so far" (xk X 2 16) U := h.2.2.1 ("FlyTreasury", 328, "no command of a script has failed so far", 16) (List.mem_of_getElem? (i := 18) rfl)
theorem sr_19 {X : Cx} {U : State} {H : Heap} (h : Ev X U H) : vk_R "FlyTreasury" 333 "there is nothing to undo" (xk X 2 17) U := h.2.2.1 ("FlyTreasury", 333, "there is nothing to undo", 17) (List.mem_of_getElem? (i := 19) rfl)
theorem sr_20 {X : Cx} {U : State} {H : Heap} (h : Ev X U H) : vk_R "FlyTreasury" 338 "there is no snapshot" (xk X 2 18) U := h.2.2.1 ("FlyTreasury", 338, "there is no snapshot", 18) (List.mem_of_getElem? (i := 20) rfl)
theorem sr_21 {X : Cx} {U : State} {H : Heap} (h : Ev X U H) : vk_R "FlyTreasury$Command" 105 "day" (xk X 2 19) U := h.2.2.1 ("FlyTreasury$Command", 105, "day", 19) (List.mem_of_getElem? (i := 21) rfl)
theorem sr_22 {X : Cx} {U : State} {H : Heap} (h : Ev X U H) : vk_R "FlyTreasury$Command" 107 "" (xk X 2 20) U := h.2.2.1 ("FlyTreasury$Command", 107, "", 20) (List.mem_of_getElem? (i := 22) rfl)
theorem sr_23 {X : Cx} {U : State} {H : Heap} (h : Ev X U H) : vk_R "FlyTreasury$Command" 61 "vault " (xk X 2 21) U := h.2.2.1 ("FlyTreasury$Command", 61, "vault ", 21) (List.mem_of_getElem? (i := 23) rfl)
theorem sr_24 {X : Cx} {U : State} {H : Heap} (h : Ev X U H) : vk_R "FlyTreasury$Command" 63 "d" (xk X 2 22) U := h.2.2.1 ("FlyTreasury$Command", 63, "d", 22) (List.mem_of_getElem? (i := 24) rfl)
theorem sr_25 {X : Cx} {U : State} {H : Heap} (h : Ev X U H) : vk_R "FlyTreasury$Command" 69 "put " (xk X 2 23) U := h.2.2.1 ("FlyTreasury$Command", 69, "put ", 23) (List.mem_of_getElem? (i := 25) rfl)
theorem sr_26 {X : Cx} {U : State} {H : Heap} (h : Ev X U H) : vk_R "FlyTreasury$Command" 71 "v kn" (xk X 2 24) U := h.2.2.1 ("FlyTreasury$Command", 71, "v kn", 24) (List.mem_of_getElem? (i := 26) rfl)
theorem sr_27 {X : Cx} {U : State} {H : Heap} (h : Ev X U H) : vk_R "FlyTreasury$Command" 74 "take " (xk X 2 25) U := h.2.2.1 ("FlyTreasury$Command", 74, "take ", 25) (List.mem_of_getElem? (i := 27) rfl)
theorem sr_28 {X : Cx} {U : State} {H : Heap} (h : Ev X U H) : vk_R "FlyTreasury$Command" 77 "swap " (xk X 2 26) U := h.2.2.1 ("FlyTreasury$Command", 77, "swap ", 26) (List.mem_of_getElem? (i := 28) rfl)
theorem sr_29 {X : Cx} {U : State} {H : Heap} (h : Ev X U H) : vk_R "FlyTreasury$Command" 79 "v kon" (xk X 2 27) U := h.2.2.1 ("FlyTreasury$Command", 79, "v kon", 27) (List.mem_of_getElem? (i := 29) rfl)
theorem sr_30 {X : Cx} {U : State} {H : Heap} (h : Ev X U H) : vk_R "FlyTreasury$Command" 82 "mint " (xk X 2 28) U := h.2.2.1 ("FlyTreasury$Command", 82, "mint ", 28) (List.mem_of_getElem? (i := 30) rfl)
theorem sr_31 {X : Cx} {U : State} {H : Heap} (h : Ev X U H) : vk_R "FlyTreasury$Command" 84 "v n" (xk X 2 29) U := h.2.2.1 ("FlyTreasury$Command", 84, "v n", 29) (List.mem_of_getElem? (i := 31) rfl)
theorem sr_32 {X : Cx} {U : State} {H : Heap} (h : Ev X U H) : vk_R "FlyTreasury$Command" 87 "melt " (xk X 2 30) U := h.2.2.1 ("FlyTreasury$Command", 87, "melt ", 30) (List.mem_of_getElem? (i := 32) rfl)
theorem sr_33 {X : Cx} {U : State} {H : Heap} (h : Ev X U H) : vk_R "FlyTreasury$Command" 90 "audit " (xk X 2 31) U := h.2.2.1 ("FlyTreasury$Command", 90, "audit ", 31) (List.mem_of_getElem? (i := 33) rfl)
theorem sr_34 {X : Cx} {U : State} {H : Heap} (h : Ev X U H) : vk_R "FlyTreasury$Command" 92 "v" (xk X 2 32) U := h.2.2.1 ("FlyTreasury$Command", 92, "v", 32) (List.mem_of_getElem? (i := 34) rfl)
theorem sr_35 {X : Cx} {U : State} {H : Heap} (h : Ev X U H) : vk_R "FlyTreasury$Command" 95 "rate " (xk X 2 33) U := h.2.2.1 ("FlyTreasury$Command", 95, "rate ", 33) (List.mem_of_getElem? (i := 35) rfl)
theorem sr_36 {X : Cx} {U : State} {H : Heap} (h : Ev X U H) : vk_R "FlyTreasury$Command" 97 "kn" (xk X 2 34) U := h.2.2.1 ("FlyTreasury$Command", 97, "kn", 34) (List.mem_of_getElem? (i := 36) rfl)
theorem sr_37 {X : Cx} {U : State} {H : Heap} (h : Ev X U H) : vk_R "FlyTreasury$Command" 100 "stick " (xk X 2 35) U := h.2.2.1 ("FlyTreasury$Command", 100, "stick ", 35) (List.mem_of_getElem? (i := 37) rfl)
theorem sr_38 {X : Cx} {U : State} {H : Heap} (h : Ev X U H) : vk_R "FlyTreasury$Command" 102 "v d" (xk X 2 36) U := h.2.2.1 ("FlyTreasury$Command", 102, "v d", 36) (List.mem_of_getElem? (i := 38) rfl)
