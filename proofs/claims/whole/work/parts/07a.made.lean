/-! constructors: a world ws ahead, what they make behind; printed by wip/whole/gen/gen_ctor.py -/
theorem qw_79 : lw_tbl[79]? = some (Cond.initialized "FlyTreasury$Order") := by decide +kernel
theorem qw_115 : lw_tbl[115]? = some (Cond.instanceMethod ⟨"java/lang/Object", "<init>", "()V"⟩) := by decide +kernel
theorem qw_116 : lw_tbl[116]? = some (Cond.code ⟨"java/lang/Object", "<init>", "()V"⟩ object_method_1_code 1 none) := by decide +kernel
theorem qw_118 : lw_tbl[118]? = some (Cond.instantiable "FlyTreasury$Ledger" 11) := by decide +kernel
theorem qw_120 : lw_tbl[120]? = some (Cond.instanceMethod yX3_init) := by decide +kernel
theorem qw_121 : lw_tbl[121]? = some (Cond.code yX3_init cX3_init 2 none) := by decide +kernel
theorem qw_122 : lw_tbl[122]? = some (Cond.methodLink "FlyTreasury$Ledger" 3 ⟨"java/lang/Object", "<init>", "()V"⟩) := by decide +kernel
theorem qw_123 : lw_tbl[123]? = some (Cond.classLink "FlyTreasury$Ledger" 9 "FlyTreasury$Vault") := by decide +kernel
theorem qw_125 : lw_tbl[125]? = some (Cond.instantiable "FlyTreasury$Vault" 6) := by decide +kernel
theorem qw_126 : lw_tbl[126]? = some (Cond.methodLinkNest "FlyTreasury$Ledger" 49 yX7_init "FlyTreasury") := by decide +kernel
theorem qw_127 : lw_tbl[127]? = some (Cond.instanceMethod yX7_init) := by decide +kernel
theorem qw_128 : lw_tbl[128]? = some (Cond.code yX7_init cX7_init 1 none) := by decide +kernel
theorem qw_129 : lw_tbl[129]? = some (Cond.methodLink "FlyTreasury$Vault" 3 ⟨"java/lang/Object", "<init>", "()V"⟩) := by decide +kernel
theorem qw_208 : lw_tbl[208]? = some (Cond.methodLink "FlyTreasury$History" 3 ⟨"java/lang/Object", "<init>", "()V"⟩) := by decide +kernel
theorem qw_209 : lw_tbl[209]? = some (Cond.classLink "FlyTreasury$History" 9 "FlyTreasury$Ledger") := by decide +kernel
theorem qw_211 : lw_tbl[211]? = some (Cond.methodLink "FlyTreasury$History" 24 yX3_init) := by decide +kernel
theorem qw_228 : lw_tbl[228]? = some (Cond.methodLink "FlyTreasury$Script" 3 ⟨"java/lang/Object", "<init>", "()V"⟩) := by decide +kernel
theorem qw_229 : lw_tbl[229]? = some (Cond.classLink "FlyTreasury$Script" 15 "FlyTreasury$Order") := by decide +kernel
theorem qw_231 : lw_tbl[231]? = some (Cond.instantiable "FlyTreasury$Order" 5) := by decide +kernel
theorem qw_232 : lw_tbl[232]? = some (Cond.methodLinkNest "FlyTreasury$Script" 31 yX4_init "FlyTreasury") := by decide +kernel
theorem qw_233 : lw_tbl[233]? = some (Cond.instanceMethod yX4_init) := by decide +kernel
theorem qw_234 : lw_tbl[234]? = some (Cond.code yX4_init cX4_init 1 none) := by decide +kernel
theorem qw_235 : lw_tbl[235]? = some (Cond.methodLink "FlyTreasury$Order" 1 ⟨"java/lang/Object", "<init>", "()V"⟩) := by decide +kernel
theorem qw_236 : lw_tbl[236]? = some (Cond.fieldLink "FlyTreasury$Order" 7 "FlyTreasury$Command" "DAY" "LFlyTreasury$Command;") := by decide +kernel
theorem qw_238 : lw_tbl[238]? = some (Cond.fieldLink "FlyTreasury$Order" 13 "FlyTreasury$Order" "command" "LFlyTreasury$Command;") := by decide +kernel
theorem qw_241 : lw_tbl[241]? = some (Cond.fieldLink "FlyTreasury$Order" 18 "FlyTreasury$Order" "vault" "I") := by decide +kernel
theorem qw_244 : lw_tbl[244]? = some (Cond.fieldLink "FlyTreasury$Order" 22 "FlyTreasury$Order" "kind" "C") := by decide +kernel
theorem qw_247 : lw_tbl[247]? = some (Cond.fieldLink "FlyTreasury$Order" 26 "FlyTreasury$Order" "otherKind" "C") := by decide +kernel
theorem qw_250 : lw_tbl[250]? = some (Cond.fieldLink "FlyTreasury$Order" 29 "FlyTreasury$Order" "number" "I") := by decide +kernel
theorem qw_290 : lw_tbl[290]? = some (Cond.methodLink "java/lang/StringBuilder" 1 yJ5_init_d00df) := by decide +kernel
theorem qw_291 : lw_tbl[291]? = some (Cond.instanceMethod yJ5_init_d00df) := by decide +kernel
theorem qw_292 : lw_tbl[292]? = some (Cond.code yJ5_init_d00df cJ5_init_d00df 2 none) := by decide +kernel
theorem qw_293 : lw_tbl[293]? = some (Cond.methodLink "java/lang/AbstractStringBuilder" 3 ⟨"java/lang/Object", "<init>", "()V"⟩) := by decide +kernel
theorem qw_1569 : lw_tbl[1569]? = some (Cond.methodLink "FlyTreasuryModel" 7 ⟨"java/lang/Object", "<init>", "()V"⟩) := by decide +kernel
theorem myX7_init : yX7_init.cls = "FlyTreasury$Vault" ∧ yX7_init.cls ≠ "java/lang/invoke/MethodHandle" ∧ yX7_init.cls ≠ "java/lang/invoke/VarHandle" ∧ (parseMethodDescriptor yX7_init.desc).map (fun d => d.parameters.length) = some 0 := by decide +kernel
theorem myX4_init : yX4_init.cls = "FlyTreasury$Order" ∧ yX4_init.cls ≠ "java/lang/invoke/MethodHandle" ∧ yX4_init.cls ≠ "java/lang/invoke/VarHandle" ∧ (parseMethodDescriptor yX4_init.desc).map (fun d => d.parameters.length) = some 0 := by decide +kernel
theorem myX3_init : yX3_init.cls = "FlyTreasury$Ledger" ∧ yX3_init.cls ≠ "java/lang/invoke/MethodHandle" ∧ yX3_init.cls ≠ "java/lang/invoke/VarHandle" ∧ (parseMethodDescriptor yX3_init.desc).map (fun d => d.parameters.length) = some 0 := by decide +kernel
theorem myJ5_init_d00df : yJ5_init_d00df.cls = "java/lang/AbstractStringBuilder" ∧ yJ5_init_d00df.cls ≠ "java/lang/invoke/MethodHandle" ∧ yJ5_init_d00df.cls ≠ "java/lang/invoke/VarHandle" ∧ (parseMethodDescriptor yJ5_init_d00df.desc).map (fun d => d.parameters.length) = some 1 := by decide +kernel
theorem myJ4_init_da8c8 : yJ4_init_da8c8.cls = "java/lang/StringBuilder" ∧ yJ4_init_da8c8.cls ≠ "java/lang/invoke/MethodHandle" ∧ yJ4_init_da8c8.cls ≠ "java/lang/invoke/VarHandle" ∧ (parseMethodDescriptor yJ4_init_da8c8.desc).map (fun d => d.parameters.length) = some 0 := by decide +kernel
theorem myX6_init : yX6_init.cls = "FlyTreasury$Script" ∧ yX6_init.cls ≠ "java/lang/invoke/MethodHandle" ∧ yX6_init.cls ≠ "java/lang/invoke/VarHandle" ∧ (parseMethodDescriptor yX6_init.desc).map (fun d => d.parameters.length) = some 0 := by decide +kernel
theorem myX9_init : yX9_init.cls = "FlyTreasuryModel" ∧ yX9_init.cls ≠ "java/lang/invoke/MethodHandle" ∧ yX9_init.cls ≠ "java/lang/invoke/VarHandle" ∧ (parseMethodDescriptor yX9_init.desc).map (fun d => d.parameters.length) = some 0 := by decide +kernel
theorem myX2_init : yX2_init.cls = "FlyTreasury$History" ∧ yX2_init.cls ≠ "java/lang/invoke/MethodHandle" ∧ yX2_init.cls ≠ "java/lang/invoke/VarHandle" ∧ (parseMethodDescriptor yX2_init.desc).map (fun d => d.parameters.length) = some 0 := by decide +kernel
theorem myX8_init : yX8_init.cls = "FlyTreasury" ∧ yX8_init.cls ≠ "java/lang/invoke/MethodHandle" ∧ yX8_init.cls ≠ "java/lang/invoke/VarHandle" ∧ (parseMethodDescriptor yX8_init.desc).map (fun d => d.parameters.length) = some 0 := by decide +kernel
theorem vin_c {i : Int32} {n : Nat} (h : ¬ (i < 0 ∨ n ≤ i.toNatClampNeg)) : vp_in i n := h
theorem ap_at (ws news : va_W) (i : Nat) : (ws ++ news)[ws.length + i]? = news[i]? := by rw [List.getElem?_append_right (Nat.le_add_right _ _), Nat.add_sub_cancel_left]
theorem ap_set (ws news : va_W) (i : Nat) (x : Nat × va_E) : (ws ++ news).set (ws.length + i) x = ws ++ news.set i x := by rw [List.set_append_right _ _ (Nat.le_add_right _ _), Nat.add_sub_cancel_left]
def AOs (U : State) : Prop := va_AO "FlyTreasury$Vault" U ∧ va_AO "FlyTreasury$Ledger" U ∧ va_AO "FlyTreasury$Order" U
theorem AOs.moved {u U : State} (hv : u.vm.Alike U.vm) (h : AOs u) : AOs U := ⟨h.1.moved hv, h.2.1.moved hv, h.2.2.moved hv⟩
def PreW (X : Cx) (ws : va_W) (U : State) : Prop := Ev X U U.heap ∧ AOs U ∧ va_P (xD X) vwCl ws U.heap ∧ va_D (xA X) ws ∧ xs X ≤ U.heap.size
theorem PreW.blind {X : Cx} {ws : va_W} {av : List Value} : FrameBlind (va_Pc av (fun U => PreW X ws U)) := fun a U g mk h => ⟨h.1, Ev.same (s := U) (U := U.calling g mk _) rfl h.2.1, AOs.moved (u := U) (U := U.calling g mk a) (Vm.Alike.refl U.vm) h.2.2.1, h.2.2.2⟩
abbrev CI (X : Cx) (l : Launch) (y : MethodName) (bc : ByteArray) (nL d mc ms : Nat) (av : List Value) (ws : va_W) (Sh : va_W → Prop) : Prop :=
  Met l y (wy y bc nL none) (rmL d mc ms) (va_Pc av (fun U => PreW X ws U)) (va_Qv (S := va_W) Sh (fun W t => va_P (xD X) vwCl W t.heap ∧ va_D (xA X) W) (xA X)) mc ms (xA X)
theorem ibegin {X : Cx} {l : Launch} {y : MethodName} {bc : ByteArray} {nL : Nat} {d mc ms : Nat} {av : List Value} {ws : va_W} {Sh : va_W → Prop} (hy : plainName y.cls = true) (hn : (lg_sl av).length ≤ nL)
    (body : ∀ (p : Program) (e : Env) (s : State) (m : MethodId) (below : List Frame) (meth : Method) (c : Code), p.tables.exec = Jvm.exec → c.code = bc → meth.sig.returnType = none → c.maxLocals = nL → meth.locks = false → meth.name = y.name → s.vm.findClass y.cls = some m.cls →
      Ev X s s.heap → AOs s → xs X ≤ s.heap.size → ∀ ls, lv_has ls nL (lv_args 0 av) → va_P (xD X) vwCl ws s.heap → va_D (xA X) ws → va_S (xA X) s.heap s.heap [] →
      W p l e (rmL d mc ms) s m av.toArray below meth c s.heap [] 0 0 (MQ below (va_Qv (S := va_W) Sh (fun W t => va_P (xD X) vwCl W t.heap ∧ va_D (xA X) W) (xA X)) av.toArray s mc ms (xA X)) (F0 m 0 ls [])) : CI X l y bc nL d mc ms av ws Sh := by
  refine Met.ofW (cc := bc) (maxL := nL) (ret := none) hy rfl ?_
  intro p e s m args below meth c s₁ B hml hv
  obtain ⟨rfl, hE, hAO, hP, hD, hz⟩ := hv
  have hl := lv_entry av hn
  rw [lg_entry_eq]
  exact body p e s m below meth c B.exec B.bytes B.returns hml B.notSynchronized (name_of_methodNamed B.named B.method).1 (findClass_of_methodNamed B.named) hE hAO hz _ hl hP hD va_S.rf
theorem ra_one {U : State} {a b : ClassId} {C : String} (h : va_RA U a (.object C)) (h2 : va_RA U b (.object C)) : a = b := by
  obtain ⟨_, _, -, -, -, h⟩ := h
  obtain ⟨_, _, -, -, -, h2⟩ := h2
  exact Option.some.inj (h.symm.trans h2)
section ROWI
variable {p : Program} {l : Launch} {e : Env} {R : Room} {s : State} {m : MethodId} {args : Array Value} {below : List Frame} {meth : Method} {c : Code} {H : Heap} {locs : List Loc} {cells slots : Nat} {Q : State → Prop} {cc : ByteArray} {pc : Nat} {ls : Array Slot} {rest : List Value} {X : Cx} {own : String} {index : Nat} {mc ms d n nL nLc b : Nat} {y : MethodName} {bc : ByteArray} {As st0 : List Value} {a : Array Value} {i1 i2 i3 i4 : Nat} {ws W1 : va_W} {Sh : va_W → Prop}
theorem iend (hx : p.tables.exec = Jvm.exec) (hb : c.code = cc) (hr : meth.sig.returnType = none) (hk : meth.locks = false) (hw : Sh W1) (hP : va_P (xD X) vwCl W1 H) (hD : va_D (xA X) W1) (hS : va_S (xA X) s.heap H locs) (hdg : decode cc pc = .ok (.return_, 1)) :
    W p l e R s m args below meth c H locs mc ms (MQ below (va_Qv (S := va_W) Sh (fun W t => va_P (xD X) vwCl W t.heap ∧ va_D (xA X) W) (xA X)) args s mc ms (xA X)) (F0 m pc ls []) :=
  W.vret hx hb hr (fun t ht hW => ⟨⟨W1, rfl, hw, by rw [ht]; exact hP, hD⟩, hS.F ht⟩) hS.2.2 hdg hk
theorem run_I (hx : p.tables.exec = Jvm.exec) (hb : c.code = cc) (hml : c.maxLocals = nLc) (hown : s.vm.findClass own = some m.cls) (hE : Ev X s s.heap) (hAO : AOs s) (hz : xs X ≤ s.heap.size) (hM : CI X l y bc nL d mc ms (.ref b :: As) ws Sh)
    (q1 : lw_tbl[i1]? = some (.methodLink own index y)) (q2 : lw_tbl[i2]? = some (.instanceMethod y)) (q3 : lw_tbl[i3]? = some (.initialized y.cls)) (q4 : lw_tbl[i4]? = some (.code y bc nL none))
    (hd : y.cls ≠ "java/lang/invoke/MethodHandle" ∧ y.cls ≠ "java/lang/invoke/VarHandle" ∧ (parseMethodDescriptor y.desc).map (fun d => d.parameters.length) = some n) (hR : d + 1 ≤ R.frames ∧ 8 + (nL + 11) + 40 * d ≤ R.locals) (hi : y.name = "<init>")
    (hP : va_P (xD X) vwCl ws H) (hD : va_D (xA X) ws) (hS : va_S (xA X) s.heap H locs) (hn : As.length = n) (hsz : ls.size = nLc) (hst : st0 = As.reverse ++ .ref b :: rest) (hw : (rest.map fun v => v.category).sum ≤ 8) (hdg : decode cc pc = .ok (.invokespecial index, 3)) (hf : cells + mc ≤ R.cells ∧ slots + ms ≤ R.slots) :
    va_Run p l e R s m args below meth c H locs cells slots mc ms (F0 m pc ls st0) rest (va_Qv (S := va_W) Sh (fun W t => va_P (xD X) vwCl W t.heap ∧ va_D (xA X) W) (xA X) (Value.ref b :: As).toArray) (xA X) :=
  va_runI (Ts := wy y bc nL none) ⟨hx, hb, hml, hown, fun w hw => by rw [List.mem_singleton.mp hw]; exact hE.w q4 rfl args⟩ hM (cwI n (fun w hw => by rw [List.mem_singleton.mp hw]; exact hE.w q4 rfl args) (good1 rfl) rfl rfl rfl (hE.w q3 rfl args) (hE.w q1 rfl args) (hE.w q2 rfl args) hi hd hR)
    ⟨PreW.blind, fun U hU hW => ⟨rfl, by subst hU; exact Ev.move hW hE hS.2.1, hAO.moved hW.alike, by rw [hU]; exact hP, hD, by rw [hU]; exact Nat.le_trans hz hS.1⟩⟩ rfl hn hsz hst (lv_room hw) hdg hf
theorem run_IN {host : String} (hx : p.tables.exec = Jvm.exec) (hb : c.code = cc) (hml : c.maxLocals = nLc) (hown : s.vm.findClass own = some m.cls) (hE : Ev X s s.heap) (hAO : AOs s) (hz : xs X ≤ s.heap.size) (hM : CI X l y bc nL d mc ms (.ref b :: As) ws Sh)
    (q1 : lw_tbl[i1]? = some (.methodLinkNest own index y host)) (q2 : lw_tbl[i2]? = some (.instanceMethod y)) (q3 : lw_tbl[i3]? = some (.initialized y.cls)) (q4 : lw_tbl[i4]? = some (.code y bc nL none))
    (hd : y.cls ≠ "java/lang/invoke/MethodHandle" ∧ y.cls ≠ "java/lang/invoke/VarHandle" ∧ (parseMethodDescriptor y.desc).map (fun d => d.parameters.length) = some n) (hR : d + 1 ≤ R.frames ∧ 8 + (nL + 11) + 40 * d ≤ R.locals) (hi : y.name = "<init>")
    (hP : va_P (xD X) vwCl ws H) (hD : va_D (xA X) ws) (hS : va_S (xA X) s.heap H locs) (hn : As.length = n) (hsz : ls.size = nLc) (hst : st0 = As.reverse ++ .ref b :: rest) (hw : (rest.map fun v => v.category).sum ≤ 8) (hdg : decode cc pc = .ok (.invokespecial index, 3)) (hf : cells + mc ≤ R.cells ∧ slots + ms ≤ R.slots) :
    va_Run p l e R s m args below meth c H locs cells slots mc ms (F0 m pc ls st0) rest (va_Qv (S := va_W) Sh (fun W t => va_P (xD X) vwCl W t.heap ∧ va_D (xA X) W) (xA X) (Value.ref b :: As).toArray) (xA X) :=
  va_runIN (Ts := wy y bc nL none) ⟨hx, hb, hml, hown, fun w hw => by rw [List.mem_singleton.mp hw]; exact hE.w q4 rfl args⟩ hM ⟨va_cnB n (fun w hw => by rw [List.mem_singleton.mp hw]; exact hE.w q4 rfl args) (good1 rfl) rfl rfl rfl (hE.w q1 rfl #[]) (hE.w q3 rfl args) hd hR, hi, hE.w q2 rfl args⟩
    ⟨PreW.blind, fun U hU hW => ⟨rfl, by subst hU; exact Ev.move hW hE hS.2.1, hAO.moved hW.alike, by rw [hU]; exact hP, hD, by rw [hU]; exact Nat.le_trans hz hS.1⟩⟩ rfl hn hsz hst (lv_room hw) hdg hf
theorem call_I (hr : va_Run p l e R s m args below meth c H locs cells slots mc ms (F0 m pc ls st0) rest (va_Qv (S := va_W) Sh (fun W t => va_P (xD X) vwCl W t.heap ∧ va_D (xA X) W) (xA X) a) (xA X)) (hS : va_S (xA X) s.heap H locs)
    (kk : ∀ (W1 : va_W) (H1 : Heap) (locs1 : List Loc), Sh W1 → va_P (xD X) vwCl W1 H1 → va_D (xA X) W1 → va_S (xA X) s.heap H1 locs1 → W p l e R s m args below meth c H1 locs1 (cells + mc) (slots + ms) Q (F0 m (pc + 3) ls rest)) : W p l e R s m args below meth c H locs cells slots Q (F0 m pc ls st0) :=
  va_callv hr hS (fun q _ h => h) (fun q h => h) (fun u t H1 locs1 ht hvm hw hB hz1 hk1 hS1 => kk u H1 locs1 hw (ht ▸ hB.1) hB.2 hS1)
end ROWI
/-- a world's last part, put in another order, its cells said otherwise -/
theorem blk_conv {D : va_G} {cl : List vw_C} {A : Nat → Prop} {H : Heap} {ws news : va_W} (B : va_W) (perm : Nat → Nat) (hn : ∀ (k : Nat) (q : Nat × va_E), B[k]? = some q → ∃ q', news[perm k]? = some q' ∧ q'.1 = q.1 ∧ (va_at D cl q' H → va_at D cl q H)) (hi : ∀ i j, i < B.length → j < B.length → perm i = perm j → i = j) (hP : va_P D cl (ws ++ news) H) (hD : va_D A (ws ++ news)) : va_P D cl (ws ++ B) H ∧ va_D A (ws ++ B) := by
  have key : ∀ (k : Nat) (q : Nat × va_E), (ws ++ B)[k]? = some q → ∃ q', (ws ++ news)[if k < ws.length then k else ws.length + perm (k - ws.length)]? = some q' ∧ q'.1 = q.1 ∧ (va_at D cl q' H → va_at D cl q H) := by
    intro k q hk
    by_cases hl : k < ws.length
    · rw [if_pos hl, List.getElem?_append_left hl]
      rw [List.getElem?_append_left hl] at hk
      exact ⟨q, hk, rfl, id⟩
    · rw [if_neg hl, ap_at]
      rw [List.getElem?_append_right (by omega)] at hk
      exact hn _ q hk
  refine ⟨fun k q hk => ?_, fun i j p q hi1 hj1 hpq => ?_, fun k q hk => ?_⟩
  · obtain ⟨q', h1, h2, h3⟩ := key k q hk
    exact h3 (hP _ q' h1)
  · obtain ⟨p', a1, a2, -⟩ := key i p hi1
    obtain ⟨q', b1, b2, -⟩ := key j q hj1
    have h := hD.1 _ _ _ _ a1 b1 (a2.trans (hpq.trans b2.symm))
    have li := (List.getElem?_eq_some_iff.mp hi1).1
    have lj := (List.getElem?_eq_some_iff.mp hj1).1
    rw [List.length_append] at li lj
    by_cases h1 : i < ws.length <;> by_cases h2 : j < ws.length
    · rw [if_pos h1, if_pos h2] at h; exact h
    · rw [if_pos h1, if_neg h2] at h; omega
    · rw [if_neg h1, if_pos h2] at h; omega
    · rw [if_neg h1, if_neg h2] at h
      have := hi (i - ws.length) (j - ws.length) (by omega) (by omega) (by omega)
      omega
  · obtain ⟨q', h1, h2, -⟩ := key k q hk
    rw [← h2]; exact hD.2 _ q' h1
theorem at_refs {D : va_G} {cl : List vw_C} {H : Heap} {q n : Nat} {c : ClassId} {f g : Nat → Option Nat} (hfg : ∀ k, k < n → f k = g k) (h : va_at D cl (q, Sum.inl (c, n, Sum.inr (Sum.inr (Sum.inr (Sum.inr f))))) H) : va_at D cl (q, Sum.inl (c, n, Sum.inr (Sum.inr (Sum.inr (Sum.inr g))))) H := by
  have e : vp_cell c (n, Sum.inr (Sum.inr (Sum.inr (Sum.inr f)))) = vp_cell c (n, Sum.inr (Sum.inr (Sum.inr (Sum.inr g)))) := by
    show arrV c n (fun j => va_rf (f j)) = arrV c n (fun j => va_rf (g j))
    unfold arrV
    congr 2
    funext j
    show va_rf (f j) = va_rf (g j)
    rw [hfg j j.2]
  show H[q]? = some _
  rw [← e]
  exact h
/-- a new ledger, its cells in the places' order; a new script -/
def lcell (X : Cx) (f : Nat → Nat) (k : Nat) : va_E :=
  if k = 0 then Sum.inr (5, [.ref (f 1), .ref (f 2), .ref (f 3), .ref (f 4), .int 0, .int 0, .int 0, .int 0, .int 0, .int 0, .int 0])
  else if k = 1 then Sum.inl (xc X 3, 5, Sum.inr (Sum.inr (Sum.inr (Sum.inr (fun j => some (f (5 + j)))))))
  else if k = 2 then Sum.inl (xc X 0, 3, Sum.inl (upd (upd (upd (fun _ => 0) (0 : Int32).toNatClampNeg 2) (1 : Int32).toNatClampNeg 6) (2 : Int32).toNatClampNeg 20))
  else if k < 5 then Sum.inl (xc X 0, 3, Sum.inl (fun _ => 0))
  else if k < 10 then Sum.inr (8, [.ref (f (k + 5)), .int 0, .int 0, .int 1, .int 0, .int 0])
  else Sum.inl (xc X 0, 3, Sum.inl (fun _ => 0))
def LB (X : Cx) (f : Nat → Nat) : va_W := (List.range 15).map fun k => (f k, lcell X f k)
def scell (X : Cx) (f : Nat → Nat) (k : Nat) : va_E :=
  if k = 0 then Sum.inr (7, [.ref (f 1), .ref (f 2), .int 0, .int 0, .int 0])
  else if k = 1 then Sum.inl (xc X 1, 60, Sum.inl (fun _ => 0))
  else if k = 2 then Sum.inl (xc X 5, 16, Sum.inr (Sum.inr (Sum.inr (Sum.inr (fun j => some (f (3 + j)))))))
  else Sum.inr (6, [.ref (xk X 1 9), .int 0, .int 103, .int 109, .int 0])
def SK (X : Cx) (f : Nat → Nat) : va_W := (List.range 19).map fun k => (f k, scell X f k)

theorem df_J4 : ∀ j, j < 4 → defaultValue (tyJ4 j) = vp_V [.null, .int 0, .int 0, .int 0] j := fun j hj => by rcases (show j = 0 ∨ j = 1 ∨ j = 2 ∨ j = 3 by omega) with rfl | rfl | rfl | rfl <;> rfl
theorem df_X2 : ∀ j, j < 3 → defaultValue (tyX2 j) = vp_V [.null, .int 0, .int 0] j := fun j hj => by rcases (show j = 0 ∨ j = 1 ∨ j = 2 by omega) with rfl | rfl | rfl <;> rfl
theorem df_X3 : ∀ j, j < 11 → defaultValue (tyX3 j) = vp_V [.null, .null, .null, .null, .int 0, .int 0, .int 0, .int 0, .int 0, .int 0, .int 0] j := fun j hj => by rcases (show j = 0 ∨ j = 1 ∨ j = 2 ∨ j = 3 ∨ j = 4 ∨ j = 5 ∨ j = 6 ∨ j = 7 ∨ j = 8 ∨ j = 9 ∨ j = 10 by omega) with rfl | rfl | rfl | rfl | rfl | rfl | rfl | rfl | rfl | rfl | rfl <;> rfl
theorem df_X4 : ∀ j, j < 5 → defaultValue (tyX4 j) = vp_V [.null, .int 0, .int 0, .int 0, .int 0] j := fun j hj => by rcases (show j = 0 ∨ j = 1 ∨ j = 2 ∨ j = 3 ∨ j = 4 by omega) with rfl | rfl | rfl | rfl | rfl <;> rfl
theorem df_X6 : ∀ j, j < 5 → defaultValue (tyX6 j) = vp_V [.null, .null, .int 0, .int 0, .int 0] j := fun j hj => by rcases (show j = 0 ∨ j = 1 ∨ j = 2 ∨ j = 3 ∨ j = 4 by omega) with rfl | rfl | rfl | rfl | rfl <;> rfl
theorem df_X7 : ∀ j, j < 6 → defaultValue (tyX7 j) = vp_V [.null, .int 0, .int 0, .int 0, .int 0, .int 0] j := fun j hj => by rcases (show j = 0 ∨ j = 1 ∨ j = 2 ∨ j = 3 ∨ j = 4 ∨ j = 5 by omega) with rfl | rfl | rfl | rfl | rfl | rfl <;> rfl
theorem df_X8 : ∀ j, j < 9 → defaultValue (tyX8 j) = vp_V [.null, .null, .null, .null, .null, .null, .int 0, .int 0, .int 0] j := fun j hj => by rcases (show j = 0 ∨ j = 1 ∨ j = 2 ∨ j = 3 ∨ j = 4 ∨ j = 5 ∨ j = 6 ∨ j = 7 ∨ j = 8 by omega) with rfl | rfl | rfl | rfl | rfl | rfl | rfl | rfl | rfl <;> rfl
theorem df_X9 : ∀ j, j < 18 → defaultValue (tyX9 j) = vp_V [.int 0, .null, .null, .null, .null, .int 0, .int 0, .int 0, .null, .int 0, .null, .int 0, .int 0, .int 0, .int 0, .null, .int 0, .int 0] j := fun j hj => by rcases (show j = 0 ∨ j = 1 ∨ j = 2 ∨ j = 3 ∨ j = 4 ∨ j = 5 ∨ j = 6 ∨ j = 7 ∨ j = 8 ∨ j = 9 ∨ j = 10 ∨ j = 11 ∨ j = 12 ∨ j = 13 ∨ j = 14 ∨ j = 15 ∨ j = 16 ∨ j = 17 by omega) with rfl | rfl | rfl | rfl | rfl | rfl | rfl | rfl | rfl | rfl | rfl | rfl | rfl | rfl | rfl | rfl | rfl | rfl <;> rfl
set_option maxHeartbeats 4000000 in
set_option maxRecDepth 100000 in
theorem inX7_init (X : Cx) (l : Launch) (hfl : l.stackTraces = false) (ws : va_W) (a : Nat) : CI X l yX7_init cX7_init 1 1 1 3 [.ref a] (ws ++ [(a, Sum.inr (8, [.null, .int 0, .int 0, .int 0, .int 0, .int 0]))]) (fun W => ∃ q1 : Nat, W = ws ++ [(a, Sum.inr (8, [.ref q1, .int 0, .int 0, .int 1, .int 0, .int 0])), (q1, Sum.inl (xc X 0, 3, Sum.inl (fun _ => 0)))]) := by
  refine ibegin (by decide) (Nat.le_of_ble_eq_true rfl) (fun p e s m below meth c hx hb hr hml hlk hin hown hE hAO hz ls hl hP hD hS => ?_)
  have hA : ∀ q : Nat, s.heap.size ≤ q → xA X q := fun q h => Nat.le_trans hz h
  have hl : lv_has ls 1 [(0, .ref a)] := hl
  have hown : s.vm.findClass "FlyTreasury$Vault" = some m.cls := hown
  refine lv_aload_n hx hb dX7_init_0 rfl (lv_at hl 0 rfl) ?_
  refine W.objInit hx hb hown (hE.w qw_129 rfl _) (hE.w qw_115 rfl _) (hE.w qw_116 rfl _) rfl (hl.1.trans hml.symm) rfl dX7_init_1 (Nat.le_of_ble_eq_true rfl) (Nat.le_of_ble_eq_true rfl) ?_
  refine W.eq (g2 := F0 m 4 ls []) rfl ?_
  refine lv_aload_n hx hb dX7_init_4 rfl (lv_at hl 0 rfl) ?_
  refine lv_iconst (v := 3) hx hb dX7_init_5 (by decide) ?_
  refine va_newa (atype := .int) (ty := .int) hx hb (hE.w qw_159 rfl _) rfl hE.2.1 hP hD hS hA (N' := 3) (a0 := (3, .inl (fun _ => 0))) (fun _ => rfl) (by decide) (by decide) (Nat.le_of_ble_eq_true rfl) (Nat.le_of_ble_eq_true rfl) (Nat.le_of_ble_eq_true rfl) dX7_init_6 (fun q1 cA H101 hK1 h1 h2 h3 => ?_)
  obtain rfl : cA = xc X 0 := Option.some.inj ((hK1.2 8 (cA, .int) rfl).2.symm.trans (hE.2.1.2 0 (xc X 0, .int) rfl).2)
  clear hK1
  rw [List.append_assoc] at h1 h2
  replace hP : va_P (xD X) vwCl (ws ++ [(a, Sum.inr (8, [.null, .int 0, .int 0, .int 0, .int 0, .int 0])), (q1, Sum.inl (xc X 0, 3, Sum.inl (fun _ => 0)))]) H101 := h1
  replace hD : va_D (xA X) (ws ++ [(a, Sum.inr (8, [.null, .int 0, .int 0, .int 0, .int 0, .int 0])), (q1, Sum.inl (xc X 0, 3, Sum.inl (fun _ => 0)))]) := h2
  replace hS := h3
  clear h1 h2 h3
  refine va_putF (D := xD X) (ci := 8) (v := .ref q1) (ty := .array (.int)) (C := RX7) (T := TX7) (N := 6) hx hb (hE.ws us_X7 ug_X7 _) (fun _ h => h) tyX7 tyX7_ok nmX7 hown hE.2.1 hP hD hS (ws.length + 0) (ap_at ws _ 0) rfl 0 (by decide) (hE.w qw_130 rfl _) (fun _ h9 => h9) rfl hin rfl (by decide +kernel) rfl rfl (Nat.le_of_ble_eq_true rfl) dX7_init_8 (fun H102 locs9 h1 h2 h3 => ?_)
  rw [ap_set] at h1 h2
  replace hP : va_P (xD X) vwCl (ws ++ [(a, Sum.inr (8, [.ref q1, .int 0, .int 0, .int 0, .int 0, .int 0])), (q1, Sum.inl (xc X 0, 3, Sum.inl (fun _ => 0)))]) H102 := h1
  replace hD : va_D (xA X) (ws ++ [(a, Sum.inr (8, [.ref q1, .int 0, .int 0, .int 0, .int 0, .int 0])), (q1, Sum.inl (xc X 0, 3, Sum.inl (fun _ => 0)))]) := h2
  replace hS := h3
  clear h1 h2 h3
  refine lv_aload_n hx hb dX7_init_11 rfl (lv_at hl 0 rfl) ?_
  refine lv_iconst (v := 0) hx hb dX7_init_12 (by decide) ?_
  refine va_put (D := xD X) (ci := 8) (v := .int 0) (ty := .int) (C := RX7) (T := TX7) (N := 6) hx hb (hE.ws us_X7 ug_X7 _) (fun _ h => h) tyX7 tyX7_ok nmX7 hown hE.2.1 hP hD hS (ws.length + 0) (ap_at ws _ 0) rfl 1 (by decide) (hE.w qw_133 rfl _) (fun _ h9 => h9) rfl (by decide +kernel) rfl rfl (Nat.le_of_ble_eq_true rfl) dX7_init_13 (fun H103 locs9 h1 h2 h3 => ?_)
  rw [ap_set] at h1 h2
  replace hP : va_P (xD X) vwCl (ws ++ [(a, Sum.inr (8, [.ref q1, .int 0, .int 0, .int 0, .int 0, .int 0])), (q1, Sum.inl (xc X 0, 3, Sum.inl (fun _ => 0)))]) H103 := h1
  replace hD : va_D (xA X) (ws ++ [(a, Sum.inr (8, [.ref q1, .int 0, .int 0, .int 0, .int 0, .int 0])), (q1, Sum.inl (xc X 0, 3, Sum.inl (fun _ => 0)))]) := h2
  replace hS := h3
  clear h1 h2 h3
  refine lv_aload_n hx hb dX7_init_16 rfl (lv_at hl 0 rfl) ?_
  refine lv_iconst (v := 0) hx hb dX7_init_17 (by decide) ?_
  refine va_put (D := xD X) (ci := 8) (v := .int 0) (ty := .int) (C := RX7) (T := TX7) (N := 6) hx hb (hE.ws us_X7 ug_X7 _) (fun _ h => h) tyX7 tyX7_ok nmX7 hown hE.2.1 hP hD hS (ws.length + 0) (ap_at ws _ 0) rfl 2 (by decide) (hE.w qw_136 rfl _) (fun _ h9 => h9) rfl (by decide +kernel) rfl rfl (Nat.le_of_ble_eq_true rfl) dX7_init_18 (fun H104 locs9 h1 h2 h3 => ?_)
  rw [ap_set] at h1 h2
  replace hP : va_P (xD X) vwCl (ws ++ [(a, Sum.inr (8, [.ref q1, .int 0, .int 0, .int 0, .int 0, .int 0])), (q1, Sum.inl (xc X 0, 3, Sum.inl (fun _ => 0)))]) H104 := h1
  replace hD : va_D (xA X) (ws ++ [(a, Sum.inr (8, [.ref q1, .int 0, .int 0, .int 0, .int 0, .int 0])), (q1, Sum.inl (xc X 0, 3, Sum.inl (fun _ => 0)))]) := h2
  replace hS := h3
  clear h1 h2 h3
  refine lv_aload_n hx hb dX7_init_21 rfl (lv_at hl 0 rfl) ?_
  refine lv_iconst (v := 1) hx hb dX7_init_22 (by decide) ?_
  refine va_put (D := xD X) (ci := 8) (v := .int 1) (ty := .int) (C := RX7) (T := TX7) (N := 6) hx hb (hE.ws us_X7 ug_X7 _) (fun _ h => h) tyX7 tyX7_ok nmX7 hown hE.2.1 hP hD hS (ws.length + 0) (ap_at ws _ 0) rfl 3 (by decide) (hE.w qw_139 rfl _) (fun _ h9 => h9) rfl (by decide +kernel) rfl rfl (Nat.le_of_ble_eq_true rfl) dX7_init_23 (fun H105 locs9 h1 h2 h3 => ?_)
  rw [ap_set] at h1 h2
  replace hP : va_P (xD X) vwCl (ws ++ [(a, Sum.inr (8, [.ref q1, .int 0, .int 0, .int 1, .int 0, .int 0])), (q1, Sum.inl (xc X 0, 3, Sum.inl (fun _ => 0)))]) H105 := h1
  replace hD : va_D (xA X) (ws ++ [(a, Sum.inr (8, [.ref q1, .int 0, .int 0, .int 1, .int 0, .int 0])), (q1, Sum.inl (xc X 0, 3, Sum.inl (fun _ => 0)))]) := h2
  replace hS := h3
  clear h1 h2 h3
  refine lv_aload_n hx hb dX7_init_26 rfl (lv_at hl 0 rfl) ?_
  refine lv_iconst (v := 0) hx hb dX7_init_27 (by decide) ?_
  refine va_put (D := xD X) (ci := 8) (v := .int 0) (ty := .int) (C := RX7) (T := TX7) (N := 6) hx hb (hE.ws us_X7 ug_X7 _) (fun _ h => h) tyX7 tyX7_ok nmX7 hown hE.2.1 hP hD hS (ws.length + 0) (ap_at ws _ 0) rfl 4 (by decide) (hE.w qw_141 rfl _) (fun _ h9 => h9) rfl (by decide +kernel) rfl rfl (Nat.le_of_ble_eq_true rfl) dX7_init_28 (fun H106 locs9 h1 h2 h3 => ?_)
  rw [ap_set] at h1 h2
  replace hP : va_P (xD X) vwCl (ws ++ [(a, Sum.inr (8, [.ref q1, .int 0, .int 0, .int 1, .int 0, .int 0])), (q1, Sum.inl (xc X 0, 3, Sum.inl (fun _ => 0)))]) H106 := h1
  replace hD : va_D (xA X) (ws ++ [(a, Sum.inr (8, [.ref q1, .int 0, .int 0, .int 1, .int 0, .int 0])), (q1, Sum.inl (xc X 0, 3, Sum.inl (fun _ => 0)))]) := h2
  replace hS := h3
  clear h1 h2 h3
  refine lv_aload_n hx hb dX7_init_31 rfl (lv_at hl 0 rfl) ?_
  refine lv_iconst (v := 0) hx hb dX7_init_32 (by decide) ?_
  refine va_put (D := xD X) (ci := 8) (v := .int 0) (ty := .int) (C := RX7) (T := TX7) (N := 6) hx hb (hE.ws us_X7 ug_X7 _) (fun _ h => h) tyX7 tyX7_ok nmX7 hown hE.2.1 hP hD hS (ws.length + 0) (ap_at ws _ 0) rfl 5 (by decide) (hE.w qw_144 rfl _) (fun _ h9 => h9) rfl (by decide +kernel) rfl rfl (Nat.le_of_ble_eq_true rfl) dX7_init_33 (fun H107 locs9 h1 h2 h3 => ?_)
  rw [ap_set] at h1 h2
  replace hP : va_P (xD X) vwCl (ws ++ [(a, Sum.inr (8, [.ref q1, .int 0, .int 0, .int 1, .int 0, .int 0])), (q1, Sum.inl (xc X 0, 3, Sum.inl (fun _ => 0)))]) H107 := h1
  replace hD : va_D (xA X) (ws ++ [(a, Sum.inr (8, [.ref q1, .int 0, .int 0, .int 1, .int 0, .int 0])), (q1, Sum.inl (xc X 0, 3, Sum.inl (fun _ => 0)))]) := h2
  replace hS := h3
  clear h1 h2 h3
  refine W.widen (k := 1) (n := 3) (Nat.le_of_ble_eq_true rfl) (Nat.le_of_ble_eq_true rfl) ?_
  exact iend hx hb hr hlk (⟨q1, rfl⟩) hP hD hS dX7_init_36
set_option maxHeartbeats 4000000 in
set_option maxRecDepth 100000 in
theorem inX4_init (X : Cx) (l : Launch) (hfl : l.stackTraces = false) (ws : va_W) (a : Nat) : CI X l yX4_init cX4_init 1 1 0 0 [.ref a] (ws ++ [(a, Sum.inr (6, [.null, .int 0, .int 0, .int 0, .int 0]))]) (fun W => W = ws ++ [(a, Sum.inr (6, [.ref (xk X 1 9), .int 0, .int 103, .int 109, .int 0]))]) := by
  refine ibegin (by decide) (Nat.le_of_ble_eq_true rfl) (fun p e s m below meth c hx hb hr hml hlk hin hown hE hAO hz ls hl hP hD hS => ?_)
  have hA : ∀ q : Nat, s.heap.size ≤ q → xA X q := fun q h => Nat.le_trans hz h
  have hl : lv_has ls 1 [(0, .ref a)] := hl
  have hown : s.vm.findClass "FlyTreasury$Order" = some m.cls := hown
  refine lv_aload_n hx hb dX4_init_0 rfl (lv_at hl 0 rfl) ?_
  refine W.objInit hx hb hown (hE.w qw_235 rfl _) (hE.w qw_115 rfl _) (hE.w qw_116 rfl _) rfl (hl.1.trans hml.symm) rfl dX4_init_1 (Nat.le_of_ble_eq_true rfl) (Nat.le_of_ble_eq_true rfl) ?_
  refine W.eq (g2 := F0 m 4 ls []) rfl ?_
  refine lv_aload_n hx hb dX4_init_4 rfl (lv_at hl 0 rfl) ?_
  refine va_gets hx hb (en_Z1 hE (i := 9) (by decide)) hS hown (hE.w qw_236 rfl _) (fun _ h9 => h9) dX4_init_5 ?_
  refine va_put (D := xD X) (ci := 6) (v := .ref (xk X 1 9)) (ty := .object "FlyTreasury$Command") (C := RX4) (T := TX4) (N := 5) hx hb (hE.ws us_X4 ug_X4 _) (fun _ h => h) tyX4 tyX4_ok nmX4 hown hE.2.1 hP hD hS (ws.length + 0) (ap_at ws _ 0) rfl 0 (by decide) (hE.w qw_238 rfl _) (fun _ h9 => h9) rfl (by decide +kernel) rfl rfl (Nat.le_of_ble_eq_true rfl) dX4_init_8 (fun H101 locs9 h1 h2 h3 => ?_)
  rw [ap_set] at h1 h2
  replace hP : va_P (xD X) vwCl (ws ++ [(a, Sum.inr (6, [.ref (xk X 1 9), .int 0, .int 0, .int 0, .int 0]))]) H101 := h1
  replace hD : va_D (xA X) (ws ++ [(a, Sum.inr (6, [.ref (xk X 1 9), .int 0, .int 0, .int 0, .int 0]))]) := h2
  replace hS := h3
  clear h1 h2 h3
  refine lv_aload_n hx hb dX4_init_11 rfl (lv_at hl 0 rfl) ?_
  refine lv_iconst (v := 0) hx hb dX4_init_12 (by decide) ?_
  refine va_put (D := xD X) (ci := 6) (v := .int 0) (ty := .int) (C := RX4) (T := TX4) (N := 5) hx hb (hE.ws us_X4 ug_X4 _) (fun _ h => h) tyX4 tyX4_ok nmX4 hown hE.2.1 hP hD hS (ws.length + 0) (ap_at ws _ 0) rfl 1 (by decide) (hE.w qw_241 rfl _) (fun _ h9 => h9) rfl (by decide +kernel) rfl rfl (Nat.le_of_ble_eq_true rfl) dX4_init_13 (fun H102 locs9 h1 h2 h3 => ?_)
  rw [ap_set] at h1 h2
  replace hP : va_P (xD X) vwCl (ws ++ [(a, Sum.inr (6, [.ref (xk X 1 9), .int 0, .int 0, .int 0, .int 0]))]) H102 := h1
  replace hD : va_D (xA X) (ws ++ [(a, Sum.inr (6, [.ref (xk X 1 9), .int 0, .int 0, .int 0, .int 0]))]) := h2
  replace hS := h3
  clear h1 h2 h3
  refine lv_aload_n hx hb dX4_init_16 rfl (lv_at hl 0 rfl) ?_
  refine lv_bipush (v := 103) hx hb dX4_init_17 (by decide) ?_
  refine va_put (D := xD X) (ci := 6) (v := .int 103) (ty := .char) (C := RX4) (T := TX4) (N := 5) hx hb (hE.ws us_X4 ug_X4 _) (fun _ h => h) tyX4 tyX4_ok nmX4 hown hE.2.1 hP hD hS (ws.length + 0) (ap_at ws _ 0) rfl 2 (by decide) (hE.w qw_244 rfl _) (fun _ h9 => h9) rfl (by decide +kernel) rfl rfl (Nat.le_of_ble_eq_true rfl) dX4_init_19 (fun H103 locs9 h1 h2 h3 => ?_)
  rw [ap_set] at h1 h2
  replace hP : va_P (xD X) vwCl (ws ++ [(a, Sum.inr (6, [.ref (xk X 1 9), .int 0, .int 103, .int 0, .int 0]))]) H103 := h1
  replace hD : va_D (xA X) (ws ++ [(a, Sum.inr (6, [.ref (xk X 1 9), .int 0, .int 103, .int 0, .int 0]))]) := h2
  replace hS := h3
  clear h1 h2 h3
  refine lv_aload_n hx hb dX4_init_22 rfl (lv_at hl 0 rfl) ?_
  refine lv_bipush (v := 109) hx hb dX4_init_23 (by decide) ?_
  refine va_put (D := xD X) (ci := 6) (v := .int 109) (ty := .char) (C := RX4) (T := TX4) (N := 5) hx hb (hE.ws us_X4 ug_X4 _) (fun _ h => h) tyX4 tyX4_ok nmX4 hown hE.2.1 hP hD hS (ws.length + 0) (ap_at ws _ 0) rfl 3 (by decide) (hE.w qw_247 rfl _) (fun _ h9 => h9) rfl (by decide +kernel) rfl rfl (Nat.le_of_ble_eq_true rfl) dX4_init_25 (fun H104 locs9 h1 h2 h3 => ?_)
  rw [ap_set] at h1 h2
  replace hP : va_P (xD X) vwCl (ws ++ [(a, Sum.inr (6, [.ref (xk X 1 9), .int 0, .int 103, .int 109, .int 0]))]) H104 := h1
  replace hD : va_D (xA X) (ws ++ [(a, Sum.inr (6, [.ref (xk X 1 9), .int 0, .int 103, .int 109, .int 0]))]) := h2
  replace hS := h3
  clear h1 h2 h3
  refine lv_aload_n hx hb dX4_init_28 rfl (lv_at hl 0 rfl) ?_
  refine lv_iconst (v := 0) hx hb dX4_init_29 (by decide) ?_
  refine va_put (D := xD X) (ci := 6) (v := .int 0) (ty := .int) (C := RX4) (T := TX4) (N := 5) hx hb (hE.ws us_X4 ug_X4 _) (fun _ h => h) tyX4 tyX4_ok nmX4 hown hE.2.1 hP hD hS (ws.length + 0) (ap_at ws _ 0) rfl 4 (by decide) (hE.w qw_250 rfl _) (fun _ h9 => h9) rfl (by decide +kernel) rfl rfl (Nat.le_of_ble_eq_true rfl) dX4_init_30 (fun H105 locs9 h1 h2 h3 => ?_)
  rw [ap_set] at h1 h2
  replace hP : va_P (xD X) vwCl (ws ++ [(a, Sum.inr (6, [.ref (xk X 1 9), .int 0, .int 103, .int 109, .int 0]))]) H105 := h1
  replace hD : va_D (xA X) (ws ++ [(a, Sum.inr (6, [.ref (xk X 1 9), .int 0, .int 103, .int 109, .int 0]))]) := h2
  replace hS := h3
  clear h1 h2 h3
  refine W.widen (k := 0) (n := 0) (Nat.le_of_ble_eq_true rfl) (Nat.le_of_ble_eq_true rfl) ?_
  exact iend hx hb hr hlk rfl hP hD hS dX4_init_33
set_option maxHeartbeats 4000000 in
set_option maxRecDepth 100000 in
theorem inJ5_init_d00df (X : Cx) (l : Launch) (hfl : l.stackTraces = false) (ws : va_W) (a : Nat) : CI X l yJ5_init_d00df cJ5_init_d00df 2 1 1 16 [.ref a, .int 16] (ws ++ [(a, Sum.inr (1, [.null, .int 0, .int 0, .int 0]))]) (fun W => ∃ q1 : Nat, W = ws ++ [(a, Sum.inr (1, [.ref q1, .int 0, .int 0, .int 0])), (q1, Sum.inl (xc X 2, 16, Sum.inl (fun _ => 0)))]) := by
  refine ibegin (by decide) (Nat.le_of_ble_eq_true rfl) (fun p e s m below meth c hx hb hr hml hlk hin hown hE hAO hz ls hl hP hD hS => ?_)
  have hA : ∀ q : Nat, s.heap.size ≤ q → xA X q := fun q h => Nat.le_trans hz h
  have hl : lv_has ls 2 [(0, .ref a), (1, .int 16)] := hl
  have hown : s.vm.findClass "java/lang/AbstractStringBuilder" = some m.cls := hown
  refine lv_aload_n hx hb dJ5_init_d00df_0 rfl (lv_at hl 0 rfl) ?_
  refine W.objInit hx hb hown (hE.w qw_293 rfl _) (hE.w qw_115 rfl _) (hE.w qw_116 rfl _) rfl (hl.1.trans hml.symm) rfl dJ5_init_d00df_1 (Nat.le_of_ble_eq_true rfl) (Nat.le_of_ble_eq_true rfl) ?_
  refine W.eq (g2 := F0 m 4 ls []) rfl ?_
  refine va_gets hx hb hE.cs hS hown (hE.w qw_294 rfl _) (fun _ h9 => h9) dJ5_init_d00df_4 ?_
  refine lv_if_eq (tgt := 25) hx hb dJ5_init_d00df_7 (by decide) (fun c9 => absurd c9 (by decide)) (fun c9 => ?_) 
  refine lv_aload_n hx hb dJ5_init_d00df_10 rfl (lv_at hl 0 rfl) ?_
  refine lv_iload_n hx hb dJ5_init_d00df_11 rfl (lv_at hl 1 rfl) ?_
  refine va_newa (atype := .byte) (ty := .byte) hx hb (hE.w qw_317 rfl _) rfl hE.2.1 hP hD hS hA (N' := 16) (a0 := (16, .inl (fun _ => 0))) (fun _ => rfl) (by decide) (by decide) (Nat.le_of_ble_eq_true rfl) (Nat.le_of_ble_eq_true rfl) (Nat.le_of_ble_eq_true rfl) dJ5_init_d00df_12 (fun q1 cA H101 hK1 h1 h2 h3 => ?_)
  obtain rfl : cA = xc X 2 := Option.some.inj ((hK1.2 8 (cA, .byte) rfl).2.symm.trans (hE.2.1.2 2 (xc X 2, .byte) rfl).2)
  clear hK1
  rw [List.append_assoc] at h1 h2
  replace hP : va_P (xD X) vwCl (ws ++ [(a, Sum.inr (1, [.null, .int 0, .int 0, .int 0])), (q1, Sum.inl (xc X 2, 16, Sum.inl (fun _ => 0)))]) H101 := h1
  replace hD : va_D (xA X) (ws ++ [(a, Sum.inr (1, [.null, .int 0, .int 0, .int 0])), (q1, Sum.inl (xc X 2, 16, Sum.inl (fun _ => 0)))]) := h2
  replace hS := h3
  clear h1 h2 h3
  refine va_put (D := xD X) (ci := 1) (v := .ref q1) (ty := .array (.byte)) (C := RJ4) (T := TJ4) (N := 4) hx hb (hE.ws us_J4 ug_J4 _) (fun _ h => h) tyJ4 tyJ4_ok nmJ4 hown hE.2.1 hP hD hS (ws.length + 0) (ap_at ws _ 0) rfl 0 (by decide) (hE.w qw_303 rfl _) (fun _ h9 => h9) rfl (by decide +kernel) rfl rfl (Nat.le_of_ble_eq_true rfl) dJ5_init_d00df_14 (fun H102 locs9 h1 h2 h3 => ?_)
  rw [ap_set] at h1 h2
  replace hP : va_P (xD X) vwCl (ws ++ [(a, Sum.inr (1, [.ref q1, .int 0, .int 0, .int 0])), (q1, Sum.inl (xc X 2, 16, Sum.inl (fun _ => 0)))]) H102 := h1
  replace hD : va_D (xA X) (ws ++ [(a, Sum.inr (1, [.ref q1, .int 0, .int 0, .int 0])), (q1, Sum.inl (xc X 2, 16, Sum.inl (fun _ => 0)))]) := h2
  replace hS := h3
  clear h1 h2 h3
  refine lv_aload_n hx hb dJ5_init_d00df_17 rfl (lv_at hl 0 rfl) ?_
  refine lv_iconst (v := 0) hx hb dJ5_init_d00df_18 (by decide) ?_
  refine va_put (D := xD X) (ci := 1) (v := .int 0) (ty := .byte) (C := RJ4) (T := TJ4) (N := 4) hx hb (hE.ws us_J4 ug_J4 _) (fun _ h => h) tyJ4 tyJ4_ok nmJ4 hown hE.2.1 hP hD hS (ws.length + 0) (ap_at ws _ 0) rfl 1 (by decide) (hE.w qw_304 rfl _) (fun _ h9 => h9) rfl (by decide +kernel) rfl rfl (Nat.le_of_ble_eq_true rfl) dJ5_init_d00df_19 (fun H103 locs9 h1 h2 h3 => ?_)
  rw [ap_set] at h1 h2
  replace hP : va_P (xD X) vwCl (ws ++ [(a, Sum.inr (1, [.ref q1, .int 0, .int 0, .int 0])), (q1, Sum.inl (xc X 2, 16, Sum.inl (fun _ => 0)))]) H103 := h1
  replace hD : va_D (xA X) (ws ++ [(a, Sum.inr (1, [.ref q1, .int 0, .int 0, .int 0])), (q1, Sum.inl (xc X 2, 16, Sum.inl (fun _ => 0)))]) := h2
  replace hS := h3
  clear h1 h2 h3
  refine lv_goto (tgt := 38) hx hb dJ5_init_d00df_22 (by decide) ?_
  refine W.widen (k := 1) (n := 16) (Nat.le_of_ble_eq_true rfl) (Nat.le_of_ble_eq_true rfl) ?_
  exact iend hx hb hr hlk (⟨q1, rfl⟩) hP hD hS dJ5_init_d00df_38
set_option maxHeartbeats 4000000 in
set_option maxRecDepth 100000 in
theorem inJ4_init_da8c8 (X : Cx) (l : Launch) (hfl : l.stackTraces = false) (ws : va_W) (a : Nat) : CI X l yJ4_init_da8c8 cJ4_init_da8c8 1 2 1 16 [.ref a] (ws ++ [(a, Sum.inr (1, [.null, .int 0, .int 0, .int 0]))]) (fun W => ∃ q1 : Nat, W = ws ++ [(a, Sum.inr (1, [.ref q1, .int 0, .int 0, .int 0])), (q1, Sum.inl (xc X 2, 16, Sum.inl (fun _ => 0)))]) := by
  refine ibegin (by decide) (Nat.le_of_ble_eq_true rfl) (fun p e s m below meth c hx hb hr hml hlk hin hown hE hAO hz ls hl hP hD hS => ?_)
  have hA : ∀ q : Nat, s.heap.size ≤ q → xA X q := fun q h => Nat.le_trans hz h
  have hl : lv_has ls 1 [(0, .ref a)] := hl
  have hown : s.vm.findClass "java/lang/StringBuilder" = some m.cls := hown
  refine lv_aload_n hx hb dJ4_init_da8c8_0 rfl (lv_at hl 0 rfl) ?_
  refine lv_bipush (v := 16) hx hb dJ4_init_da8c8_1 (by decide) ?_
  have hP2 : va_P (xD X) vwCl (ws ++ [(a, Sum.inr (1, [.null, .int 0, .int 0, .int 0]))]) s.heap := hP
  have hD2 : va_D (xA X) (ws ++ [(a, Sum.inr (1, [.null, .int 0, .int 0, .int 0]))]) := hD
  refine call_I (run_I (cc := cJ4_init_da8c8) (As := [.int 16]) (rest := []) hx hb hml hown hE hAO hz (inJ5_init_d00df X l hfl ws a) qw_290 qw_291 qw_82 qw_292 (myJ5_init_d00df).2 ⟨Nat.le_of_ble_eq_true rfl, Nat.le_of_ble_eq_true rfl⟩ rfl hP2 hD2 hS rfl hl.1 rfl (Nat.le_of_ble_eq_true rfl) dJ4_init_da8c8_3 ⟨Nat.le_of_ble_eq_true rfl, Nat.le_of_ble_eq_true rfl⟩) hS (fun W H101 locs9 hw h1 h2 h3 => ?_)
  clear hP2 hD2
  obtain ⟨q1, rfl⟩ := hw
  replace hP : va_P (xD X) vwCl (ws ++ [(a, Sum.inr (1, [.ref q1, .int 0, .int 0, .int 0])), (q1, Sum.inl (xc X 2, 16, Sum.inl (fun _ => 0)))]) H101 := h1
  replace hD : va_D (xA X) (ws ++ [(a, Sum.inr (1, [.ref q1, .int 0, .int 0, .int 0])), (q1, Sum.inl (xc X 2, 16, Sum.inl (fun _ => 0)))]) := h2
  replace hS := h3
  clear h1 h2 h3
  refine W.widen (k := 1) (n := 16) (Nat.le_of_ble_eq_true rfl) (Nat.le_of_ble_eq_true rfl) ?_
  exact iend hx hb hr hlk (⟨q1, rfl⟩) hP hD hS dJ4_init_da8c8_6
