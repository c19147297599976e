section BLD
variable {p : Program} {l : Launch} {e : Env} {R : Room} {s : State} {m : MethodId} {args : Array Value} {below : List Frame} {meth : Method} {c : Code} {H : Heap} {locs : List Loc} {cells slots : Nat} {Q : State → Prop} {cc : ByteArray} {pc : Nat} {ls : Array Slot} {rest : List Value} {X : Cx} {G : GS} {own C owner : String} {index q : Nat} {mc ms d n nL nLc b : Nat} {x y : MethodName} {bc : ByteArray} {ret : Option FieldType} {As st0 : List Value} {a : Array Value} {Qc : Array Value → State → Outcome → State → Prop} {i1 i2 i3 i4 i5 i6 : Nat}
/-- a private method is what a call that names it comes to, whatever the receiver's class -/
theorem sel_priv (hpr : s.PrivateAt y) (hinst : (Cond.instanceMethod y).before args s = true) (hy : y.cls ≠ "java/lang/invoke/MethodHandle" ∧ y.cls ≠ "java/lang/invoke/VarHandle") {z z' : MethodName} (hz : (Cond.selects C z z').before args s = true) (hc : z'.cls = y.cls) : (Cond.selects C y y).before args s = true := by
  obtain ⟨c2, r2, m2, a1, a2, a3, a4, mk2, hmk2, hni⟩ := Cond.selects_spec hz
  obtain ⟨mk, methM, hnamed, hmethM, -, -⟩ := Cond.instanceMethod_spec hinst
  have hfound : s.methodFound? y.cls y.name y.desc = some mk := State.methodFound?_of_named hnamed hy
  have hcls : mk.cls = m2.cls := Option.some.inj ((findClass_of_methodNamed hnamed).symm.trans ((by rw [← hc]; exact findClass_of_methodNamed a3)))
  have hsel : selectMethod {} s.vm c2 mk = .method mk := selectMethod_private hmethM (hpr mk methM hnamed hmethM)
  simp only [Cond.before, Cond.holds, Cond.value, a1, hfound, hnamed, hsel, hcls, hmk2]
  simp; exact hni
theorem run_U (hx : p.tables.exec = Jvm.exec) (hb : c.code = cc) (hml : c.maxLocals = nLc) (hown : s.vm.findClass own = some m.cls) (hE : Ev X s s.heap) (hz : xs X ≤ s.heap.size) (hM : CT X l y bc nL ret d mc ms (.ref b :: As) G Qc)
    (q1 : lw_tbl[i1]? = some (.methodLink own index x)) (q2 : lw_tbl[i2]? = some (.sameMethod x.cls owner x.name x.desc)) (q3 : (Cond.selects C x y).before args s = true) (q4 : lw_tbl[i4]? = some (.instanceMethod y)) (q5 : lw_tbl[i5]? = some (.initialized y.cls)) (q6 : lw_tbl[i6]? = some (.code y bc nL ret)) (hyx : y = ⟨owner, x.name, x.desc⟩)
    (hd : owner ≠ "java/lang/invoke/MethodHandle" ∧ owner ≠ "java/lang/invoke/VarHandle" ∧ (parseMethodDescriptor x.desc).map (fun d => d.parameters.length) = some n) (hR : d + 1 ≤ R.frames ∧ 8 + (nL + 11) + 40 * d ≤ R.locals)
    (hrv : ∃ cell : Cell, H[b]? = some cell ∧ cell.vm.isStatics = false ∧ s.vm.findClass C = some cell.cls) (hP : va_P (xD X) vwCl (pool X G) H) (hD : va_D (xA X) (pool X G)) (hS : va_S (xA X) s.heap H locs) (hn : As.length = n) (hsz : ls.size = nLc) (hst : st0 = As.reverse ++ .ref b :: rest) (hw : (rest.map fun v => v.category).sum ≤ 8) (hdg : decode cc pc = .ok (.invokevirtual index, 3)) (hf : cells + mc ≤ R.cells ∧ slots + ms ≤ R.slots) :
    va_Run p l e R s m args below meth c H locs cells slots mc ms (F0 m pc ls st0) rest (Qc (Value.ref b :: As).toArray) (xA X) := by
  have ht : ∀ w ∈ va_wsU own index C owner x y (wy y bc nL ret), w.before args s = true := by
    intro w hw
    simp only [va_wsU, wy, List.cons_append, List.nil_append, List.mem_cons, List.not_mem_nil, or_false] at hw
    rcases hw with rfl | rfl | rfl | rfl | rfl | rfl
    · exact hE.w q1 rfl args
    · exact hE.w q2 rfl args
    · exact q3
    · exact hE.w q4 rfl args
    · exact hE.w q5 rfl args
    · exact hE.w q6 rfl args
  have hT : GoodIn (va_wsU own index C owner x y (wy y bc nL ret)) (va_wsU own index C owner x y (wy y bc nL ret)) := by
    intro w hw
    refine ⟨hw, good_of_word ?_⟩
    simp only [va_wsU, wy, List.cons_append, List.nil_append, List.mem_cons, List.not_mem_nil, or_false] at hw
    rcases hw with rfl | rfl | rfl | rfl | rfl | rfl <;> rfl
  exact va_runU (Ts := va_wsU own index C owner x y (wy y bc nL ret)) ⟨hx, hb, hml, hown, ht⟩ hM (va_cwU n ht hT rfl rfl rfl hyx hd hR) ⟨Pre.blind, hrv, fun U hU hW => ⟨rfl, pre_of hE hz hP hD hS U hU hW⟩⟩ rfl hn hsz hst (lv_room hw) hdg hf
theorem run_SU {cC : ClassId} (hat : ClassAt s C cC) (hx : p.tables.exec = Jvm.exec) (hb : c.code = cc) (hml : c.maxLocals = nLc) (hown : s.vm.findClass own = some m.cls) (hE : Ev X s s.heap) (hz : xs X ≤ s.heap.size) (hM : CT X l y bc nL ret d mc ms (.ref b :: As) G Qc)
    (q1 : lw_tbl[i1]? = some (.methodLink own index y)) (q2 : lw_tbl[i2]? = some (.sameMethod y.cls y.cls y.name y.desc)) (q3 : lw_tbl[i3]? = some (.superclass own y.cls)) (q4 : lw_tbl[i4]? = some (.instanceMethod y)) (q5 : lw_tbl[i5]? = some (.initialized y.cls)) (q6 : lw_tbl[i6]? = some (.code y bc nL ret))
    (hd : y.name ≠ "<init>" ∧ (parseMethodDescriptor y.desc).map (fun d => d.parameters.length) = some n) (hR : d + 1 ≤ R.frames ∧ 8 + (nL + 11) + 40 * d ≤ R.locals)
    (hrv : ∃ cell : Cell, H[b]? = some cell ∧ cell.vm.isStatics = false ∧ s.vm.findClass C = some cell.cls) (hP : va_P (xD X) vwCl (pool X G) H) (hD : va_D (xA X) (pool X G)) (hS : va_S (xA X) s.heap H locs) (hn : As.length = n) (hsz : ls.size = nLc) (hst : st0 = As.reverse ++ .ref b :: rest) (hw : (rest.map fun v => v.category).sum ≤ 8) (hdg : decode cc pc = .ok (.invokespecial index, 3)) (hf : cells + mc ≤ R.cells ∧ slots + ms ≤ R.slots) :
    va_Run p l e R s m args below meth c H locs cells slots mc ms (F0 m pc ls st0) rest (Qc (Value.ref b :: As).toArray) (xA X) := by
  have ht : ∀ w ∈ va_wsSU own index y (wy y bc nL ret), w.before args s = true := by
    intro w hw
    simp only [va_wsSU, wy, List.cons_append, List.nil_append, List.mem_cons, List.not_mem_nil, or_false] at hw
    rcases hw with rfl | rfl | rfl | rfl | rfl | rfl
    · exact hE.w q1 rfl args
    · exact hE.w q2 rfl args
    · exact hE.w q3 rfl args
    · exact hE.w q4 rfl args
    · exact hE.w q5 rfl args
    · exact hE.w q6 rfl args
  have hT : GoodIn (va_wsSU own index y (wy y bc nL ret)) (va_wsSU own index y (wy y bc nL ret)) := by
    intro w hw
    refine ⟨hw, good_of_word ?_⟩
    simp only [va_wsSU, wy, List.cons_append, List.nil_append, List.mem_cons, List.not_mem_nil, or_false] at hw
    rcases hw with rfl | rfl | rfl | rfl | rfl | rfl <;> rfl
  exact va_runSU (Ts := va_wsSU own index y (wy y bc nL ret)) hat ⟨hx, hb, hml, hown, ht⟩ hM (va_cwSU n ht hT rfl rfl rfl hd hR) ⟨Pre.blind, hrv, fun U hU hW => ⟨rfl, pre_of hE hz hP hD hS U hU hW⟩⟩ rfl hn hsz hst (lv_room hw) hdg hf
/-- StringBuilder's class -/
theorem at_sb (hE : Ev X s s.heap) : ClassAt s "java/lang/StringBuilder" ((xD X).1 1) := (hE.2.1.1 1 _ rfl).2
/-- the builder's bytes by a name of their address -/
theorem ald_12o {o : Nat} (ho : o = G.2.1.1) (hx : p.tables.exec = Jvm.exec) (hb : c.code = cc) (hE : Ev X s s.heap) (hP : va_P (xD X) vwCl (pool X G) H) {i : Int32} (hin : vp_in i G.2.1.2) (hdg : decode cc pc = .ok (.baload, 1)) (kk : W p l e R s m args below meth c H locs cells slots Q (F0 m (pc + 1) ls (.int (G.1 188 i.toNatClampNeg) :: rest))) : W p l e R s m args below meth c H locs cells slots Q (F0 m pc ls (.int i :: .ref o :: rest)) := by
  rw [ho]; exact ald_12 hx hb hE hP hin hdg kk
theorem ast_12o {o : Nat} (ho : o = G.2.1.1) (hx : p.tables.exec = Jvm.exec) (hb : c.code = cc) (hE : Ev X s s.heap) (hP : va_P (xD X) vwCl (pool X G) H) (hD : va_D (xA X) (pool X G)) (hS : va_S (xA X) s.heap H locs) {i x : Int32} (hin : vp_in i G.2.1.2) (hdg : decode cc pc = .ok (.bastore, 1))
    (kk : ∀ (G1 : GS) (H1 : Heap) (locs1 : List Loc), G1 = gI G 188 i.toNatClampNeg (vp_nar .byte x) → va_P (xD X) vwCl (pool X G1) H1 → va_D (xA X) (pool X G1) → va_S (xA X) s.heap H1 locs1 → W p l e R s m args below meth c H1 locs1 cells slots Q (F0 m (pc + 1) ls rest)) : W p l e R s m args below meth c H locs cells slots Q (F0 m pc ls (.int x :: .int i :: .ref o :: rest)) := by
  rw [ho]; exact ast_12 hx hb hE hP hD hS hin hdg kk
theorem alen_12o {o : Nat} (ho : o = G.2.1.1) (hx : p.tables.exec = Jvm.exec) (hb : c.code = cc) (hE : Ev X s s.heap) (hP : va_P (xD X) vwCl (pool X G) H) (hdg : decode cc pc = .ok (.arraylength, 1)) (kk : W p l e R s m args below meth c H locs cells slots Q (F0 m (pc + 1) ls (.int (nI G.2.1.2) :: rest))) : W p l e R s m args below meth c H locs cells slots Q (F0 m pc ls (.ref o :: rest)) := by
  rw [ho]; exact va_alen hx hb hE.2.1 hP 188 2 (at_12 X G) rfl rfl hdg kk
theorem topo {o : Nat} {pc : Nat} (kk : ∀ o1 : Nat, o1 = o → W p l e R s m args below meth c H locs cells slots Q (F0 m pc ls (.ref o1 :: rest))) : W p l e R s m args below meth c H locs cells slots Q (F0 m pc ls (.ref o :: rest)) := kk o rfl
end BLD
