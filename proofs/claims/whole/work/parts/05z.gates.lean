/-! methods with a table of their own, over the pool -/
abbrev CTW (X : Cx) (l : Launch) (y : MethodName) (bc : ByteArray) (nL : Nat) (ret : Option FieldType) (hh : List (Nat × Nat × Nat × Nat)) (d mc ms : Nat) (av : List Value) (G : GS) (Qc : Array Value → State → Outcome → State → Prop) : Prop :=
  Met l y [.codeWith y bc nL ret hh] (rmL d mc ms) (va_Pc av (fun U => Pre X G U)) Qc mc ms (xA X)
theorem mbeginW {X : Cx} {l : Launch} {y : MethodName} {bc : ByteArray} {nL : Nat} {ret : Option FieldType} {hh : List (Nat × Nat × Nat × Nat)} {d mc ms iw : Nat} {av : List Value} {G : GS} {Qc : Array Value → State → Outcome → State → Prop} (hq : lw_tbl[iw]? = some (.codeWith y bc nL ret hh)) (hy : plainName y.cls = true) (hn : (lg_sl av).length ≤ nL)
    (body : ∀ (p : Program) (e : Env) (s : State) (m : MethodId) (below : List Frame) (meth : Method) (c : Code), p.tables.exec = Jvm.exec → c.code = bc → meth.sig.returnType = ret → c.maxLocals = nL → meth.locks = false → s.vm.findClass y.cls = some m.cls → c.exceptionTable.toList = tableOf hh →
      Ev X s s.heap → xs X ≤ s.heap.size → ∀ ls, lv_has ls nL (lv_args 0 av) → va_P (xD X) vwCl (pool X G) s.heap → va_D (xA X) (pool X G) → va_S (xA X) s.heap s.heap [] →
      W p l e (rmL d mc ms) s m av.toArray below meth c s.heap [] 0 0 (MQ below Qc av.toArray s mc ms (xA X)) (F0 m 0 ls [])) : CTW X l y bc nL ret hh d mc ms av G Qc := by
  refine va_MetW (cc := bc) (maxL := nL) (ret := ret) (hh := hh) hy rfl ?_
  intro p e s m args below meth c s₁ B hml hv
  obtain ⟨rfl, hE, hP, hD, hz⟩ := hv
  have hl := lv_entry av hn
  rw [lg_entry_eq]
  exact body p e s m below meth c B.exec B.bytes B.returns hml B.notSynchronized (findClass_of_methodNamed B.named) (vx_table (x := y) B (hE.w hq rfl _)) hE hz _ hl hP hD va_S.rf
section RSW
variable {p : Program} {l : Launch} {e : Env} {R : Room} {s : State} {m : MethodId} {args : Array Value} {below : List Frame} {meth : Method} {c : Code} {H : Heap} {locs : List Loc} {cells slots : Nat} {cc : ByteArray} {pc : Nat} {ls : Array Slot} {rest : List Value} {X : Cx} {G : GS} {own : String} {index : Nat} {mc ms d n nL nLc : Nat} {y : MethodName} {bc : ByteArray} {ret : Option FieldType} {hh : List (Nat × Nat × Nat × Nat)} {As st0 : List Value} {Qc : Array Value → State → Outcome → State → Prop} {i1 i2 i3 i4 : Nat}
theorem run_SW (hx : p.tables.exec = Jvm.exec) (hb : c.code = cc) (hml : c.maxLocals = nLc) (hown : s.vm.findClass own = some m.cls) (hE : Ev X s s.heap) (hz : xs X ≤ s.heap.size) (hM : CTW X l y bc nL ret hh d mc ms As G Qc)
    (q1 : lw_tbl[i1]? = some (.methodLink own index y)) (q2 : lw_tbl[i2]? = some (.static y)) (q3 : lw_tbl[i3]? = some (.initialized y.cls)) (q4 : lw_tbl[i4]? = some (.codeWith y bc nL ret hh))
    (hd : y.cls ≠ "java/lang/invoke/MethodHandle" ∧ y.cls ≠ "java/lang/invoke/VarHandle" ∧ (parseMethodDescriptor y.desc).map (fun d => d.parameters.length) = some n) (hR : d + 1 ≤ R.frames ∧ 8 + (nL + 11) + 40 * d ≤ R.locals)
    (hP : va_P (xD X) vwCl (pool X G) H) (hD : va_D (xA X) (pool X G)) (hS : va_S (xA X) s.heap H locs) (hn : As.length = n) (hsz : ls.size = nLc) (hst : st0 = As.reverse ++ rest) (hw : (rest.map fun v => v.category).sum ≤ 8) (hdg : decode cc pc = .ok (.invokestatic index, 3)) (hf : cells + mc ≤ R.cells ∧ slots + ms ≤ R.slots) :
    va_Run p l e R s m args below meth c H locs cells slots mc ms (F0 m pc ls st0) rest (Qc As.toArray) (xA X) :=
  vx_runSW (Ts := va_wsS own index y [.codeWith y bc nL ret hh]) ⟨hx, hb, hml, hown, w4 hE q1 q2 q3 q4 rfl rfl rfl rfl⟩ hM (vx_cwSW n (w4 hE q1 q2 q3 q4 rfl rfl rfl rfl) (good4 rfl rfl rfl rfl) rfl rfl rfl hd hR) ⟨Pre.blind, fun U hU hW => ⟨rfl, pre_of hE hz hP hD hS U hU hW⟩⟩ rfl hn hsz hst (lv_room hw) hdg hf
end RSW
