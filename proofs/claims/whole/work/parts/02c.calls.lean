/-! contracts over the pool; the rows of arrays, calls, ends -/
abbrev wy (y : MethodName) (bc : ByteArray) (nL : Nat) (ret : Option FieldType) : List Cond := [.code y bc nL ret]
abbrev rmL (d mc ms : Nat) : Room := { frames := d, cells := mc, slots := ms, locals := 40 * d }
def Pre (X : Cx) (G : GS) (U : State) : Prop := Ev X U U.heap ∧ va_P (xD X) vwCl (pool X G) U.heap ∧ va_D (xA X) (pool X G) ∧ xs X ≤ U.heap.size
def Wd (X : Cx) (G : GS) (t : State) : Prop := va_P (xD X) vwCl (pool X G) t.heap ∧ va_D (xA X) (pool X G)
theorem Pre.blind {X : Cx} {G : GS} {av : List Value} : FrameBlind (va_Pc av (fun U => Pre X G U)) := fun _ U g mk h => ⟨h.1, Ev.same (s := U) (U := U.calling g mk _) rfl h.2.1, h.2.2⟩
/-- what a method answers: a number, nothing, a float, a double, the cell f of an index -/
abbrev Qi (X : Cx) (post : Int32 → GS → Prop) := va_Qi post (Wd X) (xA X)
abbrev Qv (X : Cx) (post : GS → Prop) := va_Qv post (Wd X) (xA X)
abbrev Qf (X : Cx) (post : UInt32 → GS → Prop) := va_Qf post (Wd X) (xA X)
abbrev Qd (X : Cx) (post : UInt64 → GS → Prop) := va_Qd post (Wd X) (xA X)
abbrev Qr (X : Cx) (f : Nat → Nat) (post : Nat → GS → Prop) := va_Qr (S := Nat × GS) (fun u => post u.1 u.2) (fun u a t => a = f u.1 ∧ Wd X u.2 t) (xA X)
abbrev XX (X : Cx) (xpost : String → GS → Prop) := vx_X (S := String × GS) (fun u => xpost u.1 u.2) (fun E u t => E = u.1 ∧ Wd X u.2 t) (xA X)
abbrev CT (X : Cx) (l : Launch) (y : MethodName) (bc : ByteArray) (nL : Nat) (ret : Option FieldType) (d mc ms : Nat) (av : List Value) (G : GS) (Qc : Array Value → State → Outcome → State → Prop) : Prop :=
  Met l y (wy y bc nL ret) (rmL d mc ms) (va_Pc av (fun U => Pre X G U)) Qc mc ms (xA X)
abbrev CX (X : Cx) (l : Launch) (y : MethodName) (bc : ByteArray) (nL : Nat) (ret : Option FieldType) (d mc ms : Nat) (av : List Value) (G : GS) (Qc : Array Value → State → Outcome → State → Prop) (xpost : String → GS → Prop) : Prop :=
  vx_Met l y (wy y bc nL ret) (rmL d mc ms) (va_Pc av (fun U => Pre X G U)) Qc (XX X xpost) mc ms (xA X)
theorem mbegin {X : Cx} {l : Launch} {y : MethodName} {bc : ByteArray} {nL : Nat} {ret : Option FieldType} {d mc ms : Nat} {av : List Value} {G : GS} {Qc : Array Value → State → Outcome → State → Prop} (hy : plainName y.cls = true) (hn : (lg_sl av).length ≤ nL)
    (body : ∀ (p : Program) (e : Env) (s : State) (m : MethodId) (below : List Frame) (meth : Method) (c : Code), p.tables.exec = Jvm.exec → c.code = bc → meth.sig.returnType = ret → c.maxLocals = nL → meth.locks = false → s.vm.findClass y.cls = some m.cls →
      Ev X s s.heap → xs X ≤ s.heap.size → ∀ ls, lv_has ls nL (lv_args 0 av) → va_P (xD X) vwCl (pool X G) s.heap → va_D (xA X) (pool X G) → va_S (xA X) s.heap s.heap [] →
      W p l e (rmL d mc ms) s m av.toArray below meth c s.heap [] 0 0 (MQ below Qc av.toArray s mc ms (xA X)) (F0 m 0 ls [])) : CT X l y bc nL ret d mc ms av G Qc := by
  refine Met.ofW (cc := bc) (maxL := nL) (ret := ret) hy rfl ?_
  intro p e s m args below meth c s₁ B hml hv
  obtain ⟨rfl, hE, hP, hD, hz⟩ := hv
  have hl := lv_entry av hn
  rw [lg_entry_eq]
  exact body p e s m below meth c B.exec B.bytes B.returns hml B.notSynchronized (findClass_of_methodNamed B.named) hE hz _ hl hP hD va_S.rf
theorem xbegin {X : Cx} {l : Launch} {y : MethodName} {bc : ByteArray} {nL : Nat} {ret : Option FieldType} {d mc ms : Nat} {av : List Value} {G : GS} {Qc : Array Value → State → Outcome → State → Prop} {xpost : String → GS → Prop} (hy : plainName y.cls = true) (hn : (lg_sl av).length ≤ nL)
    (body : ∀ (p : Program) (e : Env) (s : State) (m : MethodId) (below : List Frame) (meth : Method) (c : Code), p.tables.exec = Jvm.exec → c.code = bc → meth.sig.returnType = ret → c.maxLocals = nL → meth.locks = false → s.vm.findClass y.cls = some m.cls → (∀ x ∈ c.exceptionTable.toList, False) →
      Ev X s s.heap → xs X ≤ s.heap.size → ∀ ls, lv_has ls nL (lv_args 0 av) → va_P (xD X) vwCl (pool X G) s.heap → va_D (xA X) (pool X G) → va_S (xA X) s.heap s.heap [] →
      W p l e (rmL d mc ms) s m av.toArray below meth c s.heap [] 0 0 (vx_MQ below Qc (XX X xpost) av.toArray s mc ms (xA X)) (F0 m 0 ls [])) : CX X l y bc nL ret d mc ms av G Qc xpost := by
  refine vx_ofW (cc := bc) (maxL := nL) (ret := ret) hy rfl ?_
  intro p e s m args below meth c s₁ B hml ht hv
  obtain ⟨rfl, hE, hP, hD, hz⟩ := hv
  have hl := lv_entry av hn
  rw [lg_entry_eq]
  exact body p e s m below meth c B.exec B.bytes B.returns hml B.notSynchronized (findClass_of_methodNamed B.named) ht hE hz _ hl hP hD va_S.rf
theorem ite_t {c A B : Prop} [Decidable c] (h : if c then A else B) (hc : c) : A := by rwa [if_pos hc] at h
theorem ite_f {c A B : Prop} [Decidable c] (h : if c then A else B) (hc : ¬ c) : B := by rwa [if_neg hc] at h
section ROWS
variable {p : Program} {l : Launch} {e : Env} {R : Room} {s : State} {m : MethodId} {args : Array Value} {below : List Frame} {meth : Method} {c : Code} {H : Heap} {locs : List Loc} {cells slots : Nat} {Q : State → Prop} {cc : ByteArray} {pc : Nat} {ls : Array Slot} {rest : List Value} {X : Cx} {G : GS} {own : String} {index q : Nat} {mc ms : Nat}
theorem end_i {v : Int32} {ty : FieldType} {post : Int32 → GS → Prop} (hx : p.tables.exec = Jvm.exec) (hb : c.code = cc) (hr : meth.sig.returnType = some ty) (hk : meth.locks = false) (hn : narrow ty (.int v) = .int v) (hw : post v G) (hP : va_P (xD X) vwCl (pool X G) H) (hD : va_D (xA X) (pool X G)) (hS : va_S (xA X) s.heap H locs) (hdg : decode cc pc = .ok (.ireturn, 1)) :
    W p l e R s m args below meth c H locs mc ms (MQ below (Qi X post) args s mc ms (xA X)) (F0 m pc ls [.int v]) :=
  W.zret hx hb hr hn (fun t ht hW => ⟨⟨v, G, rfl, hw, by rw [ht]; exact hP, hD⟩, hS.F ht⟩) hS.2.2 hdg hk
theorem end_v {post : GS → Prop} (hx : p.tables.exec = Jvm.exec) (hb : c.code = cc) (hr : meth.sig.returnType = none) (hk : meth.locks = false) (hw : post G) (hP : va_P (xD X) vwCl (pool X G) H) (hD : va_D (xA X) (pool X G)) (hS : va_S (xA X) s.heap H locs) (hdg : decode cc pc = .ok (.return_, 1)) :
    W p l e R s m args below meth c H locs mc ms (MQ below (Qv X post) args s mc ms (xA X)) (F0 m pc ls []) :=
  W.vret hx hb hr (fun t ht hW => ⟨⟨G, rfl, hw, by rw [ht]; exact hP, hD⟩, hS.F ht⟩) hS.2.2 hdg hk
theorem end_r {i : Nat} {f : Nat → Nat} {ty : FieldType} {post : Nat → GS → Prop} (hx : p.tables.exec = Jvm.exec) (hb : c.code = cc) (hr : meth.sig.returnType = some ty) (hk : meth.locks = false) (hn : (∃ n, ty = .object n) ∨ ∃ t, ty = .array t) (hw : post i G) (hP : va_P (xD X) vwCl (pool X G) H) (hD : va_D (xA X) (pool X G)) (hS : va_S (xA X) s.heap H locs) (hdg : decode cc pc = .ok (.areturn, 1)) :
    W p l e R s m args below meth c H locs mc ms (MQ below (Qr X f post) args s mc ms (xA X)) (F0 m pc ls [.ref (f i)]) :=
  W.aret hx hb hr hn (Or.inr ⟨_, rfl⟩) (fun t ht hW => ⟨⟨(i, G), f i, rfl, hw, rfl, by rw [ht]; exact hP, hD⟩, hS.F ht⟩) hS.2.2 hdg hk
theorem end_f {v : UInt32} {post : UInt32 → GS → Prop} (hx : p.tables.exec = Jvm.exec) (hb : c.code = cc) (hr : meth.sig.returnType = some .float) (hk : meth.locks = false) (hw : post v G) (hP : va_P (xD X) vwCl (pool X G) H) (hD : va_D (xA X) (pool X G)) (hS : va_S (xA X) s.heap H locs) (hdg : decode cc pc = .ok (.freturn, 1)) :
    W p l e R s m args below meth c H locs mc ms (MQ below (Qf X post) args s mc ms (xA X)) (F0 m pc ls [.float v]) :=
  W.fret hx hb hr (fun t ht hW => ⟨⟨v, G, rfl, hw, by rw [ht]; exact hP, hD⟩, hS.F ht⟩) hS.2.2 hdg hk
theorem end_d {v : UInt64} {post : UInt64 → GS → Prop} (hx : p.tables.exec = Jvm.exec) (hb : c.code = cc) (hr : meth.sig.returnType = some .double) (hk : meth.locks = false) (hw : post v G) (hP : va_P (xD X) vwCl (pool X G) H) (hD : va_D (xA X) (pool X G)) (hS : va_S (xA X) s.heap H locs) (hdg : decode cc pc = .ok (.dreturn, 1)) :
    W p l e R s m args below meth c H locs mc ms (MQ below (Qd X post) args s mc ms (xA X)) (F0 m pc ls [.double v]) :=
  W.dret hx hb hr (fun t ht hW => ⟨⟨v, G, rfl, hw, by rw [ht]; exact hP, hD⟩, hS.F ht⟩) hS.2.2 hdg hk
end ROWS
