/-! calls of contracts over the pool: the run, then its answer -/
section RUN
variable {p : Program} {l : Launch} {e : Env} {R : Room} {s : State} {m : MethodId} {args : Array Value} {below : List Frame} {meth : Method} {c : Code} {H : Heap} {locs : List Loc} {cells slots : Nat} {Q : State → Prop} {cc : ByteArray} {pc : Nat} {ls : Array Slot} {rest : List Value} {X : Cx} {G : GS} {own C host : String} {index q : Nat} {mc ms d n nL nLc b : Nat} {y : MethodName} {bc : ByteArray} {ret : Option FieldType} {As st0 : List Value} {a : Array Value} {Qc : Array Value → State → Outcome → State → Prop} {xpost : String → GS → Prop} {i1 i2 i3 i4 i5 : Nat}
theorem pre_of (hE : Ev X s s.heap) (hz : xs X ≤ s.heap.size) (hP : va_P (xD X) vwCl (pool X G) H) (hD : va_D (xA X) (pool X G)) (hS : va_S (xA X) s.heap H locs) (U : State) (hU : U.heap = H) (hW : s.WarmedH U.vm) : Pre X G U := by
  subst hU
  exact ⟨Ev.move hW hE hS.2.1, hP, hD, Nat.le_trans hz hS.1⟩
theorem w5 (hE : Ev X s s.heap) {w1 w2 w3 w4 w5 : Cond} (q1 : lw_tbl[i1]? = some w1) (q2 : lw_tbl[i2]? = some w2) (q3 : lw_tbl[i3]? = some w3) (q4 : lw_tbl[i4]? = some w4) (q5 : lw_tbl[i5]? = some w5) (h1 : okw w1 = true) (h2 : okw w2 = true) (h3 : okw w3 = true) (h4 : okw w4 = true) (h5 : okw w5 = true) : ∀ w ∈ [w1, w2, w3, w4, w5], w.before args s = true := by
  intro w hw
  simp only [List.mem_cons, List.not_mem_nil, or_false] at hw
  rcases hw with rfl | rfl | rfl | rfl | rfl
  · exact hE.w q1 h1 args
  · exact hE.w q2 h2 args
  · exact hE.w q3 h3 args
  · exact hE.w q4 h4 args
  · exact hE.w q5 h5 args
theorem w4 (hE : Ev X s s.heap) {w1 w2 w3 w4 : Cond} (q1 : lw_tbl[i1]? = some w1) (q2 : lw_tbl[i2]? = some w2) (q3 : lw_tbl[i3]? = some w3) (q4 : lw_tbl[i4]? = some w4) (h1 : okw w1 = true) (h2 : okw w2 = true) (h3 : okw w3 = true) (h4 : okw w4 = true) : ∀ w ∈ [w1, w2, w3, w4], w.before args s = true := by
  intro w hw
  simp only [List.mem_cons, List.not_mem_nil, or_false] at hw
  rcases hw with rfl | rfl | rfl | rfl
  · exact hE.w q1 h1 args
  · exact hE.w q2 h2 args
  · exact hE.w q3 h3 args
  · exact hE.w q4 h4 args
theorem good5 {w1 w2 w3 w4 w5 : Cond} (h1 : goodWord w1 = true) (h2 : goodWord w2 = true) (h3 : goodWord w3 = true) (h4 : goodWord w4 = true) (h5 : goodWord w5 = true) : GoodIn [w1, w2, w3, w4, w5] [w1, w2, w3, w4, w5] := by
  intro w hw
  refine ⟨hw, good_of_word ?_⟩
  simp only [List.mem_cons, List.not_mem_nil, or_false] at hw
  rcases hw with rfl | rfl | rfl | rfl | rfl <;> assumption
theorem good4 {w1 w2 w3 w4 : Cond} (h1 : goodWord w1 = true) (h2 : goodWord w2 = true) (h3 : goodWord w3 = true) (h4 : goodWord w4 = true) : GoodIn [w1, w2, w3, w4] [w1, w2, w3, w4] := by
  intro w hw
  refine ⟨hw, good_of_word ?_⟩
  simp only [List.mem_cons, List.not_mem_nil, or_false] at hw
  rcases hw with rfl | rfl | rfl | rfl <;> assumption
theorem good1 {w1 : Cond} (h1 : goodWord w1 = true) : GoodIn [w1] [w1] := by
  intro w hw
  refine ⟨hw, good_of_word ?_⟩
  simp only [List.mem_cons, List.not_mem_nil, or_false] at hw
  rcases hw with rfl; assumption
theorem run_V (hx : p.tables.exec = Jvm.exec) (hb : c.code = cc) (hml : c.maxLocals = nLc) (hown : s.vm.findClass own = some m.cls) (hE : Ev X s s.heap) (hz : xs X ≤ s.heap.size) (hM : CT X l y bc nL ret d mc ms (.ref b :: As) G Qc)
    (q1 : lw_tbl[i1]? = some (.methodLink own index y)) (q2 : lw_tbl[i2]? = some (.instanceMethod y)) (q3 : lw_tbl[i3]? = some (.selects C y y)) (q4 : lw_tbl[i4]? = some (.initialized C)) (q5 : lw_tbl[i5]? = some (.code y bc nL ret))
    (hd : y.cls = C ∧ y.cls ≠ "java/lang/invoke/MethodHandle" ∧ y.cls ≠ "java/lang/invoke/VarHandle" ∧ (parseMethodDescriptor y.desc).map (fun d => d.parameters.length) = some n) (hR : d + 1 ≤ R.frames ∧ 8 + (nL + 11) + 40 * d ≤ R.locals)
    (hrv : ∃ cell : Cell, H[b]? = some cell ∧ cell.vm.isStatics = false ∧ s.vm.findClass C = some cell.cls) (hP : va_P (xD X) vwCl (pool X G) H) (hD : va_D (xA X) (pool X G)) (hS : va_S (xA X) s.heap H locs) (hn : As.length = n) (hsz : ls.size = nLc) (hst : st0 = As.reverse ++ .ref b :: rest) (hw : (rest.map fun v => v.category).sum ≤ 8) (hdg : decode cc pc = .ok (.invokevirtual index, 3)) (hf : cells + mc ≤ R.cells ∧ slots + ms ≤ R.slots) :
    va_Run p l e R s m args below meth c H locs cells slots mc ms (F0 m pc ls st0) rest (Qc (Value.ref b :: As).toArray) (xA X) :=
  va_runV (Ts := wsV own index C y (wy y bc nL ret)) ⟨hx, hb, hml, hown, w5 hE q1 q2 q3 q4 q5 rfl rfl rfl rfl rfl⟩ hM (cwV n (w5 hE q1 q2 q3 q4 q5 rfl rfl rfl rfl rfl) (good5 rfl rfl rfl rfl rfl) rfl rfl rfl hd hR) ⟨Pre.blind, hrv, fun U hU hW => ⟨rfl, pre_of hE hz hP hD hS U hU hW⟩⟩ rfl hn hsz hst (lv_room hw) hdg hf
theorem run_VN (hx : p.tables.exec = Jvm.exec) (hb : c.code = cc) (hml : c.maxLocals = nLc) (hown : s.vm.findClass own = some m.cls) (hE : Ev X s s.heap) (hz : xs X ≤ s.heap.size) (hM : CT X l y bc nL ret d mc ms (.ref b :: As) G Qc)
    (q1 : lw_tbl[i1]? = some (.methodLinkNest own index y host)) (q2 : lw_tbl[i2]? = some (.instanceMethod y)) (q3 : lw_tbl[i3]? = some (.selects C y y)) (q4 : lw_tbl[i4]? = some (.initialized y.cls)) (q5 : lw_tbl[i5]? = some (.code y bc nL ret))
    (hd : y.cls ≠ "java/lang/invoke/MethodHandle" ∧ y.cls ≠ "java/lang/invoke/VarHandle" ∧ (parseMethodDescriptor y.desc).map (fun d => d.parameters.length) = some n) (hR : d + 1 ≤ R.frames ∧ 8 + (nL + 11) + 40 * d ≤ R.locals)
    (hrv : ∃ cell : Cell, H[b]? = some cell ∧ cell.vm.isStatics = false ∧ s.vm.findClass C = some cell.cls) (hP : va_P (xD X) vwCl (pool X G) H) (hD : va_D (xA X) (pool X G)) (hS : va_S (xA X) s.heap H locs) (hn : As.length = n) (hsz : ls.size = nLc) (hst : st0 = As.reverse ++ .ref b :: rest) (hw : (rest.map fun v => v.category).sum ≤ 8) (hdg : decode cc pc = .ok (.invokevirtual index, 3)) (hf : cells + mc ≤ R.cells ∧ slots + ms ≤ R.slots) :
    va_Run p l e R s m args below meth c H locs cells slots mc ms (F0 m pc ls st0) rest (Qc (Value.ref b :: As).toArray) (xA X) :=
  va_runVN (Ts := wy y bc nL ret) ⟨hx, hb, hml, hown, fun w hw => by rw [List.mem_singleton.mp hw]; exact hE.w q5 rfl args⟩ hM ⟨va_cnB n (fun w hw => by rw [List.mem_singleton.mp hw]; exact hE.w q5 rfl args) (good1 rfl) rfl rfl rfl (hE.w q1 rfl #[]) (hE.w q4 rfl args) hd hR, hE.w q2 rfl args, hE.w q3 rfl args⟩ ⟨Pre.blind, hrv, fun U hU hW => ⟨rfl, pre_of hE hz hP hD hS U hU hW⟩⟩ rfl hn hsz hst (lv_room hw) hdg hf
theorem run_S (hx : p.tables.exec = Jvm.exec) (hb : c.code = cc) (hml : c.maxLocals = nLc) (hown : s.vm.findClass own = some m.cls) (hE : Ev X s s.heap) (hz : xs X ≤ s.heap.size) (hM : CT X l y bc nL ret d mc ms As G Qc)
    (q1 : lw_tbl[i1]? = some (.methodLink own index y)) (q2 : lw_tbl[i2]? = some (.static y)) (q3 : lw_tbl[i3]? = some (.initialized y.cls)) (q4 : lw_tbl[i4]? = some (.code y bc nL ret))
    (hd : y.cls ≠ "java/lang/invoke/MethodHandle" ∧ y.cls ≠ "java/lang/invoke/VarHandle" ∧ (parseMethodDescriptor y.desc).map (fun d => d.parameters.length) = some n) (hR : d + 1 ≤ R.frames ∧ 8 + (nL + 11) + 40 * d ≤ R.locals)
    (hP : va_P (xD X) vwCl (pool X G) H) (hD : va_D (xA X) (pool X G)) (hS : va_S (xA X) s.heap H locs) (hn : As.length = n) (hsz : ls.size = nLc) (hst : st0 = As.reverse ++ rest) (hw : (rest.map fun v => v.category).sum ≤ 8) (hdg : decode cc pc = .ok (.invokestatic index, 3)) (hf : cells + mc ≤ R.cells ∧ slots + ms ≤ R.slots) :
    va_Run p l e R s m args below meth c H locs cells slots mc ms (F0 m pc ls st0) rest (Qc As.toArray) (xA X) :=
  va_runS (Ts := va_wsS own index y (wy y bc nL ret)) ⟨hx, hb, hml, hown, w4 hE q1 q2 q3 q4 rfl rfl rfl rfl⟩ hM (va_cwS n (w4 hE q1 q2 q3 q4 rfl rfl rfl rfl) (good4 rfl rfl rfl rfl) rfl rfl rfl hd hR) ⟨Pre.blind, fun U hU hW => ⟨rfl, pre_of hE hz hP hD hS U hU hW⟩⟩ rfl hn hsz hst (lv_room hw) hdg hf
theorem run_SN (hx : p.tables.exec = Jvm.exec) (hb : c.code = cc) (hml : c.maxLocals = nLc) (hown : s.vm.findClass own = some m.cls) (hE : Ev X s s.heap) (hz : xs X ≤ s.heap.size) (hM : CT X l y bc nL ret d mc ms As G Qc)
    (q1 : lw_tbl[i1]? = some (.methodLinkNest own index y host)) (q2 : lw_tbl[i2]? = some (.static y)) (q3 : lw_tbl[i3]? = some (.initialized y.cls)) (q4 : lw_tbl[i4]? = some (.code y bc nL ret))
    (hd : y.cls ≠ "java/lang/invoke/MethodHandle" ∧ y.cls ≠ "java/lang/invoke/VarHandle" ∧ (parseMethodDescriptor y.desc).map (fun d => d.parameters.length) = some n) (hR : d + 1 ≤ R.frames ∧ 8 + (nL + 11) + 40 * d ≤ R.locals)
    (hP : va_P (xD X) vwCl (pool X G) H) (hD : va_D (xA X) (pool X G)) (hS : va_S (xA X) s.heap H locs) (hn : As.length = n) (hsz : ls.size = nLc) (hst : st0 = As.reverse ++ rest) (hw : (rest.map fun v => v.category).sum ≤ 8) (hdg : decode cc pc = .ok (.invokestatic index, 3)) (hf : cells + mc ≤ R.cells ∧ slots + ms ≤ R.slots) :
    va_Run p l e R s m args below meth c H locs cells slots mc ms (F0 m pc ls st0) rest (Qc As.toArray) (xA X) :=
  va_runSN (Ts := wy y bc nL ret) ⟨hx, hb, hml, hown, fun w hw => by rw [List.mem_singleton.mp hw]; exact hE.w q4 rfl args⟩ hM ⟨va_cnB n (fun w hw => by rw [List.mem_singleton.mp hw]; exact hE.w q4 rfl args) (good1 rfl) rfl rfl rfl (hE.w q1 rfl #[]) (hE.w q3 rfl args) hd hR, hE.w q2 rfl args, trivial⟩ ⟨Pre.blind, fun U hU hW => ⟨rfl, pre_of hE hz hP hD hS U hU hW⟩⟩ rfl hn hsz hst (lv_room hw) hdg hf
theorem call_i {post : Int32 → GS → Prop} (hr : va_Run p l e R s m args below meth c H locs cells slots mc ms (F0 m pc ls st0) rest (Qi X post a) (xA X)) (hS : va_S (xA X) s.heap H locs)
    (kk : ∀ (r : Int32) (G1 : GS) (H1 : Heap) (locs1 : List Loc), post r G1 → va_P (xD X) vwCl (pool X G1) H1 → va_D (xA X) (pool X G1) → va_S (xA X) s.heap H1 locs1 → W p l e R s m args below meth c H1 locs1 (cells + mc) (slots + ms) Q (F0 m (pc + 3) ls (.int r :: rest))) : W p l e R s m args below meth c H locs cells slots Q (F0 m pc ls st0) :=
  va_calli hr hS (fun q _ h => h) (fun q h => h) (fun r u t H1 locs1 ht hvm hw hB hz1 hk1 hS1 => kk r u H1 locs1 hw (ht ▸ hB.1) hB.2 hS1)
theorem call_v {post : GS → Prop} (hr : va_Run p l e R s m args below meth c H locs cells slots mc ms (F0 m pc ls st0) rest (Qv X post a) (xA X)) (hS : va_S (xA X) s.heap H locs)
    (kk : ∀ (G1 : GS) (H1 : Heap) (locs1 : List Loc), post G1 → va_P (xD X) vwCl (pool X G1) H1 → va_D (xA X) (pool X G1) → va_S (xA X) s.heap H1 locs1 → W p l e R s m args below meth c H1 locs1 (cells + mc) (slots + ms) Q (F0 m (pc + 3) ls rest)) : W p l e R s m args below meth c H locs cells slots Q (F0 m pc ls st0) :=
  va_callv hr hS (fun q _ h => h) (fun q h => h) (fun u t H1 locs1 ht hvm hw hB hz1 hk1 hS1 => kk u H1 locs1 hw (ht ▸ hB.1) hB.2 hS1)
theorem call_f {post : UInt32 → GS → Prop} (hr : va_Run p l e R s m args below meth c H locs cells slots mc ms (F0 m pc ls st0) rest (Qf X post a) (xA X)) (hS : va_S (xA X) s.heap H locs)
    (kk : ∀ (r : UInt32) (G1 : GS) (H1 : Heap) (locs1 : List Loc), post r G1 → va_P (xD X) vwCl (pool X G1) H1 → va_D (xA X) (pool X G1) → va_S (xA X) s.heap H1 locs1 → W p l e R s m args below meth c H1 locs1 (cells + mc) (slots + ms) Q (F0 m (pc + 3) ls (.float r :: rest))) : W p l e R s m args below meth c H locs cells slots Q (F0 m pc ls st0) :=
  va_callf hr hS (fun q _ h => h) (fun q h => h) (fun r u t H1 locs1 ht hvm hw hB hz1 hk1 hS1 => kk r u H1 locs1 hw (ht ▸ hB.1) hB.2 hS1)
theorem call_d {post : UInt64 → GS → Prop} (hr : va_Run p l e R s m args below meth c H locs cells slots mc ms (F0 m pc ls st0) rest (Qd X post a) (xA X)) (hS : va_S (xA X) s.heap H locs)
    (kk : ∀ (r : UInt64) (G1 : GS) (H1 : Heap) (locs1 : List Loc), post r G1 → va_P (xD X) vwCl (pool X G1) H1 → va_D (xA X) (pool X G1) → va_S (xA X) s.heap H1 locs1 → W p l e R s m args below meth c H1 locs1 (cells + mc) (slots + ms) Q (F0 m (pc + 3) ls (.double r :: rest))) : W p l e R s m args below meth c H locs cells slots Q (F0 m pc ls st0) :=
  va_calld hr hS (fun q _ h => h) (fun q h => h) (fun r u t H1 locs1 ht hvm hw hB hz1 hk1 hS1 => kk r u H1 locs1 hw (ht ▸ hB.1) hB.2 hS1)
theorem call_r {f : Nat → Nat} {post : Nat → GS → Prop} (hr : va_Run p l e R s m args below meth c H locs cells slots mc ms (F0 m pc ls st0) rest (Qr X f post a) (xA X)) (hS : va_S (xA X) s.heap H locs)
    (kk : ∀ (i : Nat) (G1 : GS) (H1 : Heap) (locs1 : List Loc), post i G1 → va_P (xD X) vwCl (pool X G1) H1 → va_D (xA X) (pool X G1) → va_S (xA X) s.heap H1 locs1 → W p l e R s m args below meth c H1 locs1 (cells + mc) (slots + ms) Q (F0 m (pc + 3) ls (.ref (f i) :: rest))) : W p l e R s m args below meth c H locs cells slots Q (F0 m pc ls st0) :=
  va_callr hr hS (fun q _ h => h) (fun q h => h) (fun u ra t H1 locs1 ht hvm hw hB hz1 hk1 hS1 => by
    obtain ⟨i, G1⟩ := u
    obtain ⟨rfl, h1, h2⟩ := hB
    exact kk i G1 H1 locs1 hw (ht ▸ h1) h2 hS1)
theorem xrun_V (hx : p.tables.exec = Jvm.exec) (hb : c.code = cc) (hml : c.maxLocals = nLc) (hown : s.vm.findClass own = some m.cls) (hE : Ev X s s.heap) (hz : xs X ≤ s.heap.size) (hM : CX X l y bc nL ret d mc ms (.ref b :: As) G Qc xpost)
    (q1 : lw_tbl[i1]? = some (.methodLink own index y)) (q2 : lw_tbl[i2]? = some (.instanceMethod y)) (q3 : lw_tbl[i3]? = some (.selects C y y)) (q4 : lw_tbl[i4]? = some (.initialized C)) (q5 : lw_tbl[i5]? = some (.code y bc nL ret))
    (hd : y.cls = C ∧ y.cls ≠ "java/lang/invoke/MethodHandle" ∧ y.cls ≠ "java/lang/invoke/VarHandle" ∧ (parseMethodDescriptor y.desc).map (fun d => d.parameters.length) = some n) (hR : d + 1 ≤ R.frames ∧ 8 + (nL + 11) + 40 * d ≤ R.locals)
    (hrv : ∃ cell : Cell, H[b]? = some cell ∧ cell.vm.isStatics = false ∧ s.vm.findClass C = some cell.cls) (hP : va_P (xD X) vwCl (pool X G) H) (hD : va_D (xA X) (pool X G)) (hS : va_S (xA X) s.heap H locs) (hn : As.length = n) (hsz : ls.size = nLc) (hst : st0 = As.reverse ++ .ref b :: rest) (hw : (rest.map fun v => v.category).sum ≤ 8) (hdg : decode cc pc = .ok (.invokevirtual index, 3)) (hf : cells + mc ≤ R.cells ∧ slots + ms ≤ R.slots) :
    vx_Run p l e R s m args below meth c H locs cells slots mc ms (F0 m pc ls st0) rest (Qc (Value.ref b :: As).toArray) (XX X xpost) (xA X) :=
  vx_runV (Ts := wsV own index C y (wy y bc nL ret)) ⟨hx, hb, hml, hown, w5 hE q1 q2 q3 q4 q5 rfl rfl rfl rfl rfl⟩ hM (cwV n (w5 hE q1 q2 q3 q4 q5 rfl rfl rfl rfl rfl) (good5 rfl rfl rfl rfl rfl) rfl rfl rfl hd hR) ⟨Pre.blind, hrv, fun U hU hW => ⟨rfl, pre_of hE hz hP hD hS U hU hW⟩⟩ rfl hn hsz hst (lv_room hw) hdg hf
theorem xrun_S (hx : p.tables.exec = Jvm.exec) (hb : c.code = cc) (hml : c.maxLocals = nLc) (hown : s.vm.findClass own = some m.cls) (hE : Ev X s s.heap) (hz : xs X ≤ s.heap.size) (hM : CX X l y bc nL ret d mc ms As G Qc xpost)
    (q1 : lw_tbl[i1]? = some (.methodLink own index y)) (q2 : lw_tbl[i2]? = some (.static y)) (q3 : lw_tbl[i3]? = some (.initialized y.cls)) (q4 : lw_tbl[i4]? = some (.code y bc nL ret))
    (hd : y.cls ≠ "java/lang/invoke/MethodHandle" ∧ y.cls ≠ "java/lang/invoke/VarHandle" ∧ (parseMethodDescriptor y.desc).map (fun d => d.parameters.length) = some n) (hR : d + 1 ≤ R.frames ∧ 8 + (nL + 11) + 40 * d ≤ R.locals)
    (hP : va_P (xD X) vwCl (pool X G) H) (hD : va_D (xA X) (pool X G)) (hS : va_S (xA X) s.heap H locs) (hn : As.length = n) (hsz : ls.size = nLc) (hst : st0 = As.reverse ++ rest) (hw : (rest.map fun v => v.category).sum ≤ 8) (hdg : decode cc pc = .ok (.invokestatic index, 3)) (hf : cells + mc ≤ R.cells ∧ slots + ms ≤ R.slots) :
    vx_Run p l e R s m args below meth c H locs cells slots mc ms (F0 m pc ls st0) rest (Qc As.toArray) (XX X xpost) (xA X) :=
  vx_runS (Ts := va_wsS own index y (wy y bc nL ret)) ⟨hx, hb, hml, hown, w4 hE q1 q2 q3 q4 rfl rfl rfl rfl⟩ hM (va_cwS n (w4 hE q1 q2 q3 q4 rfl rfl rfl rfl) (good4 rfl rfl rfl rfl) rfl rfl rfl hd hR) ⟨Pre.blind, fun U hU hW => ⟨rfl, pre_of hE hz hP hD hS U hU hW⟩⟩ rfl hn hsz hst (lv_room hw) hdg hf
theorem xcall_i {post : Int32 → GS → Prop} (hr : vx_Run p l e R s m args below meth c H locs cells slots mc ms (F0 m pc ls st0) rest (Qi X post a) (XX X xpost) (xA X)) (hS : va_S (xA X) s.heap H locs)
    (kx : ∀ (E : String) (ce : Cell) (q9 : Addr) (G1 : GS) (H1 : Heap) (locs1 : List Loc), xpost E G1 → va_P (xD X) vwCl (pool X G1) H1 → va_D (xA X) (pool X G1) → va_S (xA X) s.heap H1 locs1 → H1[q9]? = some ce → ce.vm = .none → s.vm.findClass E = some ce.cls → vx_W p l e R s m args below meth c H1 locs1 (cells + mc) (slots + ms) Q (F0 m pc ls rest) q9)
    (kk : ∀ (r : Int32) (G1 : GS) (H1 : Heap) (locs1 : List Loc), post r G1 → va_P (xD X) vwCl (pool X G1) H1 → va_D (xA X) (pool X G1) → va_S (xA X) s.heap H1 locs1 → W p l e R s m args below meth c H1 locs1 (cells + mc) (slots + ms) Q (F0 m (pc + 3) ls (.int r :: rest))) : W p l e R s m args below meth c H locs cells slots Q (F0 m pc ls st0) :=
  vx_calli hr hS (fun q _ h => h) (fun q h => h) (fun q _ h => h) (fun E ce q9 u t H1 locs1 ht hvm hw hB hz1 hk1 hS1 h1 h2 h3 => by
    obtain ⟨rfl, g1, g2⟩ := hB
    exact kx _ ce q9 u.2 H1 locs1 hw (ht ▸ g1) g2 hS1 h1 h2 h3) (fun r u t H1 locs1 ht hvm hw hB hz1 hk1 hS1 => kk r u H1 locs1 hw (ht ▸ hB.1) hB.2 hS1)
theorem xcall_v {post : GS → Prop} (hr : vx_Run p l e R s m args below meth c H locs cells slots mc ms (F0 m pc ls st0) rest (Qv X post a) (XX X xpost) (xA X)) (hS : va_S (xA X) s.heap H locs)
    (kx : ∀ (E : String) (ce : Cell) (q9 : Addr) (G1 : GS) (H1 : Heap) (locs1 : List Loc), xpost E G1 → va_P (xD X) vwCl (pool X G1) H1 → va_D (xA X) (pool X G1) → va_S (xA X) s.heap H1 locs1 → H1[q9]? = some ce → ce.vm = .none → s.vm.findClass E = some ce.cls → vx_W p l e R s m args below meth c H1 locs1 (cells + mc) (slots + ms) Q (F0 m pc ls rest) q9)
    (kk : ∀ (G1 : GS) (H1 : Heap) (locs1 : List Loc), post G1 → va_P (xD X) vwCl (pool X G1) H1 → va_D (xA X) (pool X G1) → va_S (xA X) s.heap H1 locs1 → W p l e R s m args below meth c H1 locs1 (cells + mc) (slots + ms) Q (F0 m (pc + 3) ls rest)) : W p l e R s m args below meth c H locs cells slots Q (F0 m pc ls st0) :=
  vx_callv hr hS (fun q _ h => h) (fun q h => h) (fun q _ h => h) (fun E ce q9 u t H1 locs1 ht hvm hw hB hz1 hk1 hS1 h1 h2 h3 => by
    obtain ⟨rfl, g1, g2⟩ := hB
    exact kx _ ce q9 u.2 H1 locs1 hw (ht ▸ g1) g2 hS1 h1 h2 h3) (fun u t H1 locs1 ht hvm hw hB hz1 hk1 hS1 => kk u H1 locs1 hw (ht ▸ hB.1) hB.2 hS1)
theorem xcall_f {post : UInt32 → GS → Prop} (hr : vx_Run p l e R s m args below meth c H locs cells slots mc ms (F0 m pc ls st0) rest (Qf X post a) (XX X xpost) (xA X)) (hS : va_S (xA X) s.heap H locs)
    (kx : ∀ (E : String) (ce : Cell) (q9 : Addr) (G1 : GS) (H1 : Heap) (locs1 : List Loc), xpost E G1 → va_P (xD X) vwCl (pool X G1) H1 → va_D (xA X) (pool X G1) → va_S (xA X) s.heap H1 locs1 → H1[q9]? = some ce → ce.vm = .none → s.vm.findClass E = some ce.cls → vx_W p l e R s m args below meth c H1 locs1 (cells + mc) (slots + ms) Q (F0 m pc ls rest) q9)
    (kk : ∀ (r : UInt32) (G1 : GS) (H1 : Heap) (locs1 : List Loc), post r G1 → va_P (xD X) vwCl (pool X G1) H1 → va_D (xA X) (pool X G1) → va_S (xA X) s.heap H1 locs1 → W p l e R s m args below meth c H1 locs1 (cells + mc) (slots + ms) Q (F0 m (pc + 3) ls (.float r :: rest))) : W p l e R s m args below meth c H locs cells slots Q (F0 m pc ls st0) :=
  vx_callf hr hS (fun q _ h => h) (fun q h => h) (fun q _ h => h) (fun E ce q9 u t H1 locs1 ht hvm hw hB hz1 hk1 hS1 h1 h2 h3 => by
    obtain ⟨rfl, g1, g2⟩ := hB
    exact kx _ ce q9 u.2 H1 locs1 hw (ht ▸ g1) g2 hS1 h1 h2 h3) (fun r u t H1 locs1 ht hvm hw hB hz1 hk1 hS1 => kk r u H1 locs1 hw (ht ▸ hB.1) hB.2 hS1)
theorem xcall_d {post : UInt64 → GS → Prop} (hr : vx_Run p l e R s m args below meth c H locs cells slots mc ms (F0 m pc ls st0) rest (Qd X post a) (XX X xpost) (xA X)) (hS : va_S (xA X) s.heap H locs)
    (kx : ∀ (E : String) (ce : Cell) (q9 : Addr) (G1 : GS) (H1 : Heap) (locs1 : List Loc), xpost E G1 → va_P (xD X) vwCl (pool X G1) H1 → va_D (xA X) (pool X G1) → va_S (xA X) s.heap H1 locs1 → H1[q9]? = some ce → ce.vm = .none → s.vm.findClass E = some ce.cls → vx_W p l e R s m args below meth c H1 locs1 (cells + mc) (slots + ms) Q (F0 m pc ls rest) q9)
    (kk : ∀ (r : UInt64) (G1 : GS) (H1 : Heap) (locs1 : List Loc), post r G1 → va_P (xD X) vwCl (pool X G1) H1 → va_D (xA X) (pool X G1) → va_S (xA X) s.heap H1 locs1 → W p l e R s m args below meth c H1 locs1 (cells + mc) (slots + ms) Q (F0 m (pc + 3) ls (.double r :: rest))) : W p l e R s m args below meth c H locs cells slots Q (F0 m pc ls st0) :=
  vx_calld hr hS (fun q _ h => h) (fun q h => h) (fun q _ h => h) (fun E ce q9 u t H1 locs1 ht hvm hw hB hz1 hk1 hS1 h1 h2 h3 => by
    obtain ⟨rfl, g1, g2⟩ := hB
    exact kx _ ce q9 u.2 H1 locs1 hw (ht ▸ g1) g2 hS1 h1 h2 h3) (fun r u t H1 locs1 ht hvm hw hB hz1 hk1 hS1 => kk r u H1 locs1 hw (ht ▸ hB.1) hB.2 hS1)
theorem xcall_r {f : Nat → Nat} {post : Nat → GS → Prop} (hr : vx_Run p l e R s m args below meth c H locs cells slots mc ms (F0 m pc ls st0) rest (Qr X f post a) (XX X xpost) (xA X)) (hS : va_S (xA X) s.heap H locs)
    (kx : ∀ (E : String) (ce : Cell) (q9 : Addr) (G1 : GS) (H1 : Heap) (locs1 : List Loc), xpost E G1 → va_P (xD X) vwCl (pool X G1) H1 → va_D (xA X) (pool X G1) → va_S (xA X) s.heap H1 locs1 → H1[q9]? = some ce → ce.vm = .none → s.vm.findClass E = some ce.cls → vx_W p l e R s m args below meth c H1 locs1 (cells + mc) (slots + ms) Q (F0 m pc ls rest) q9)
    (kk : ∀ (i : Nat) (G1 : GS) (H1 : Heap) (locs1 : List Loc), post i G1 → va_P (xD X) vwCl (pool X G1) H1 → va_D (xA X) (pool X G1) → va_S (xA X) s.heap H1 locs1 → W p l e R s m args below meth c H1 locs1 (cells + mc) (slots + ms) Q (F0 m (pc + 3) ls (.ref (f i) :: rest))) : W p l e R s m args below meth c H locs cells slots Q (F0 m pc ls st0) := by
  intro T hT X0
  rcases hr T hT X0 with ⟨v, st₀, t, T', L, h0, X', hL, e1, e2, ⟨⟨u, ra, hv, hp, hb⟩, hF⟩, st⟩ | ⟨q, st₀, t, T', L, E, ce, h0, X', hL, e1, e2, ⟨u, hp, hb, hF⟩, hce, hcv, hcl, st⟩
  · cases hv
    obtain ⟨k1, k2, k3⟩ := vx_keep h0 e1 hS (fun q _ h => h) (fun q h => h) hL hF
    obtain ⟨i, G1⟩ := u
    obtain ⟨rfl, g1, g2⟩ := hb
    obtain ⟨t2, a1, b1⟩ := kk i G1 T'.heap (locs ++ L) hp (e1 ▸ g1) g2 k3 T' rfl X'
    exact ⟨t2, st t2 a1, b1⟩
  · obtain ⟨k1, k2, k3⟩ := vx_keep h0 e1 hS (fun q _ h => h) (fun q h => h) hL hF
    obtain ⟨rfl, g1, g2⟩ := hb
    obtain ⟨t2, a1, b1⟩ := kx _ ce q u.2 T'.heap (locs ++ L) hp (e1 ▸ g1) g2 k3 (by rw [e1]; exact hce) hcv hcl T' rfl X'
    exact ⟨t2, st.trans a1, b1⟩
/-- thrown on to the caller -/
theorem xout {E : String} {ce : Cell} {q9 : Addr} {G1 : GS} {kc ks : Nat} (hno : ∀ x ∈ c.exceptionTable.toList, False) (hlocks : meth.locks = false) (hcell : H[q9]? = some ce) (hv : ce.vm = .none) (hcl : s.vm.findClass E = some ce.cls) (hw : xpost E G1) (hP : va_P (xD X) vwCl (pool X G1) H) (hD : va_D (xA X) (pool X G1)) (hS : va_S (xA X) s.heap H locs) (h1 : cells ≤ kc) (h2 : slots ≤ ks) :
    vx_W p l e R s m args below meth c H locs cells slots (vx_MQ below Qc (XX X xpost) args s kc ks (xA X)) (F0 m pc ls rest) q9 :=
  vx_out (fun x hx => (hno x hx).elim) hlocks hcell hv hcl (fun t ht hvm => ⟨(E, G1), hw, ⟨rfl, by rw [ht]; exact hP, hD⟩, hS.F ht⟩) hS.2.2 h1 h2
end RUN
