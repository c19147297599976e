def wpOrd (post : Int32 → GS → Prop) (i : Nat) (G : GS) : Prop := post (nI i) G
section SPEC
variable {p : Program} {l : Launch} {e : Env} {R : Room} {s : State} {m : MethodId} {args : Array Value} {below : List Frame} {meth : Method} {c : Code} {H : Heap} {locs : List Loc} {cells slots : Nat} {Q : State → Prop} {cc : ByteArray} {pc : Nat} {ls : Array Slot} {rest : List Value} {X : Cx} {G : GS} {own C host : String} {index q : Nat} {mc ms d n nL nLc b : Nat} {y : MethodName} {bc : ByteArray} {ret : Option FieldType} {As st0 : List Value} {a : Array Value} {Qc : Array Value → State → Outcome → State → Prop} {xpost : String → GS → Prop} {i1 i2 i3 i4 i5 i6 : Nat}
/-! ordinal, the throws, a call of a superclass; printed by wip/whole/gen/gen_spec.py -/
set_option maxHeartbeats 4000000 in
theorem ok_ord0 (X : Cx) (l : Launch) {post : Int32 → GS → Prop} {i : Nat} {G : GS} (hi : i < 5) (hw : post (nI i) G) : CT X l yJx29ce0_ordinal_8abf5 cJx29ce0_ordinal_8abf5 1 (some .int) 1 0 0 [.ref (xk X 0 i)] G (Qi X post) := by
  refine mbegin (by decide) (Nat.le_of_ble_eq_true rfl) (fun p e s m below meth c hx hb hr hml hlk hown hE hz ls hl hP hD hS => ?_)
  have hl : lv_has ls 1 [(0, .ref (xk X 0 i))] := hl
  have hown : s.vm.findClass "java/lang/Enum" = some m.cls := hown
  refine lv_aload_n hx hb dJx29ce0_ordinal_8abf5_0 rfl (lv_at hl 0 rfl) ?_
  refine vk_getf hx hb (en_O0 hE hi) hS hown (hE.w qw_2104 rfl _) (fun _ h9 => h9) dJx29ce0_ordinal_8abf5_1 ?_
  exact end_i hx hb hr hlk rfl hw hP hD hS dJx29ce0_ordinal_8abf5_4
theorem run_ord0 {post : Int32 → GS → Prop} {i : Nat} (hx : p.tables.exec = Jvm.exec) (hb : c.code = cc) (hml : c.maxLocals = nLc) (hown : s.vm.findClass own = some m.cls) (hE : Ev X s s.heap) (hz : xs X ≤ s.heap.size) (hi : i < 5)
    (q1 : lw_tbl[i1]? = some (.methodLink own index ⟨"FlyTreasury$Refusal", "ordinal", "()I"⟩)) (q2 : lw_tbl[i2]? = some (.sameMethod "FlyTreasury$Refusal" "java/lang/Enum" "ordinal" "()I")) (q3 : lw_tbl[i3]? = some (.selects "FlyTreasury$Refusal" ⟨"FlyTreasury$Refusal", "ordinal", "()I"⟩ yJx29ce0_ordinal_8abf5))
    (hP : va_P (xD X) vwCl (pool X G) H) (hD : va_D (xA X) (pool X G)) (hS : va_S (xA X) s.heap H locs) (hsz : ls.size = nLc) (hw : (rest.map fun v => v.category).sum ≤ 8) (hdg : decode cc pc = .ok (.invokevirtual index, 3)) (hR : 1 + 1 ≤ R.frames ∧ 8 + (1 + 11) + 40 * 1 ≤ R.locals) (hf : cells + 0 ≤ R.cells ∧ slots + 0 ≤ R.slots) (hq : wpOrd post i G) :
    va_Run p l e R s m args below meth c H locs cells slots 0 0 (F0 m pc ls (.ref (xk X 0 i) :: rest)) rest (Qi X post [Value.ref (xk X 0 i)].toArray) (xA X) := by
  have hts : ∀ w ∈ va_wsU own index "FlyTreasury$Refusal" "java/lang/Enum" ⟨"FlyTreasury$Refusal", "ordinal", "()I"⟩ yJx29ce0_ordinal_8abf5 (wy yJx29ce0_ordinal_8abf5 cJx29ce0_ordinal_8abf5 1 (some .int)), w.before args s = true := by
    intro w hw
    simp only [va_wsU, wy, List.cons_append, List.nil_append, List.mem_cons, List.not_mem_nil, or_false] at hw
    rcases hw with rfl | rfl | rfl | rfl | rfl | rfl
    · exact hE.w q1 rfl args
    · exact hE.w q2 rfl args
    · exact hE.w q3 rfl args
    · exact hE.w qw_882 rfl args
    · exact hE.w qw_80 rfl args
    · exact hE.w qw_883 rfl args
  have hG : GoodIn (va_wsU own index "FlyTreasury$Refusal" "java/lang/Enum" ⟨"FlyTreasury$Refusal", "ordinal", "()I"⟩ yJx29ce0_ordinal_8abf5 (wy yJx29ce0_ordinal_8abf5 cJx29ce0_ordinal_8abf5 1 (some .int))) (va_wsU own index "FlyTreasury$Refusal" "java/lang/Enum" ⟨"FlyTreasury$Refusal", "ordinal", "()I"⟩ yJx29ce0_ordinal_8abf5 (wy yJx29ce0_ordinal_8abf5 cJx29ce0_ordinal_8abf5 1 (some .int))) := by
    intro w hw
    refine ⟨hw, good_of_word ?_⟩
    simp only [va_wsU, wy, List.cons_append, List.nil_append, List.mem_cons, List.not_mem_nil, or_false] at hw
    rcases hw with rfl | rfl | rfl | rfl | rfl | rfl <;> rfl
  refine va_runU (As := []) (rest := rest) (Ts := va_wsU own index "FlyTreasury$Refusal" "java/lang/Enum" ⟨"FlyTreasury$Refusal", "ordinal", "()I"⟩ yJx29ce0_ordinal_8abf5 (wy yJx29ce0_ordinal_8abf5 cJx29ce0_ordinal_8abf5 1 (some .int))) ⟨hx, hb, hml, hown, hts⟩ (ok_ord0 X l hi hq) (va_cwU 0 hts hG rfl rfl rfl rfl (by decide +kernel) hR) ⟨Pre.blind, va_Orecv (hE.e0.1 i hi).2.1 hS, fun U hU hW => ⟨rfl, pre_of hE hz hP hD hS U hU hW⟩⟩ rfl rfl hsz rfl (lv_room hw) hdg hf
set_option maxHeartbeats 4000000 in
theorem ok_ord1 (X : Cx) (l : Launch) {post : Int32 → GS → Prop} {i : Nat} {G : GS} (hi : i < 10) (hw : post (nI i) G) : CT X l yJx29ce0_ordinal_8abf5 cJx29ce0_ordinal_8abf5 1 (some .int) 1 0 0 [.ref (xk X 1 i)] G (Qi X post) := by
  refine mbegin (by decide) (Nat.le_of_ble_eq_true rfl) (fun p e s m below meth c hx hb hr hml hlk hown hE hz ls hl hP hD hS => ?_)
  have hl : lv_has ls 1 [(0, .ref (xk X 1 i))] := hl
  have hown : s.vm.findClass "java/lang/Enum" = some m.cls := hown
  refine lv_aload_n hx hb dJx29ce0_ordinal_8abf5_0 rfl (lv_at hl 0 rfl) ?_
  refine vk_getf hx hb (en_O1 hE hi) hS hown (hE.w qw_2104 rfl _) (fun _ h9 => h9) dJx29ce0_ordinal_8abf5_1 ?_
  exact end_i hx hb hr hlk rfl hw hP hD hS dJx29ce0_ordinal_8abf5_4
theorem run_ord1 {post : Int32 → GS → Prop} {i : Nat} (hx : p.tables.exec = Jvm.exec) (hb : c.code = cc) (hml : c.maxLocals = nLc) (hown : s.vm.findClass own = some m.cls) (hE : Ev X s s.heap) (hz : xs X ≤ s.heap.size) (hi : i < 10)
    (q1 : lw_tbl[i1]? = some (.methodLink own index ⟨"FlyTreasury$Command", "ordinal", "()I"⟩)) (q2 : lw_tbl[i2]? = some (.sameMethod "FlyTreasury$Command" "java/lang/Enum" "ordinal" "()I")) (q3 : lw_tbl[i3]? = some (.selects "FlyTreasury$Command" ⟨"FlyTreasury$Command", "ordinal", "()I"⟩ yJx29ce0_ordinal_8abf5))
    (hP : va_P (xD X) vwCl (pool X G) H) (hD : va_D (xA X) (pool X G)) (hS : va_S (xA X) s.heap H locs) (hsz : ls.size = nLc) (hw : (rest.map fun v => v.category).sum ≤ 8) (hdg : decode cc pc = .ok (.invokevirtual index, 3)) (hR : 1 + 1 ≤ R.frames ∧ 8 + (1 + 11) + 40 * 1 ≤ R.locals) (hf : cells + 0 ≤ R.cells ∧ slots + 0 ≤ R.slots) (hq : wpOrd post i G) :
    va_Run p l e R s m args below meth c H locs cells slots 0 0 (F0 m pc ls (.ref (xk X 1 i) :: rest)) rest (Qi X post [Value.ref (xk X 1 i)].toArray) (xA X) := by
  have hts : ∀ w ∈ va_wsU own index "FlyTreasury$Command" "java/lang/Enum" ⟨"FlyTreasury$Command", "ordinal", "()I"⟩ yJx29ce0_ordinal_8abf5 (wy yJx29ce0_ordinal_8abf5 cJx29ce0_ordinal_8abf5 1 (some .int)), w.before args s = true := by
    intro w hw
    simp only [va_wsU, wy, List.cons_append, List.nil_append, List.mem_cons, List.not_mem_nil, or_false] at hw
    rcases hw with rfl | rfl | rfl | rfl | rfl | rfl
    · exact hE.w q1 rfl args
    · exact hE.w q2 rfl args
    · exact hE.w q3 rfl args
    · exact hE.w qw_882 rfl args
    · exact hE.w qw_80 rfl args
    · exact hE.w qw_883 rfl args
  have hG : GoodIn (va_wsU own index "FlyTreasury$Command" "java/lang/Enum" ⟨"FlyTreasury$Command", "ordinal", "()I"⟩ yJx29ce0_ordinal_8abf5 (wy yJx29ce0_ordinal_8abf5 cJx29ce0_ordinal_8abf5 1 (some .int))) (va_wsU own index "FlyTreasury$Command" "java/lang/Enum" ⟨"FlyTreasury$Command", "ordinal", "()I"⟩ yJx29ce0_ordinal_8abf5 (wy yJx29ce0_ordinal_8abf5 cJx29ce0_ordinal_8abf5 1 (some .int))) := by
    intro w hw
    refine ⟨hw, good_of_word ?_⟩
    simp only [va_wsU, wy, List.cons_append, List.nil_append, List.mem_cons, List.not_mem_nil, or_false] at hw
    rcases hw with rfl | rfl | rfl | rfl | rfl | rfl <;> rfl
  refine va_runU (As := []) (rest := rest) (Ts := va_wsU own index "FlyTreasury$Command" "java/lang/Enum" ⟨"FlyTreasury$Command", "ordinal", "()I"⟩ yJx29ce0_ordinal_8abf5 (wy yJx29ce0_ordinal_8abf5 cJx29ce0_ordinal_8abf5 1 (some .int))) ⟨hx, hb, hml, hown, hts⟩ (ok_ord1 X l hi hq) (va_cwU 0 hts hG rfl rfl rfl rfl (by decide +kernel) hR) ⟨Pre.blind, va_Orecv (hE.e1.1 i hi).2.1 hS, fun U hU hW => ⟨rfl, pre_of hE hz hP hD hS U hU hW⟩⟩ rfl rfl hsz rfl (lv_room hw) hdg hf
def xnames : List String := ["java/lang/RuntimeException", "java/lang/Exception"]
theorem xw_IO : ∀ w ∈ vx_atS "FlyTreasury" 290 "java/lang/IndexOutOfBoundsException" xnames, w ∈ lw_tbl := us_of [89, 668, 677, 686, 689, 691, 669, 670, 115, 116, 671, 676, 687, 712, 658, 713, 660, 714, 662, 672, 674, 664, 708, 709, 711, 664, 748, 749, 750, 702, 650, 702, 703, 704, 705, 652, 705, 706, 707, 708, 654, 894, 885, 886, 887, 682, 888, 889, 890, 891, 710, 666, 892] (by decide +kernel)
theorem xg_IO : (vx_atS "FlyTreasury" 290 "java/lang/IndexOutOfBoundsException" xnames).all okw = true := by decide +kernel
theorem xo_IO {ik : Nat} : ∀ w ∈ Cond.classLink "FlyTreasury" ik "java/lang/IndexOutOfBoundsException" :: Cond.initialized "java/lang/IndexOutOfBoundsException" :: vx_atS "FlyTreasury" 290 "java/lang/IndexOutOfBoundsException" xnames, vx_ot w = true := by
  have h : (vx_atS "FlyTreasury" 290 "java/lang/IndexOutOfBoundsException" xnames).all vx_ot = true := by decide +kernel
  intro w hw
  rcases List.mem_cons.mp hw with rfl | hw
  · rfl
  · rcases List.mem_cons.mp hw with rfl | hw
    · rfl
    · exact List.all_eq_true.mp h w hw
theorem xw_IA : ∀ w ∈ vx_atS "FlyTreasury" 296 "java/lang/IllegalArgumentException" xnames, w ∈ lw_tbl := us_of [89, 668, 677, 686, 689, 691, 669, 670, 115, 116, 671, 676, 687, 712, 658, 713, 660, 714, 662, 672, 674, 664, 708, 709, 711, 664, 699, 700, 701, 702, 650, 702, 703, 704, 705, 652, 705, 706, 707, 708, 654, 899, 647, 648, 655, 656, 657, 659, 661, 663, 710, 666, 665] (by decide +kernel)
theorem xg_IA : (vx_atS "FlyTreasury" 296 "java/lang/IllegalArgumentException" xnames).all okw = true := by decide +kernel
theorem xo_IA {ik : Nat} : ∀ w ∈ Cond.classLink "FlyTreasury" ik "java/lang/IllegalArgumentException" :: Cond.initialized "java/lang/IllegalArgumentException" :: vx_atS "FlyTreasury" 296 "java/lang/IllegalArgumentException" xnames, vx_ot w = true := by
  have h : (vx_atS "FlyTreasury" 296 "java/lang/IllegalArgumentException" xnames).all vx_ot = true := by decide +kernel
  intro w hw
  rcases List.mem_cons.mp hw with rfl | hw
  · rfl
  · rcases List.mem_cons.mp hw with rfl | hw
    · rfl
    · exact List.all_eq_true.mp h w hw
theorem xw_IS : ∀ w ∈ vx_atS "FlyTreasury" 303 "java/lang/IllegalStateException" xnames, w ∈ lw_tbl := us_of [89, 668, 677, 686, 689, 691, 669, 670, 115, 116, 671, 676, 687, 712, 658, 713, 660, 714, 662, 672, 674, 664, 708, 709, 711, 664, 911, 912, 913, 702, 650, 702, 703, 704, 705, 652, 705, 706, 707, 708, 654, 910, 901, 902, 903, 681, 904, 905, 906, 907, 710, 666, 908] (by decide +kernel)
theorem xg_IS : (vx_atS "FlyTreasury" 303 "java/lang/IllegalStateException" xnames).all okw = true := by decide +kernel
theorem xo_IS {ik : Nat} : ∀ w ∈ Cond.classLink "FlyTreasury" ik "java/lang/IllegalStateException" :: Cond.initialized "java/lang/IllegalStateException" :: vx_atS "FlyTreasury" 303 "java/lang/IllegalStateException" xnames, vx_ot w = true := by
  have h : (vx_atS "FlyTreasury" 303 "java/lang/IllegalStateException" xnames).all vx_ot = true := by decide +kernel
  intro w hw
  rcases List.mem_cons.mp hw with rfl | hw
  · rfl
  · rcases List.mem_cons.mp hw with rfl | hw
    · rfl
    · exact List.all_eq_true.mp h w hw
theorem xw_UO : ∀ w ∈ vx_atS "FlyTreasury" 372 "java/lang/UnsupportedOperationException" xnames, w ∈ lw_tbl := us_of [89, 668, 677, 686, 689, 691, 669, 670, 115, 116, 671, 676, 687, 712, 658, 713, 660, 714, 662, 672, 674, 664, 708, 709, 711, 664, 927, 928, 929, 702, 650, 702, 703, 704, 705, 652, 705, 706, 707, 708, 654, 926, 917, 918, 919, 684, 920, 921, 922, 923, 710, 666, 924] (by decide +kernel)
theorem xg_UO : (vx_atS "FlyTreasury" 372 "java/lang/UnsupportedOperationException" xnames).all okw = true := by decide +kernel
theorem xo_UO {ik : Nat} : ∀ w ∈ Cond.classLink "FlyTreasury" ik "java/lang/UnsupportedOperationException" :: Cond.initialized "java/lang/UnsupportedOperationException" :: vx_atS "FlyTreasury" 372 "java/lang/UnsupportedOperationException" xnames, vx_ot w = true := by
  have h : (vx_atS "FlyTreasury" 372 "java/lang/UnsupportedOperationException" xnames).all vx_ot = true := by decide +kernel
  intro w hw
  rcases List.mem_cons.mp hw with rfl | hw
  · rfl
  · rcases List.mem_cons.mp hw with rfl | hw
    · rfl
    · exact List.all_eq_true.mp h w hw
theorem xw_AE : ∀ w ∈ vx_atS "FlyTreasury" 257 "java/lang/ArithmeticException" xnames, w ∈ lw_tbl := us_of [89, 668, 677, 686, 689, 691, 669, 670, 115, 116, 671, 676, 687, 712, 658, 713, 660, 714, 662, 672, 674, 664, 708, 709, 711, 664, 1380, 1381, 1382, 702, 650, 702, 703, 704, 705, 652, 705, 706, 707, 708, 654, 1398, 1379, 1390, 1391, 679, 1385, 1386, 1388, 1384, 710, 666, 1383] (by decide +kernel)
theorem xg_AE : (vx_atS "FlyTreasury" 257 "java/lang/ArithmeticException" xnames).all okw = true := by decide +kernel
theorem xo_AE {ik : Nat} : ∀ w ∈ Cond.classLink "FlyTreasury" ik "java/lang/ArithmeticException" :: Cond.initialized "java/lang/ArithmeticException" :: vx_atS "FlyTreasury" 257 "java/lang/ArithmeticException" xnames, vx_ot w = true := by
  have h : (vx_atS "FlyTreasury" 257 "java/lang/ArithmeticException" xnames).all vx_ot = true := by decide +kernel
  intro w hw
  rcases List.mem_cons.mp hw with rfl | hw
  · rfl
  · rcases List.mem_cons.mp hw with rfl | hw
    · rfl
    · exact List.all_eq_true.mp h w hw
theorem thr_IO {text : String} {ik is sa kc ks : Nat} (hx : p.tables.exec = Jvm.exec) (hb : c.code = cc) (hfl : l.stackTraces = false) (hown : s.vm.findClass "FlyTreasury" = some m.cls) (hE : Ev X s s.heap) (hP : va_P (xD X) vwCl (pool X G) H) (hD : va_D (xA X) (pool X G)) (hS : va_S (xA X) s.heap H locs) (hsz : ls.size = nLc) (hml : c.maxLocals = nLc) (hstr : vk_R "FlyTreasury" is text sa s) (hk : (Cond.classLink "FlyTreasury" ik "java/lang/IndexOutOfBoundsException").before args s = true) (hini : (Cond.initialized "java/lang/IndexOutOfBoundsException").before args s = true)
    (d0 : decode cc pc = .ok (.new ik, 3)) (d3 : decode cc (pc + 3) = .ok (.dup, 1)) (d4 : decode cc (pc + 4) = .ok (.ldc is, 2)) (d6 : decode cc (pc + 6) = .ok (.invokespecial 290, 3)) (d9 : decode cc (pc + 9) = .ok (.athrow, 1)) (hno : ∀ x ∈ c.exceptionTable.toList, False) (hF : 2 + 3 < R.frames) (hL : (rest.map fun v => v.category).sum + (13 * (2 + 1) + 43) ≤ R.locals) (hc : cells + 1 ≤ R.cells) (hs : slots + 6 ≤ R.slots) (hlk : meth.locks = false) (hw : xpost "java/lang/IndexOutOfBoundsException" G) (hc2 : cells + 1 ≤ kc) (hs2 : slots + 6 ≤ ks) :
    W p l e R s m args below meth c H locs cells slots (vx_MQ below Qc (XX X xpost) args s kc ks (xA X)) (F0 m pc ls rest) :=
  vx_throwS (names := xnames) (A := xA X) hx hb hfl hown (by decide +kernel) (by decide +kernel) hk hini hstr (hE.ws xw_IO xg_IO args) xo_IO hE.un hE.su hS (hsz.trans hml.symm) d0 d3 d4 d6 d9 (fun x hx => (hno x hx).elim) hF hL hc hs hlk
    (fun t hv hz9 hk9 => ⟨("java/lang/IndexOutOfBoundsException", G), hw, ⟨rfl, hP.kept (fun k q hq => hk9 _ (hP k q hq).lt), hD⟩, ⟨Nat.le_trans hS.1 hz9, fun q h1 h2 => by rw [hk9 q (Nat.lt_of_lt_of_le h1 hS.1)]; exact hS.2.1 q h1 h2⟩⟩) hS.2.2 hc2 hs2
theorem thrW_IO {text : String} {ik is sa kc ks : Nat} (hx : p.tables.exec = Jvm.exec) (hb : c.code = cc) (hfl : l.stackTraces = false) (hown : s.vm.findClass "FlyTreasury" = some m.cls) (hE : Ev X s s.heap) (hP : va_P (xD X) vwCl (pool X G) H) (hD : va_D (xA X) (pool X G)) (hS : va_S (xA X) s.heap H locs) (hsz : ls.size = nLc) (hml : c.maxLocals = nLc) (hstr : vk_R "FlyTreasury" is text sa s) (hk : (Cond.classLink "FlyTreasury" ik "java/lang/IndexOutOfBoundsException").before args s = true) (hini : (Cond.initialized "java/lang/IndexOutOfBoundsException").before args s = true)
    (d0 : decode cc pc = .ok (.new ik, 3)) (d3 : decode cc (pc + 3) = .ok (.dup, 1)) (d4 : decode cc (pc + 4) = .ok (.ldc_w is, 3)) (d6 : decode cc (pc + 7) = .ok (.invokespecial 290, 3)) (d9 : decode cc (pc + 10) = .ok (.athrow, 1)) (hno : ∀ x ∈ c.exceptionTable.toList, False) (hF : 2 + 3 < R.frames) (hL : (rest.map fun v => v.category).sum + (13 * (2 + 1) + 43) ≤ R.locals) (hc : cells + 1 ≤ R.cells) (hs : slots + 6 ≤ R.slots) (hlk : meth.locks = false) (hw : xpost "java/lang/IndexOutOfBoundsException" G) (hc2 : cells + 1 ≤ kc) (hs2 : slots + 6 ≤ ks) :
    W p l e R s m args below meth c H locs cells slots (vx_MQ below Qc (XX X xpost) args s kc ks (xA X)) (F0 m pc ls rest) :=
  vx_throwSW (names := xnames) (A := xA X) hx hb hfl hown (by decide +kernel) (by decide +kernel) hk hini hstr (hE.ws xw_IO xg_IO args) xo_IO hE.un hE.su hS (hsz.trans hml.symm) d0 d3 d4 d6 d9 (fun x hx => (hno x hx).elim) hF hL hc hs hlk
    (fun t hv hz9 hk9 => ⟨("java/lang/IndexOutOfBoundsException", G), hw, ⟨rfl, hP.kept (fun k q hq => hk9 _ (hP k q hq).lt), hD⟩, ⟨Nat.le_trans hS.1 hz9, fun q h1 h2 => by rw [hk9 q (Nat.lt_of_lt_of_le h1 hS.1)]; exact hS.2.1 q h1 h2⟩⟩) hS.2.2 hc2 hs2
theorem thr_IA {text : String} {ik is sa kc ks : Nat} (hx : p.tables.exec = Jvm.exec) (hb : c.code = cc) (hfl : l.stackTraces = false) (hown : s.vm.findClass "FlyTreasury" = some m.cls) (hE : Ev X s s.heap) (hP : va_P (xD X) vwCl (pool X G) H) (hD : va_D (xA X) (pool X G)) (hS : va_S (xA X) s.heap H locs) (hsz : ls.size = nLc) (hml : c.maxLocals = nLc) (hstr : vk_R "FlyTreasury" is text sa s) (hk : (Cond.classLink "FlyTreasury" ik "java/lang/IllegalArgumentException").before args s = true) (hini : (Cond.initialized "java/lang/IllegalArgumentException").before args s = true)
    (d0 : decode cc pc = .ok (.new ik, 3)) (d3 : decode cc (pc + 3) = .ok (.dup, 1)) (d4 : decode cc (pc + 4) = .ok (.ldc is, 2)) (d6 : decode cc (pc + 6) = .ok (.invokespecial 296, 3)) (d9 : decode cc (pc + 9) = .ok (.athrow, 1)) (hno : ∀ x ∈ c.exceptionTable.toList, False) (hF : 2 + 3 < R.frames) (hL : (rest.map fun v => v.category).sum + (13 * (2 + 1) + 43) ≤ R.locals) (hc : cells + 1 ≤ R.cells) (hs : slots + 6 ≤ R.slots) (hlk : meth.locks = false) (hw : xpost "java/lang/IllegalArgumentException" G) (hc2 : cells + 1 ≤ kc) (hs2 : slots + 6 ≤ ks) :
    W p l e R s m args below meth c H locs cells slots (vx_MQ below Qc (XX X xpost) args s kc ks (xA X)) (F0 m pc ls rest) :=
  vx_throwS (names := xnames) (A := xA X) hx hb hfl hown (by decide +kernel) (by decide +kernel) hk hini hstr (hE.ws xw_IA xg_IA args) xo_IA hE.un hE.su hS (hsz.trans hml.symm) d0 d3 d4 d6 d9 (fun x hx => (hno x hx).elim) hF hL hc hs hlk
    (fun t hv hz9 hk9 => ⟨("java/lang/IllegalArgumentException", G), hw, ⟨rfl, hP.kept (fun k q hq => hk9 _ (hP k q hq).lt), hD⟩, ⟨Nat.le_trans hS.1 hz9, fun q h1 h2 => by rw [hk9 q (Nat.lt_of_lt_of_le h1 hS.1)]; exact hS.2.1 q h1 h2⟩⟩) hS.2.2 hc2 hs2
theorem thrW_IA {text : String} {ik is sa kc ks : Nat} (hx : p.tables.exec = Jvm.exec) (hb : c.code = cc) (hfl : l.stackTraces = false) (hown : s.vm.findClass "FlyTreasury" = some m.cls) (hE : Ev X s s.heap) (hP : va_P (xD X) vwCl (pool X G) H) (hD : va_D (xA X) (pool X G)) (hS : va_S (xA X) s.heap H locs) (hsz : ls.size = nLc) (hml : c.maxLocals = nLc) (hstr : vk_R "FlyTreasury" is text sa s) (hk : (Cond.classLink "FlyTreasury" ik "java/lang/IllegalArgumentException").before args s = true) (hini : (Cond.initialized "java/lang/IllegalArgumentException").before args s = true)
    (d0 : decode cc pc = .ok (.new ik, 3)) (d3 : decode cc (pc + 3) = .ok (.dup, 1)) (d4 : decode cc (pc + 4) = .ok (.ldc_w is, 3)) (d6 : decode cc (pc + 7) = .ok (.invokespecial 296, 3)) (d9 : decode cc (pc + 10) = .ok (.athrow, 1)) (hno : ∀ x ∈ c.exceptionTable.toList, False) (hF : 2 + 3 < R.frames) (hL : (rest.map fun v => v.category).sum + (13 * (2 + 1) + 43) ≤ R.locals) (hc : cells + 1 ≤ R.cells) (hs : slots + 6 ≤ R.slots) (hlk : meth.locks = false) (hw : xpost "java/lang/IllegalArgumentException" G) (hc2 : cells + 1 ≤ kc) (hs2 : slots + 6 ≤ ks) :
    W p l e R s m args below meth c H locs cells slots (vx_MQ below Qc (XX X xpost) args s kc ks (xA X)) (F0 m pc ls rest) :=
  vx_throwSW (names := xnames) (A := xA X) hx hb hfl hown (by decide +kernel) (by decide +kernel) hk hini hstr (hE.ws xw_IA xg_IA args) xo_IA hE.un hE.su hS (hsz.trans hml.symm) d0 d3 d4 d6 d9 (fun x hx => (hno x hx).elim) hF hL hc hs hlk
    (fun t hv hz9 hk9 => ⟨("java/lang/IllegalArgumentException", G), hw, ⟨rfl, hP.kept (fun k q hq => hk9 _ (hP k q hq).lt), hD⟩, ⟨Nat.le_trans hS.1 hz9, fun q h1 h2 => by rw [hk9 q (Nat.lt_of_lt_of_le h1 hS.1)]; exact hS.2.1 q h1 h2⟩⟩) hS.2.2 hc2 hs2
theorem thr_IS {text : String} {ik is sa kc ks : Nat} (hx : p.tables.exec = Jvm.exec) (hb : c.code = cc) (hfl : l.stackTraces = false) (hown : s.vm.findClass "FlyTreasury" = some m.cls) (hE : Ev X s s.heap) (hP : va_P (xD X) vwCl (pool X G) H) (hD : va_D (xA X) (pool X G)) (hS : va_S (xA X) s.heap H locs) (hsz : ls.size = nLc) (hml : c.maxLocals = nLc) (hstr : vk_R "FlyTreasury" is text sa s) (hk : (Cond.classLink "FlyTreasury" ik "java/lang/IllegalStateException").before args s = true) (hini : (Cond.initialized "java/lang/IllegalStateException").before args s = true)
    (d0 : decode cc pc = .ok (.new ik, 3)) (d3 : decode cc (pc + 3) = .ok (.dup, 1)) (d4 : decode cc (pc + 4) = .ok (.ldc is, 2)) (d6 : decode cc (pc + 6) = .ok (.invokespecial 303, 3)) (d9 : decode cc (pc + 9) = .ok (.athrow, 1)) (hno : ∀ x ∈ c.exceptionTable.toList, False) (hF : 2 + 3 < R.frames) (hL : (rest.map fun v => v.category).sum + (13 * (2 + 1) + 43) ≤ R.locals) (hc : cells + 1 ≤ R.cells) (hs : slots + 6 ≤ R.slots) (hlk : meth.locks = false) (hw : xpost "java/lang/IllegalStateException" G) (hc2 : cells + 1 ≤ kc) (hs2 : slots + 6 ≤ ks) :
    W p l e R s m args below meth c H locs cells slots (vx_MQ below Qc (XX X xpost) args s kc ks (xA X)) (F0 m pc ls rest) :=
  vx_throwS (names := xnames) (A := xA X) hx hb hfl hown (by decide +kernel) (by decide +kernel) hk hini hstr (hE.ws xw_IS xg_IS args) xo_IS hE.un hE.su hS (hsz.trans hml.symm) d0 d3 d4 d6 d9 (fun x hx => (hno x hx).elim) hF hL hc hs hlk
    (fun t hv hz9 hk9 => ⟨("java/lang/IllegalStateException", G), hw, ⟨rfl, hP.kept (fun k q hq => hk9 _ (hP k q hq).lt), hD⟩, ⟨Nat.le_trans hS.1 hz9, fun q h1 h2 => by rw [hk9 q (Nat.lt_of_lt_of_le h1 hS.1)]; exact hS.2.1 q h1 h2⟩⟩) hS.2.2 hc2 hs2
theorem thrW_IS {text : String} {ik is sa kc ks : Nat} (hx : p.tables.exec = Jvm.exec) (hb : c.code = cc) (hfl : l.stackTraces = false) (hown : s.vm.findClass "FlyTreasury" = some m.cls) (hE : Ev X s s.heap) (hP : va_P (xD X) vwCl (pool X G) H) (hD : va_D (xA X) (pool X G)) (hS : va_S (xA X) s.heap H locs) (hsz : ls.size = nLc) (hml : c.maxLocals = nLc) (hstr : vk_R "FlyTreasury" is text sa s) (hk : (Cond.classLink "FlyTreasury" ik "java/lang/IllegalStateException").before args s = true) (hini : (Cond.initialized "java/lang/IllegalStateException").before args s = true)
    (d0 : decode cc pc = .ok (.new ik, 3)) (d3 : decode cc (pc + 3) = .ok (.dup, 1)) (d4 : decode cc (pc + 4) = .ok (.ldc_w is, 3)) (d6 : decode cc (pc + 7) = .ok (.invokespecial 303, 3)) (d9 : decode cc (pc + 10) = .ok (.athrow, 1)) (hno : ∀ x ∈ c.exceptionTable.toList, False) (hF : 2 + 3 < R.frames) (hL : (rest.map fun v => v.category).sum + (13 * (2 + 1) + 43) ≤ R.locals) (hc : cells + 1 ≤ R.cells) (hs : slots + 6 ≤ R.slots) (hlk : meth.locks = false) (hw : xpost "java/lang/IllegalStateException" G) (hc2 : cells + 1 ≤ kc) (hs2 : slots + 6 ≤ ks) :
    W p l e R s m args below meth c H locs cells slots (vx_MQ below Qc (XX X xpost) args s kc ks (xA X)) (F0 m pc ls rest) :=
  vx_throwSW (names := xnames) (A := xA X) hx hb hfl hown (by decide +kernel) (by decide +kernel) hk hini hstr (hE.ws xw_IS xg_IS args) xo_IS hE.un hE.su hS (hsz.trans hml.symm) d0 d3 d4 d6 d9 (fun x hx => (hno x hx).elim) hF hL hc hs hlk
    (fun t hv hz9 hk9 => ⟨("java/lang/IllegalStateException", G), hw, ⟨rfl, hP.kept (fun k q hq => hk9 _ (hP k q hq).lt), hD⟩, ⟨Nat.le_trans hS.1 hz9, fun q h1 h2 => by rw [hk9 q (Nat.lt_of_lt_of_le h1 hS.1)]; exact hS.2.1 q h1 h2⟩⟩) hS.2.2 hc2 hs2
theorem thr_UO {text : String} {ik is sa kc ks : Nat} (hx : p.tables.exec = Jvm.exec) (hb : c.code = cc) (hfl : l.stackTraces = false) (hown : s.vm.findClass "FlyTreasury" = some m.cls) (hE : Ev X s s.heap) (hP : va_P (xD X) vwCl (pool X G) H) (hD : va_D (xA X) (pool X G)) (hS : va_S (xA X) s.heap H locs) (hsz : ls.size = nLc) (hml : c.maxLocals = nLc) (hstr : vk_R "FlyTreasury" is text sa s) (hk : (Cond.classLink "FlyTreasury" ik "java/lang/UnsupportedOperationException").before args s = true) (hini : (Cond.initialized "java/lang/UnsupportedOperationException").before args s = true)
    (d0 : decode cc pc = .ok (.new ik, 3)) (d3 : decode cc (pc + 3) = .ok (.dup, 1)) (d4 : decode cc (pc + 4) = .ok (.ldc is, 2)) (d6 : decode cc (pc + 6) = .ok (.invokespecial 372, 3)) (d9 : decode cc (pc + 9) = .ok (.athrow, 1)) (hno : ∀ x ∈ c.exceptionTable.toList, False) (hF : 2 + 3 < R.frames) (hL : (rest.map fun v => v.category).sum + (13 * (2 + 1) + 43) ≤ R.locals) (hc : cells + 1 ≤ R.cells) (hs : slots + 6 ≤ R.slots) (hlk : meth.locks = false) (hw : xpost "java/lang/UnsupportedOperationException" G) (hc2 : cells + 1 ≤ kc) (hs2 : slots + 6 ≤ ks) :
    W p l e R s m args below meth c H locs cells slots (vx_MQ below Qc (XX X xpost) args s kc ks (xA X)) (F0 m pc ls rest) :=
  vx_throwS (names := xnames) (A := xA X) hx hb hfl hown (by decide +kernel) (by decide +kernel) hk hini hstr (hE.ws xw_UO xg_UO args) xo_UO hE.un hE.su hS (hsz.trans hml.symm) d0 d3 d4 d6 d9 (fun x hx => (hno x hx).elim) hF hL hc hs hlk
    (fun t hv hz9 hk9 => ⟨("java/lang/UnsupportedOperationException", G), hw, ⟨rfl, hP.kept (fun k q hq => hk9 _ (hP k q hq).lt), hD⟩, ⟨Nat.le_trans hS.1 hz9, fun q h1 h2 => by rw [hk9 q (Nat.lt_of_lt_of_le h1 hS.1)]; exact hS.2.1 q h1 h2⟩⟩) hS.2.2 hc2 hs2
theorem thrW_UO {text : String} {ik is sa kc ks : Nat} (hx : p.tables.exec = Jvm.exec) (hb : c.code = cc) (hfl : l.stackTraces = false) (hown : s.vm.findClass "FlyTreasury" = some m.cls) (hE : Ev X s s.heap) (hP : va_P (xD X) vwCl (pool X G) H) (hD : va_D (xA X) (pool X G)) (hS : va_S (xA X) s.heap H locs) (hsz : ls.size = nLc) (hml : c.maxLocals = nLc) (hstr : vk_R "FlyTreasury" is text sa s) (hk : (Cond.classLink "FlyTreasury" ik "java/lang/UnsupportedOperationException").before args s = true) (hini : (Cond.initialized "java/lang/UnsupportedOperationException").before args s = true)
    (d0 : decode cc pc = .ok (.new ik, 3)) (d3 : decode cc (pc + 3) = .ok (.dup, 1)) (d4 : decode cc (pc + 4) = .ok (.ldc_w is, 3)) (d6 : decode cc (pc + 7) = .ok (.invokespecial 372, 3)) (d9 : decode cc (pc + 10) = .ok (.athrow, 1)) (hno : ∀ x ∈ c.exceptionTable.toList, False) (hF : 2 + 3 < R.frames) (hL : (rest.map fun v => v.category).sum + (13 * (2 + 1) + 43) ≤ R.locals) (hc : cells + 1 ≤ R.cells) (hs : slots + 6 ≤ R.slots) (hlk : meth.locks = false) (hw : xpost "java/lang/UnsupportedOperationException" G) (hc2 : cells + 1 ≤ kc) (hs2 : slots + 6 ≤ ks) :
    W p l e R s m args below meth c H locs cells slots (vx_MQ below Qc (XX X xpost) args s kc ks (xA X)) (F0 m pc ls rest) :=
  vx_throwSW (names := xnames) (A := xA X) hx hb hfl hown (by decide +kernel) (by decide +kernel) hk hini hstr (hE.ws xw_UO xg_UO args) xo_UO hE.un hE.su hS (hsz.trans hml.symm) d0 d3 d4 d6 d9 (fun x hx => (hno x hx).elim) hF hL hc hs hlk
    (fun t hv hz9 hk9 => ⟨("java/lang/UnsupportedOperationException", G), hw, ⟨rfl, hP.kept (fun k q hq => hk9 _ (hP k q hq).lt), hD⟩, ⟨Nat.le_trans hS.1 hz9, fun q h1 h2 => by rw [hk9 q (Nat.lt_of_lt_of_le h1 hS.1)]; exact hS.2.1 q h1 h2⟩⟩) hS.2.2 hc2 hs2
theorem thr_AE {text : String} {ik is sa kc ks : Nat} (hx : p.tables.exec = Jvm.exec) (hb : c.code = cc) (hfl : l.stackTraces = false) (hown : s.vm.findClass "FlyTreasury" = some m.cls) (hE : Ev X s s.heap) (hP : va_P (xD X) vwCl (pool X G) H) (hD : va_D (xA X) (pool X G)) (hS : va_S (xA X) s.heap H locs) (hsz : ls.size = nLc) (hml : c.maxLocals = nLc) (hstr : vk_R "FlyTreasury" is text sa s) (hk : (Cond.classLink "FlyTreasury" ik "java/lang/ArithmeticException").before args s = true) (hini : (Cond.initialized "java/lang/ArithmeticException").before args s = true)
    (d0 : decode cc pc = .ok (.new ik, 3)) (d3 : decode cc (pc + 3) = .ok (.dup, 1)) (d4 : decode cc (pc + 4) = .ok (.ldc is, 2)) (d6 : decode cc (pc + 6) = .ok (.invokespecial 257, 3)) (d9 : decode cc (pc + 9) = .ok (.athrow, 1)) (hno : ∀ x ∈ c.exceptionTable.toList, False) (hF : 2 + 3 < R.frames) (hL : (rest.map fun v => v.category).sum + (13 * (2 + 1) + 43) ≤ R.locals) (hc : cells + 1 ≤ R.cells) (hs : slots + 6 ≤ R.slots) (hlk : meth.locks = false) (hw : xpost "java/lang/ArithmeticException" G) (hc2 : cells + 1 ≤ kc) (hs2 : slots + 6 ≤ ks) :
    W p l e R s m args below meth c H locs cells slots (vx_MQ below Qc (XX X xpost) args s kc ks (xA X)) (F0 m pc ls rest) :=
  vx_throwS (names := xnames) (A := xA X) hx hb hfl hown (by decide +kernel) (by decide +kernel) hk hini hstr (hE.ws xw_AE xg_AE args) xo_AE hE.un hE.su hS (hsz.trans hml.symm) d0 d3 d4 d6 d9 (fun x hx => (hno x hx).elim) hF hL hc hs hlk
    (fun t hv hz9 hk9 => ⟨("java/lang/ArithmeticException", G), hw, ⟨rfl, hP.kept (fun k q hq => hk9 _ (hP k q hq).lt), hD⟩, ⟨Nat.le_trans hS.1 hz9, fun q h1 h2 => by rw [hk9 q (Nat.lt_of_lt_of_le h1 hS.1)]; exact hS.2.1 q h1 h2⟩⟩) hS.2.2 hc2 hs2
theorem thrW_AE {text : String} {ik is sa kc ks : Nat} (hx : p.tables.exec = Jvm.exec) (hb : c.code = cc) (hfl : l.stackTraces = false) (hown : s.vm.findClass "FlyTreasury" = some m.cls) (hE : Ev X s s.heap) (hP : va_P (xD X) vwCl (pool X G) H) (hD : va_D (xA X) (pool X G)) (hS : va_S (xA X) s.heap H locs) (hsz : ls.size = nLc) (hml : c.maxLocals = nLc) (hstr : vk_R "FlyTreasury" is text sa s) (hk : (Cond.classLink "FlyTreasury" ik "java/lang/ArithmeticException").before args s = true) (hini : (Cond.initialized "java/lang/ArithmeticException").before args s = true)
    (d0 : decode cc pc = .ok (.new ik, 3)) (d3 : decode cc (pc + 3) = .ok (.dup, 1)) (d4 : decode cc (pc + 4) = .ok (.ldc_w is, 3)) (d6 : decode cc (pc + 7) = .ok (.invokespecial 257, 3)) (d9 : decode cc (pc + 10) = .ok (.athrow, 1)) (hno : ∀ x ∈ c.exceptionTable.toList, False) (hF : 2 + 3 < R.frames) (hL : (rest.map fun v => v.category).sum + (13 * (2 + 1) + 43) ≤ R.locals) (hc : cells + 1 ≤ R.cells) (hs : slots + 6 ≤ R.slots) (hlk : meth.locks = false) (hw : xpost "java/lang/ArithmeticException" G) (hc2 : cells + 1 ≤ kc) (hs2 : slots + 6 ≤ ks) :
    W p l e R s m args below meth c H locs cells slots (vx_MQ below Qc (XX X xpost) args s kc ks (xA X)) (F0 m pc ls rest) :=
  vx_throwSW (names := xnames) (A := xA X) hx hb hfl hown (by decide +kernel) (by decide +kernel) hk hini hstr (hE.ws xw_AE xg_AE args) xo_AE hE.un hE.su hS (hsz.trans hml.symm) d0 d3 d4 d6 d9 (fun x hx => (hno x hx).elim) hF hL hc hs hlk
    (fun t hv hz9 hk9 => ⟨("java/lang/ArithmeticException", G), hw, ⟨rfl, hP.kept (fun k q hq => hk9 _ (hP k q hq).lt), hD⟩, ⟨Nat.le_trans hS.1 hz9, fun q h1 h2 => by rw [hk9 q (Nat.lt_of_lt_of_le h1 hS.1)]; exact hS.2.1 q h1 h2⟩⟩) hS.2.2 hc2 hs2
end SPEC
