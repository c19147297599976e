/-! the classes and the arrays at the entry; printed by wip/whole/gen/gen_9f.py -/
theorem us_J0 : ∀ w ∈ u_ws RJ0 TJ0 4, w ∈ lw_tbl := us_of [738, 740, 742, 744] (by decide +kernel)
theorem us_Jx00060 : ∀ w ∈ u_ws RJx00060 TJx00060 6, w ∈ lw_tbl := us_of [776, 777, 778, 779, 780, 791] (by decide +kernel)
theorem us_Jx7c733 : ∀ w ∈ u_ws RJx7c733 TJx7c733 6, w ∈ lw_tbl := us_of [751, 752, 753, 754, 755, 756] (by decide +kernel)
section ENV
variable {A : Array Value} {s : State}
theorem arr_p {ty : FieldType} (h : (Cond.arrayClass ty).before A s = true) : ∃ cA : ClassId, ArrOfT s cA ty ∧ s.vm.findClass ("[" ++ ty.toString) = some cA := by
  obtain ⟨cA, kA, comp, h1, h2, h3⟩ := Cond.arrayClass_spec h
  exact ⟨cA, fun n z => ⟨(fun k h => by cases h), kA, h2, comp, h3⟩, h1⟩
theorem arr_o {C : String} (h : (Cond.arrayOver (.object C)).before A s = true) : ∃ cA : ClassId, ArrOfT s cA (.object C) ∧ va_RA s cA (.object C) := by
  obtain ⟨comp, cA, kA, h1, h2, h3, h4, h5⟩ := Cond.arrayOver_spec h
  exact ⟨cA, fun n z => ⟨(fun k h => by cases h), kA, h3, comp, h4⟩, kA, comp, h3, h4, h1, h5⟩
def xcf (c0 c1 c2 c3 c4 c5 c6 c7 : ClassId) : Nat → ClassId
  | 0 => c0
  | 1 => c1
  | 2 => c2
  | 3 => c3
  | 4 => c4
  | 5 => c5
  | 6 => c6
  | _ => c7
theorem okw_args {A' : Array Value} {w : Cond} (h : okw w = true) (hb : w.before A s = true) : w.before A' s = true := by
  by_cases g : goodWord w = true
  · exact word_at (State.WarmedH.refl s) (good_of_word g) hb
  · cases w with
    | methodLinkNest => exact va_tabs rfl rfl hb
    | fieldLinkNest => exact va_tabs rfl rfl hb
    | castable => exact va_tabs rfl rfl hb
    | declares => exact va_tabs rfl rfl hb
    | privateMethod => exact va_tabs rfl rfl hb
    | _ => exact absurd h g
theorem ev_start (hn : narrow_1.before A s = true) (hts : ∀ w ∈ lw_tbl, w.before A s = true) : ∃ (D : va_G) (Cf : Nat → ClassId) (kf : Nat → Nat → Nat), Ev (D, Cf, kf, (fun _ => 0), s.heap.size) s s.heap ∧ AOs s := by
  obtain ⟨c0, i0, h0⟩ := u_known (C := RJ0) (T := TJ0) (N := 4) (n := 4) hts us_J0 (wat_ hts 615 (by decide +kernel))
  obtain ⟨c1, i1, h1⟩ := u_known (C := RJ4) (T := TJ4) (N := 4) (n := 4) hts us_J4 (wat_ hts 286 (by decide +kernel))
  obtain ⟨c2, i2, h2⟩ := u_known (C := RJx00060) (T := TJx00060) (N := 6) (n := 6) hts us_Jx00060 (wat_ hts 771 (by decide +kernel))
  obtain ⟨c3, i3, h3⟩ := u_known (C := RJx7c733) (T := TJx7c733) (N := 6) (n := 6) hts us_Jx7c733 (wat_ hts 460 (by decide +kernel))
  obtain ⟨c4, i4, h4⟩ := u_known (C := RX2) (T := TX2) (N := 3) (n := 3) hts us_X2 (wat_ hts 204 (by decide +kernel))
  obtain ⟨c5, i5, h5⟩ := u_known (C := RX3) (T := TX3) (N := 11) (n := 11) hts us_X3 (wat_ hts 118 (by decide +kernel))
  obtain ⟨c6, i6, h6⟩ := u_known (C := RX4) (T := TX4) (N := 5) (n := 5) hts us_X4 (wat_ hts 231 (by decide +kernel))
  obtain ⟨c7, i7, h7⟩ := u_known (C := RX6) (T := TX6) (N := 5) (n := 5) hts us_X6 (wat_ hts 224 (by decide +kernel))
  obtain ⟨c8, i8, h8⟩ := u_known (C := RX7) (T := TX7) (N := 6) (n := 6) hts us_X7 (wat_ hts 125 (by decide +kernel))
  obtain ⟨c9, i9, h9⟩ := u_known (C := RX8) (T := TX8) (N := 9) (n := 9) hts us_X8 (wat_ hts 110 (by decide +kernel))
  obtain ⟨c10, i10, h10⟩ := u_known (C := RX9) (T := TX9) (N := 18) (n := 18) hts us_X9 (wat_ hts 1565 (by decide +kernel))
  have hcl : ∀ k : Nat, ∃ x : ClassId × (Nat → Nat), ∀ q : vw_C, vwCl[k]? = some q → u_Kn s q.1 q.2.1 q.2.2 x.1 x.2 := by
    intro k
    match k with
    | 0 => exact ⟨(c0, i0), fun q hq => by cases hq; exact h0⟩
    | 1 => exact ⟨(c1, i1), fun q hq => by cases hq; exact h1⟩
    | 2 => exact ⟨(c2, i2), fun q hq => by cases hq; exact h2⟩
    | 3 => exact ⟨(c3, i3), fun q hq => by cases hq; exact h3⟩
    | 4 => exact ⟨(c4, i4), fun q hq => by cases hq; exact h4⟩
    | 5 => exact ⟨(c5, i5), fun q hq => by cases hq; exact h5⟩
    | 6 => exact ⟨(c6, i6), fun q hq => by cases hq; exact h6⟩
    | 7 => exact ⟨(c7, i7), fun q hq => by cases hq; exact h7⟩
    | 8 => exact ⟨(c8, i8), fun q hq => by cases hq; exact h8⟩
    | 9 => exact ⟨(c9, i9), fun q hq => by cases hq; exact h9⟩
    | 10 => exact ⟨(c10, i10), fun q hq => by cases hq; exact h10⟩
    | k + 11 =>
      refine ⟨(c0, i0), fun q hq => ?_⟩
      have h : k + 11 < 11 := (List.getElem?_eq_some_iff.mp hq).1
      omega
  obtain ⟨dd, hdd⟩ := Classical.axiomOfChoice hcl
  obtain ⟨a0, e0, g0⟩ := arr_p (ty := .int) (wat_ hts 159 (by decide +kernel))
  obtain ⟨a1, e1, g1⟩ := arr_p (ty := .char) (wat_ hts 264 (by decide +kernel))
  obtain ⟨a2, e2, g2⟩ := arr_p (ty := .byte) (wat_ hts 317 (by decide +kernel))
  obtain ⟨a6, e6, g6⟩ := arr_p (ty := .long) (wat_ hts 2067 (by decide +kernel))
  obtain ⟨a7, e7, g7⟩ := arr_p (ty := .double) (wat_ hts 2068 (by decide +kernel))
  have w3 := wat_ hts 124 (c := Cond.arrayOver (.object "FlyTreasury$Vault")) (by decide +kernel)
  obtain ⟨a3, e3, g3⟩ := arr_o w3
  have w4 := wat_ hts 210 (c := Cond.arrayOver (.object "FlyTreasury$Ledger")) (by decide +kernel)
  obtain ⟨a4, e4, g4⟩ := arr_o w4
  have w5 := wat_ hts 230 (c := Cond.arrayOver (.object "FlyTreasury$Order")) (by decide +kernel)
  obtain ⟨a5, e5, g5⟩ := arr_o w5
  obtain ⟨kf, hEs, hR⟩ := ev_es (fun k => (dd k).1, fun k => (dd k).2) (xcf a0 a1 a2 a3 a4 a5 a6 a7) (fun _ => 0) hn hts
  refine ⟨(fun k => (dd k).1, fun k => (dd k).2), xcf a0 a1 a2 a3 a4 a5 a6 a7, kf, ⟨fun w hw ho a => okw_args ho (hts w hw), ⟨fun k q hq => hdd k q hq, fun k q hk => ?_⟩, hR, hEs, ev_nc hn⟩, va_AO.of w3, va_AO.of w4, va_AO.of w5⟩
  match k, hk with
  | 0, hk => cases hk; exact ⟨e0, g0⟩
  | 1, hk => cases hk; exact ⟨e1, g1⟩
  | 2, hk => cases hk; exact ⟨e2, g2⟩
  | 3, hk => cases hk; exact ⟨e3, g3⟩
  | 4, hk => cases hk; exact ⟨e4, g4⟩
  | 5, hk => cases hk; exact ⟨e5, g5⟩
  | 6, hk => cases hk; exact ⟨e6, g6⟩
  | 7, hk => cases hk; exact ⟨e7, g7⟩
  | k + 8, hk =>
    have h : k + 8 < 8 := (List.getElem?_eq_some_iff.mp hk).1
    omega
end ENV
