/-! The state of both sides as one memory. An object or array of the run has a place p < 199; M p k is the number in its k-th field or element. References do not move but one (the builder's bytes). -/
abbrev GS : Type := (Nat → Nat → Int32) × (Nat × Nat) × ((Nat → Int64) × (Nat → UInt64))
/-- class numbers, array classes, addresses of constants, addresses of the places, the first address of the run -/
abbrev Cx : Type := va_G × (Nat → ClassId) × (Nat → Nat → Nat) × (Nat → Nat) × Nat
def xD (X : Cx) : va_G := X.1
def xc (X : Cx) : Nat → ClassId := X.2.1
def xk (X : Cx) : Nat → Nat → Nat := X.2.2.1
def xa (X : Cx) : Nat → Nat := X.2.2.2.1
def xs (X : Cx) : Nat := X.2.2.2.2
def xA (X : Cx) : Nat → Prop := fun q => xs X ≤ q
/-- what stands at a place: 0 Ledger, 1 its vaults, 2 ints, 3 Vault, 4 FlyTreasury, 5 History, 6 its states, 7 Script, 8 sixty chars, 9 orders, 10 Order, 11 StringBuilder, 12 its bytes, 13 the model, 14 long, 15 double -/
def kd (p : Nat) : Nat :=
  if p < 165 then (if p % 15 = 0 then 0 else if p % 15 = 1 then 1 else if p % 15 < 5 then 2 else if p % 15 < 10 then 3 else 2)
  else if p = 165 then 4 else if p = 166 then 5 else if p = 167 then 6 else if p = 168 then 7 else if p = 169 then 8 else if p = 170 then 9
  else if p < 187 then 10 else if p = 187 then 11 else if p = 188 then 12 else if p = 189 then 13 else if p < 194 then 2 else if p < 196 then 8
  else if p = 196 then 2 else if p = 197 then 14 else if p = 198 then 15 else 99
def ln (p : Nat) : Nat := if p < 165 then 3 else if p = 191 then 448 else if p = 196 then 4 else 56
def cellF (X : Cx) (E : (Nat × Nat) × ((Nat → Int64) × (Nat → UInt64))) (f : Nat → Int32) (p : Nat) : va_E :=
  if kd p = 0 then .inr (5, [.ref (xa X (p + 1)), .ref (xa X (p + 2)), .ref (xa X (p + 3)), .ref (xa X (p + 4)), .int (f 4), .int (f 5), .int (f 6), .int (f 7), .int (f 8), .int (f 9), .int (f 10)])
  else if kd p = 1 then .inl (xc X 3, 5, .inr (.inr (.inr (.inr (fun k => some (xa X (p + 4 + k)))))))
  else if kd p = 2 then .inl (xc X 0, ln p, .inl f)
  else if kd p = 3 then .inr (8, [.ref (xa X (p + 5)), .int (f 1), .int (f 2), .int (f 3), .int (f 4), .int (f 5)])
  else if kd p = 4 then .inr (9, [.ref (xa X 0), .ref (xa X 15), .ref (xa X 30), .ref (xa X 166), .ref (xa X 168), .ref (xa X 187), .int (f 6), .int (f 7), .int (f 8)])
  else if kd p = 5 then .inr (4, [.ref (xa X 167), .int (f 1), .int (f 2)])
  else if kd p = 6 then .inl (xc X 4, 8, .inr (.inr (.inr (.inr (fun k => some (xa X (45 + 15 * k)))))))
  else if kd p = 7 then .inr (7, [.ref (xa X 169), .ref (xa X 170), .int (f 2), .int (f 3), .int (f 4)])
  else if kd p = 8 then .inl (xc X 1, 60, .inl f)
  else if kd p = 9 then .inl (xc X 5, 16, .inr (.inr (.inr (.inr (fun k => some (xa X (171 + k)))))))
  else if kd p = 10 then .inr (6, [.ref (xk X 1 (f 0).toNatClampNeg), .int (f 1), .int (f 2), .int (f 3), .int (f 4)])
  else if kd p = 11 then .inr (1, [.ref E.1.1, .int (f 1), .int (f 2), .int (f 3)])
  else if kd p = 12 then .inl (xc X 2, E.1.2, .inl f)
  else if kd p = 13 then .inr (10, [.int (f 0), .ref (xa X 190), .ref (xa X 191), .ref (xa X 192), .ref (xa X 193), .int (f 5), .int (f 6), .int (f 7), .ref (xa X 194), .int (f 9), .ref (xa X 195), .int (f 11), .int (f 12), .int (f 13), .int (f 14), .ref (xa X 196), .int (f 16), .int (f 17)])
  else if kd p = 14 then .inl (xc X 6, 1, .inr (.inl E.2.1))
  else .inl (xc X 7, 1, .inr (.inr (.inr (.inl E.2.2))))
def cell (X : Cx) (G : GS) (p : Nat) : va_E := cellF X G.2 (G.1 p) p
def adr (X : Cx) (G : GS) (p : Nat) : Nat := if p = 188 then G.2.1.1 else xa X p
def pool (X : Cx) (G : GS) : va_W := (List.range 199).map fun p => (adr X G p, cell X G p)
/-- one number set, a whole row set, the long, the double -/
def gI (G : GS) (p k : Nat) (x : Int32) : GS := (fun q => if q = p then upd (G.1 p) k x else G.1 q, G.2)
def gA (G : GS) (p : Nat) (f : Nat → Int32) : GS := (fun q => if q = p then f else G.1 q, G.2)
def gL (G : GS) (k : Nat) (x : Int64) : GS := (G.1, G.2.1, (fun j => if j = k then x else G.2.2.1 j), G.2.2.2)
def gD (G : GS) (k : Nat) (x : UInt64) : GS := (G.1, G.2.1, G.2.2.1, (fun j => if j = k then x else G.2.2.2 j))
theorem kd_lt {p k : Nat} (h : kd p = k) (hk : k ≠ 99) : p < 199 := by
  subst h
  refine Nat.lt_of_not_le fun h => hk ?_
  unfold kd
  rw [if_neg (by omega), if_neg (by omega), if_neg (by omega), if_neg (by omega), if_neg (by omega), if_neg (by omega), if_neg (by omega), if_neg (by omega), if_neg (by omega), if_neg (by omega), if_neg (by omega), if_neg (by omega), if_neg (by omega), if_neg (by omega), if_neg (by omega), if_neg (by omega)]
theorem pool_get (X : Cx) (G : GS) {p : Nat} (h : p < 199) : (pool X G)[p]? = some (adr X G p, cell X G p) := by
  simp [pool, List.getElem?_map, List.getElem?_range h]
theorem pool_at (X : Cx) (G : GS) {p : Nat} {a : Nat} {e : va_E} (h : p < 199) (ha : adr X G p = a) (he : cell X G p = e) : (pool X G)[p]? = some (a, e) := by
  rw [pool_get X G h, ha, he]
theorem pool_len (X : Cx) (G : GS) : (pool X G).length = 199 := by simp [pool]
theorem pool_set (X : Cx) (G G' : GS) {p : Nat} {a : Nat} {e : va_E} (ha : adr X G' p = a) (he : cell X G' p = e) (ho : ∀ q, q < 199 → q ≠ p → adr X G' q = adr X G q ∧ cell X G' q = cell X G q) : (pool X G).set p (a, e) = pool X G' := by
  apply List.ext_getElem?
  intro k
  rw [List.getElem?_set]
  by_cases hk : p = k
  · subst hk
    rw [if_pos rfl, pool_len]
    by_cases hp : p < 199
    · rw [if_pos hp, pool_get X G' hp, ha, he]
    · rw [if_neg hp]
      exact (List.getElem?_eq_none (by rw [pool_len]; omega)).symm
  · rw [if_neg hk]
    by_cases hp : k < 199
    · rw [pool_get X G hp, pool_get X G' hp, (ho k hp (fun e => hk e.symm)).1, (ho k hp (fun e => hk e.symm)).2]
    · rw [List.getElem?_eq_none (by rw [pool_len]; omega), List.getElem?_eq_none (by rw [pool_len]; omega)]
theorem pool_gA (X : Cx) (G : GS) {p : Nat} (f : Nat → Int32) {a : Nat} {e : va_E} (ha : adr X G p = a) (he : cellF X G.2 f p = e) : (pool X G).set p (a, e) = pool X (gA G p f) := by
  refine pool_set X G (gA G p f) ha ?_ ?_
  · show cellF X G.2 (if p = p then f else G.1 p) p = e
    rw [if_pos rfl]; exact he
  · intro q hq hn
    refine ⟨rfl, ?_⟩
    show cellF X G.2 (if q = p then f else G.1 q) q = cellF X G.2 (G.1 q) q
    rw [if_neg hn]
theorem pool_gI (X : Cx) (G : GS) {p k : Nat} (x : Int32) {a : Nat} {e : va_E} (ha : adr X G p = a) (he : cellF X G.2 (upd (G.1 p) k x) p = e) : (pool X G).set p (a, e) = pool X (gI G p k x) := pool_gA X G (upd (G.1 p) k x) ha he
/-- the types of the arrays -/
def tys (X : Cx) : List (ClassId × FieldType) := [(xc X 0, .int), (xc X 1, .char), (xc X 2, .byte), (xc X 3, .object "FlyTreasury$Vault"), (xc X 4, .object "FlyTreasury$Ledger"), (xc X 5, .object "FlyTreasury$Order"), (xc X 6, .long), (xc X 7, .double)]
/-- a word that a change of the machine's tables does not touch -/
def okw : Cond → Bool
  | .methodLinkNest .. => true
  | .fieldLinkNest .. => true
  | .castable .. => true
  | .declares .. => true
  | .privateMethod .. => true
  | w => goodWord w
theorem okw_move {s U : State} (hW : s.WarmedH U.vm) {w : Cond} (h : okw w = true) (hb : ∀ a, w.before a s = true) (a : Array Value) : w.before a U = true := by
  by_cases g : goodWord w = true
  · exact word_at hW (good_of_word g) (hb a)
  · cases w with
    | methodLinkNest => exact va_Nw.use rfl (va_Nw.warmM hW (va_Nw.of rfl (hb a)))
    | fieldLinkNest => exact va_Nw.use rfl (va_Nw.warmF hW (va_Nw.of rfl (hb a)))
    | castable => exact va_Nw.use rfl (va_Nw.warmC hW (va_Nw.of rfl (hb a)))
    | declares => exact va_Nw.use rfl (va_Nw.warmD hW (va_Nw.of rfl (hb a)))
    | privateMethod => exact Cond.privateMethod_warm hW (hb a)
    | _ => exact absurd h g
