/-! numbers -/
theorem nI_lit (n : Nat) : nI n = Int32.ofNat n := rfl
theorem Int32_add_comm' (a b : Int32) : a + b = b + a := by grind
theorem Int32_ring' (a b c : Int32) : (a + b) * c - c * b = a * c := by grind
