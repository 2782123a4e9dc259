def segW (f : Nat → Int32) (a n : Nat) (h : Nat → Int32) : Nat → Int32 := fun q => if a ≤ q ∧ q < a + n then h (q - a) else f q
