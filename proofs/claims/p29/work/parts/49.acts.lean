def sl (b : Nat → Int32) (m : Nat) : Nat → Int32 := fun j => b (157 * m + j)
