theorem dcl_lt (f : Nat → Int32) (b : Nat) : (dcl f b).toNatClampNeg < 2 ^ 31 := by
  have := i_hi (dcl f b)
  show (dcl f b).toInt.toNat < _
  omega
