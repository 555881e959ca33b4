theorem cnz {a b : Nat} (hb : a ≤ b) (h : nI a = 0) (h9 : b < 2 ^ 31 := by omega) : a = 0 := (nI_eq (by omega) (by omega)).mp h
