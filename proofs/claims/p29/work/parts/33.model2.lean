abbrev isSetP (x y : Int32) : Prop := (x = 0 ∧ 0 ≤ y ∧ y ≤ 3) ∨ (x = 1 ∧ 1 ≤ y ∧ y ≤ 9) ∨ (x = 2 ∧ 0 ≤ y ∧ y ≤ 9)
