/-! the model: what there is, asked -/
theorem nv4 {f : Nat → Int32} {b : Nat} (h : f (24 + 10 * b + 3) = 1 ∨ f (24 + 10 * b + 3) = 3) : nv f b 4 = f (24 + 10 * b + 4) := if_pos h
theorem nv4n {f : Nat → Int32} {b : Nat} (h : ¬ (f (24 + 10 * b + 3) = 1 ∨ f (24 + 10 * b + 3) = 3)) : nv f b 4 = -1 := if_neg h
theorem nv5 {f : Nat → Int32} {b : Nat} (h : f (24 + 10 * b + 3) = 1 ∨ f (24 + 10 * b + 3) = 3) : nv f b 5 = f (24 + 10 * b + 5) := if_pos h
theorem nv5n {f : Nat → Int32} {b : Nat} (h : ¬ (f (24 + 10 * b + 3) = 1 ∨ f (24 + 10 * b + 3) = 3)) : nv f b 5 = -1 := if_neg h
theorem nv7 {f : Nat → Int32} {b : Nat} (h : f (24 + 10 * b + 3) = 2) : nv f b 7 = f (24 + 10 * b + 7) := if_pos h
theorem nv7n {f : Nat → Int32} {b : Nat} (h : ¬ f (24 + 10 * b + 3) = 2) : nv f b 7 = -1 := if_neg h
