/-! the model: scripts, simulations, a new object: the walks -/
theorem so_10 {y : Int32} (h : ¬ (0 ≤ y ∧ y ≤ 10)) : y.toInt < 0 ∨ 10 < y.toInt := by
  rcases Int.lt_or_le y.toInt 0 with q | q
  · exact Or.inl q
  · rcases Int.lt_or_le 10 y.toInt with q2 | q2
    · exact Or.inr q2
    · exact absurd ⟨(le_i 0 y).mpr q, (le_i y 10).mpr q2⟩ h
