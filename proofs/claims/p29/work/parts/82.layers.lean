/-! the layers of the class's object: disjoint ones change places -/
theorem xt_tt {w : Wt} {hs : Hs} {k k2 : Nat} {sg c d : Nat → Int32} {s : Nat → Int32} {g : Nat → Nat → Int32} {r : Nat → Nat} (hd : k2 + 7 ≤ k ∨ k + 3 ≤ k2) : XT w (TT w hs k2 s g r) k sg c d = TT w (XT w hs k sg c d) k2 s g r := by
  funext j
  unfold XT TT
  by_cases h : k2 ≤ j ∧ j < k2 + 7
  · rw [if_neg (show ¬ j = k by omega), if_neg (show ¬ j = k + 1 by omega), if_neg (show ¬ j = k + 2 by omega), if_pos h, if_pos h]
  · rw [if_neg h, if_neg h]
theorem tt_tt {w : Wt} {hs : Hs} {k k2 : Nat} {s s2 : Nat → Int32} {g g2 : Nat → Nat → Int32} {r r2 : Nat → Nat} (hd : k2 + 7 ≤ k ∨ k + 7 ≤ k2) : TT w (TT w hs k2 s2 g2 r2) k s g r = TT w (TT w hs k s g r) k2 s2 g2 r2 := by
  funext j
  unfold TT
  by_cases h : k2 ≤ j ∧ j < k2 + 7
  · rw [if_neg (show ¬ (k ≤ j ∧ j < k + 7) by omega), if_pos h, if_pos h]
  · rw [if_neg h, if_neg h]
theorem xt_sh {w : Wt} {hs : Hs} {k k2 N : Nat} {sg c d : Nat → Int32} {b : Nat → Int32} {F : Nat → Nat → Int32} {X : Nat → Int32} {Z : Nat → Nat → Nat → Int32} (hd : k2 + 3 + 7 * N ≤ k ∨ k + 3 ≤ k2) : XT w (SH w hs k2 N b F X Z) k sg c d = SH w (XT w hs k sg c d) k2 N b F X Z := by
  funext j
  by_cases h : k ≤ j ∧ j < k + 3
  · rw [sh_n (by omega)]
    unfold XT
    by_cases h0 : j = k
    · rw [if_pos h0, if_pos h0]
    · rw [if_neg h0, if_neg h0]
      by_cases h1 : j = k + 1
      · rw [if_pos h1, if_pos h1]
      · rw [if_neg h1, if_neg h1, if_pos (show j = k + 2 by omega), if_pos (show j = k + 2 by omega)]
  · rw [xt_n (by omega)]
    unfold SH
    rw [xt_n (by omega)]
theorem sh_sh2 {w : Wt} {hs : Hs} {k k2 N N2 : Nat} {b b2 : Nat → Int32} {F F2 : Nat → Nat → Int32} {X X2 : Nat → Int32} {Z Z2 : Nat → Nat → Nat → Int32} (hd : k2 + 3 + 7 * N2 ≤ k ∨ k + 3 + 7 * N ≤ k2) : SH w (SH w hs k2 N2 b2 F2 X2 Z2) k N b F X Z = SH w (SH w hs k N b F X Z) k2 N2 b2 F2 X2 Z2 := by
  funext j
  by_cases h : k ≤ j ∧ j < k + 3 + 7 * N
  · rw [sh_n (w := w) (hs := SH w hs k N b F X Z) (k := k2) (N := N2) (by omega)]
    unfold SH
    by_cases h0 : j = k
    · rw [if_pos h0, if_pos h0]
    rw [if_neg h0, if_neg h0]
    by_cases h1 : j = k + 1
    · rw [if_pos h1, if_pos h1]
    rw [if_neg h1, if_neg h1]
    by_cases h2 : j = k + 2
    · rw [if_pos h2, if_pos h2]
    rw [if_neg h2, if_neg h2, if_pos (show k + 3 ≤ j ∧ j < k + 3 + 7 * N by omega), if_pos (show k + 3 ≤ j ∧ j < k + 3 + 7 * N by omega)]
  · rw [sh_n (w := w) (hs := SH w hs k2 N2 b2 F2 X2 Z2) (k := k) (N := N) (by omega)]
    show SH w hs k2 N2 b2 F2 X2 Z2 j = SH w (SH w hs k N b F X Z) k2 N2 b2 F2 X2 Z2 j
    have q : SH w hs k N b F X Z j = hs j := sh_n (by omega)
    generalize hE : SH w hs k N b F X Z = E at q ⊢
    unfold SH
    rw [q]
