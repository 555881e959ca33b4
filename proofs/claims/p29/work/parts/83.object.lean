/-! the class's object: its layers in the order they are made -/
theorem tt_self {w : Wt} {hs : Hs} {k : Nat} {v : va_E} {s : Nat → Int32} {g : Nat → Nat → Int32} {r : Nat → Nat} : TT w (upH hs k v) k s g r = TT w hs k s g r := by
  funext j; unfold TT
  by_cases h : k ≤ j ∧ j < k + 7
  · rw [if_pos h, if_pos h]
  · rw [if_neg h, if_neg h, upH_n (by omega)]
theorem xt_self {w : Wt} {hs : Hs} {k : Nat} {v : va_E} {s c d : Nat → Int32} : XT w (upH hs k v) k s c d = XT w hs k s c d := by
  funext j; unfold XT
  by_cases h : j = k
  · rw [if_pos h, if_pos h]
  · rw [if_neg h, if_neg h, upH_n h]
theorem xt_up {w : Wt} {hs : Hs} {k i : Nat} {v : va_E} {s c d : Nat → Int32} (h : i < k ∨ k + 3 ≤ i) : upH (XT w hs k s c d) i v = XT w (upH hs i v) k s c d := by
  funext j
  by_cases e : j = i
  · rw [e, upH_s, xt_n h, upH_s]
  · rw [upH_n e]
    have q : upH hs i v j = hs j := upH_n e
    unfold XT
    rw [q]
theorem up_up {hs : Hs} {i j : Nat} {v u : va_E} (h : i ≠ j) : upH (upH hs i v) j u = upH (upH hs j u) i v := by
  funext q; unfold upH
  by_cases e : q = j
  · rw [if_pos e, if_neg (by omega)]; exact (if_pos e).symm
  · by_cases e2 : q = i
    · simp only [if_neg e, if_pos e2]
    · simp only [if_neg e, if_neg e2]
theorem hi_up {w : Wt} {hs : Hs} {k i : Nat} {v : va_E} {a c : Int32} {b : Nat → Int32} {F : Nat → Nat → Int32} {X : Nat → Int32} {Z : Nat → Nat → Nat → Int32} (h : i < k) : upH (HI w hs k a c b F X Z) i v = HI w (upH hs i v) k a c b F X Z := by
  unfold HI
  rw [sh_up (by omega), up_up (by omega)]
theorem hi_self {w : Wt} {hs : Hs} {k : Nat} {v : va_E} {a c : Int32} {b : Nat → Int32} {F : Nat → Nat → Int32} {X : Nat → Int32} {Z : Nat → Nat → Nat → Int32} : HI w (upH hs k v) k a c b F X Z = HI w hs k a c b F X Z := by unfold HI; rw [upH_up]
def GO (w : Wt) (k : Nat) : va_E := .inr (5, [.ref (wB w + (k + 1)), .ref (wB w + (k + 4)), .ref (wB w + (k + 11)), .ref (wB w + (k + 18)), .ref (wB w + (k + 120))])
