theorem pf_103 {f : Nat → Int32} {a b c d : Int32} : pf f 103 a b c d = pfG f a b c d := by unfold pf; rw [if_pos rfl]
theorem pf_98 {f : Nat → Int32} {a b c d : Int32} : pf f 98 a b c d = pfB f a b c := by unfold pf; rw [if_neg (by decide), if_pos rfl]
theorem pf_108 {f : Nat → Int32} {a b c d : Int32} : pf f 108 a b c d = pfL f a b := by unfold pf; rw [if_neg (by decide), if_neg (by decide), if_pos rfl]
theorem pf_109 {f : Nat → Int32} {a b c d : Int32} : pf f 109 a b c d = pfM f a := by unfold pf; rw [if_neg (by decide), if_neg (by decide), if_neg (by decide), if_pos rfl]
theorem pf_104 {f : Nat → Int32} {a b c d : Int32} : pf f 104 a b c d = pfH f a b c := by unfold pf; rw [if_neg (by decide), if_neg (by decide), if_neg (by decide), if_neg (by decide), if_pos rfl]
theorem pf_99 {f : Nat → Int32} {a b c d : Int32} : pf f 99 a b c d = pfC f a b := by unfold pf; rw [if_neg (by decide), if_neg (by decide), if_neg (by decide), if_neg (by decide), if_neg (by decide), if_pos rfl]
theorem pf_115 {f : Nat → Int32} {a b c d : Int32} : pf f 115 a b c d = pfS f a b := by unfold pf; rw [if_neg (by decide), if_neg (by decide), if_neg (by decide), if_neg (by decide), if_neg (by decide), if_neg (by decide), if_pos rfl]
theorem frO_n {f : Nat → Int32} {j : Nat} : ∀ i, (∀ o, o < i → j ≠ 134 + 3 * o + 1 ∧ j ≠ 134 + 3 * o + 2) → frO f i j = f j
  | 0, _ => rfl
  | i + 1, h => by
    show upd (upd _ _ _) _ _ j = _
    rw [pk_un (h i (by omega)).2, pk_un (h i (by omega)).1]
    exact frO_n i (fun o ho => h o (by omega))
theorem frO_s {f : Nat → Int32} {o : Nat} : ∀ i, o < i → frO f i (134 + 3 * o + 1) = -1 ∧ frO f i (134 + 3 * o + 2) = -1
  | 0, h => absurd h (Nat.not_lt_zero o)
  | i + 1, h => by
    show upd (upd _ _ _) _ _ _ = _ ∧ upd (upd _ _ _) _ _ _ = _
    by_cases e : o = i
    · subst e
      exact ⟨by rw [pk_un (by omega), pk_us], pk_us⟩
    · rw [pk_un (by omega), pk_un (by omega), pk_un (by omega), pk_un (by omega)]
      exact frO_s i (by omega)
theorem frF_0 {f : Nat → Int32} {j : Nat} (h : j < 157) (h1 : ∀ o, o < 4 → j ≠ 134 + 3 * o + 1 ∧ j ≠ 134 + 3 * o + 2) (h2 : j ≠ 155) (h3 : j ≠ 156) : frF f j = 0 := by
  unfold frF
  rw [pk_un h3, pk_un h2, frO_n 4 h1]
  exact if_pos h
theorem frF_h {f : Nat → Int32} {o : Nat} (h : o < 4) : frF f (134 + 3 * o + 1) = -1 ∧ frF f (134 + 3 * o + 2) = -1 := by
  unfold frF
  rw [pk_un (by omega), pk_un (by omega), pk_un (by omega), pk_un (by omega)]
  exact frO_s 4 h
theorem frF_155 {f : Nat → Int32} : frF f 155 = 3 := by unfold frF; rw [pk_un (by omega), pk_us]
theorem frF_156 {f : Nat → Int32} : frF f 156 = 2 := by unfold frF; rw [pk_us]
def tsF (t : Nat → Int32) (len : Nat) (f : Nat → Int32) : TS := rdA t len 121 (if hrF t len 0 = 84 then ((1, true), (frF f, 0)) else ((0, false), (frF f, 0)))
