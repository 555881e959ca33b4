/-! numbers: int indices as naturals, booleans as ints, longs out of ints -/
theorem ix_add {x y : Int32} {a b : Nat} (h1 : x = nI a) (h2 : y = nI b) : x + y = nI (a + b) := by rw [h1, h2, nI_add]
theorem ix_mul {x y : Int32} {a b : Nat} (h1 : x = nI a) (h2 : y = nI b) : x * y = nI (a * b) := by rw [h1, h2, pk_mul]
theorem ix_in {x : Int32} {a N : Nat} (h1 : x = nI a) (h : a < N) (hN : N < 2 ^ 31) : vp_in x N := by rw [h1]; exact vp_in_nI h hN
theorem ix_cl {x : Int32} {a : Nat} (h1 : x = nI a) (h : a < 2 ^ 31) : x.toNatClampNeg = a := by rw [h1, nI_clamp h]
def bI (b : Bool) : Int32 := if b then 1 else 0
theorem bI_f {b : Bool} (h : bI b = 0) : b = false := by
  cases b
  · rfl
  · exact absurd h (by decide)
theorem bI_t {b : Bool} (h : ¬ bI b = 0) : b = true := by
  cases b
  · exact absurd rfl h
  · rfl
theorem bI_nar (b : Bool) : narrow .boolean (.int (bI b)) = .int (bI b) := by cases b <;> rfl
theorem dF {P : Prop} {d : Decidable P} (h : bI (@decide P d) = 0) : ¬ P := of_decide_eq_false (bI_f h)
theorem dT {P : Prop} {d : Decidable P} (h : ¬ bI (@decide P d) = 0) : P := of_decide_eq_true (bI_t h)
theorem lt_i (a b : Int32) : a < b ↔ a.toInt < b.toInt := Int32.lt_iff_toInt_lt
theorem le_i (a b : Int32) : a ≤ b ↔ a.toInt ≤ b.toInt := Int32.le_iff_toInt_le
theorem eq_i (a b : Int32) : a = b ↔ a.toInt = b.toInt := ⟨fun h => by rw [h], fun h => Int32.toInt_inj.mp h⟩
theorem w_i (a : Int32) : a.toInt64.toInt = a.toInt := by simp
theorem w_le (a b : Int32) : a.toInt64 ≤ b.toInt64 ↔ a ≤ b := by rw [Int64.le_iff_toInt_le, w_i, w_i, le_i]
theorem i_lo (a : Int32) : -2147483648 ≤ a.toInt := by have := Int32.le_toInt a; simpa using this
theorem i_hi (a : Int32) : a.toInt < 2147483648 := by have := Int32.toInt_lt a; simpa using this
theorem pred_i {n : Nat} (h : n < 2 ^ 31) : (nI n - 1).toInt = (n : Int) - 1 := by
  cases n with
  | zero => decide
  | succ n => rw [nI_pred, nI_toInt (by omega)]; omega
theorem le_pred {x : Int32} {n : Nat} (h : n < 2 ^ 31) : x ≤ nI n - 1 ↔ x < nI n := by
  rw [le_i, lt_i, pred_i h, nI_toInt h]; omega
theorem bI_c {A B : Prop} {dA : Decidable A} {dB : Decidable B} (h : A ↔ B) : bI (@decide A dA) = bI (@decide B dB) := by
  by_cases hb : B
  · rw [decide_eq_true hb, decide_eq_true (h.mpr hb)]
  · rw [decide_eq_false hb, decide_eq_false (fun q => hb (h.mp q))]
theorem bI_1 {A : Prop} {dA : Decidable A} (h : A) : bI (@decide A dA) = 1 := by rw [decide_eq_true h]; rfl
theorem bI_0 {A : Prop} {dA : Decidable A} (h : ¬ A) : bI (@decide A dA) = 0 := by rw [decide_eq_false h]; rfl
theorem z64 : (0 : Int64) = (0 : Int32).toInt64 := by decide
theorem inG (x : Int32) {n : Nat} (h : n < 2 ^ 31) : ((0 : Int64) ≤ x.toInt64 ∧ x.toInt64 ≤ (nI n - 1).toInt64) ↔ (0 ≤ x ∧ x < nI n) := by
  rw [z64, w_le, w_le, le_pred h]
/-- lists of naturals below a bound: some, how many -/
def anyN (P : Nat → Bool) : Nat → Bool
  | 0 => false
  | n + 1 => anyN P n || P n
theorem anyN_iff (P : Nat → Bool) : ∀ n, anyN P n = true ↔ ∃ b, b < n ∧ P b = true
  | 0 => ⟨fun h => (by cases h), fun ⟨b, h, _⟩ => absurd h (Nat.not_lt_zero b)⟩
  | n + 1 => by
    unfold anyN
    rw [Bool.or_eq_true, anyN_iff P n]
    constructor
    · rintro (⟨b, h1, h2⟩ | h)
      · exact ⟨b, by omega, h2⟩
      · exact ⟨n, by omega, h⟩
    · rintro ⟨b, h1, h2⟩
      by_cases hb : b = n
      · subst hb; exact Or.inr h2
      · exact Or.inl ⟨b, by omega, h2⟩
