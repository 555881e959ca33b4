/-! the model as an object: its fields (0 refusal, 1 states, 2 length, 3 at, 4 good, 5 leftOut), its arrays (0 now, 1 trial, 2 read, 3 book, 4 kept, 5 isKept, 6 text) -/
def upA (A : Nat → Nat → Int32) (i : Nat) (f : Nat → Int32) : Nat → Nat → Int32 := fun j => if j = i then f else A j
def mcell (w : Wt) (k : Nat) (s : Nat → Int32) (A : Nat → Nat → Int32) (i : Nat) : va_E := match i with
  | 0 => .inr (6, [.int (s 0), .ref (wB w + (k + 1)), .ref (wB w + (k + 2)), .ref (wB w + (k + 3)), .ref (wB w + (k + 4)), .int (s 1), .ref (wB w + (k + 5)), .ref (wB w + (k + 6)), .ref (wB w + (k + 7)), .int (s 2), .int (s 3), .int (s 4), .int (s 5)])
  | 1 => .inl (wC w 0, 157, .inl (A 0))
  | 2 => .inl (wC w 0, 157, .inl (A 1))
  | 3 => .inl (wC w 0, 157, .inl (A 2))
  | 4 => .inl (wC w 0, 2198, .inl (A 3))
  | 5 => .inl (wC w 0, 314, .inl (A 4))
  | 6 => .inl (wC w 1, 2, .inl (A 5))
  | _ => .inl (wC w 0, 120, .inl (A 6))
def modH (w : Wt) (hs : Hs) (k : Nat) (s : Nat → Int32) (A : Nat → Nat → Int32) : Hs := fun j => if k ≤ j ∧ j < k + 8 then some (mcell w k s A (j - k)) else hs j
section
variable {w : Wt} {hs : Hs} {k : Nat} {s : Nat → Int32} {A : Nat → Nat → Int32}
theorem mo_i {i : Nat} (h : i < 8) : modH w hs k s A (k + i) = some (mcell w k s A i) := by
  unfold modH; rw [if_pos ⟨by omega, by omega⟩, show k + i - k = i by omega]
theorem mo_0 : modH w hs k s A k = some (.inr (6, [.int (s 0), .ref (wB w + (k + 1)), .ref (wB w + (k + 2)), .ref (wB w + (k + 3)), .ref (wB w + (k + 4)), .int (s 1), .ref (wB w + (k + 5)), .ref (wB w + (k + 6)), .ref (wB w + (k + 7)), .int (s 2), .int (s 3), .int (s 4), .int (s 5)])) := mo_i (i := 0) (by omega)
theorem upA_up {i : Nat} {f g : Nat → Int32} : upA (upA A i f) i g = upA A i g := by
  funext j; unfold upA; split <;> rfl
theorem upA_id {i : Nat} : upA A i (A i) = A := by
  funext j; unfold upA; split
  · rename_i h; rw [h]
  · rfl
end
/-- the character at hand; a digit's reading: where it leads, what it is -/
def hrF (t : Nat → Int32) (len p : Nat) : Int32 := if p < len then t p else -1
def dgO (t : Nat → Int32) (len : Nat) (lo hi : Int32) (p : Nat) : Bool := decide (lo ≤ hrF t len p - 48 ∧ hrF t len p - 48 ≤ hi)
def dgS (t : Nat → Int32) (len : Nat) (lo hi : Int32) (q : Nat × Bool) : Nat × Bool := if (q.2 && dgO t len lo hi q.1) = true then (q.1 + 1, true) else (q.1, false)
def dgV (t : Nat → Int32) (len : Nat) (lo hi : Int32) (q : Nat × Bool) : Int32 := if (q.2 && dgO t len lo hi q.1) = true then hrF t len q.1 - 48 else lo
def twL (lo d : Int32) : Int32 := if d = lo / 10 then lo - lo / 10 * 10 else 0
def twH (hi d : Int32) : Int32 := if d = hi / 10 then hi - hi / 10 * 10 else 9
def twS (t : Nat → Int32) (len : Nat) (lo hi : Int32) (q : Nat × Bool) : Nat × Bool := dgS t len (twL lo (dgV t len (lo / 10) (hi / 10) q)) (twH hi (dgV t len (lo / 10) (hi / 10) q)) (dgS t len (lo / 10) (hi / 10) q)
def twV (t : Nat → Int32) (len : Nat) (lo hi : Int32) (q : Nat × Bool) : Int32 := 10 * dgV t len (lo / 10) (hi / 10) q + dgV t len (twL lo (dgV t len (lo / 10) (hi / 10) q)) (twH hi (dgV t len (lo / 10) (hi / 10) q)) (dgS t len (lo / 10) (hi / 10) q)
theorem dgS_le {t : Nat → Int32} {len : Nat} {lo hi : Int32} {q : Nat × Bool} : q.1 ≤ (dgS t len lo hi q).1 ∧ (dgS t len lo hi q).1 ≤ q.1 + 1 := by
  unfold dgS; split
  · exact ⟨by show q.1 ≤ q.1 + 1; omega, Nat.le_refl _⟩
  · exact ⟨Nat.le_refl _, by show q.1 ≤ q.1 + 1; omega⟩
theorem twS_le {t : Nat → Int32} {len : Nat} {lo hi : Int32} {q : Nat × Bool} : q.1 ≤ (twS t len lo hi q).1 ∧ (twS t len lo hi q).1 ≤ q.1 + 2 := by
  unfold twS
  have h1 := dgS_le (t := t) (len := len) (lo := lo / 10) (hi := hi / 10) (q := q)
  have h2 := dgS_le (t := t) (len := len) (lo := twL lo (dgV t len (lo / 10) (hi / 10) q)) (hi := twH hi (dgV t len (lo / 10) (hi / 10) q)) (q := dgS t len (lo / 10) (hi / 10) q)
  omega
def tnF : Nat → Int64
  | 0 => 1
  | n + 1 => tnF n * 10
def frZ (f : Nat → Int32) (i : Nat) : Nat → Int32 := fun j => if j < i then 0 else f j
def frO (f : Nat → Int32) : Nat → Nat → Int32
  | 0 => f
  | o + 1 => upd (upd (frO f o) (134 + 3 * o + 1) (-1)) (134 + 3 * o + 2) (-1)
def frF (f : Nat → Int32) : Nat → Int32 := upd (upd (frO (frZ f 157) 4) 155 3) 156 2
