theorem dgS_len {t : Nat → Int32} {len : Nat} {lo hi : Int32} {q : Nat × Bool} (h0 : 0 ≤ lo) (h : q.1 ≤ len) : (dgS t len lo hi q).1 ≤ len := by
  cases hb : (dgS t len lo hi q).2
  · unfold dgS at hb ⊢
    split
    · rename_i c; rw [if_pos c] at hb; cases hb
    · exact h
  · obtain ⟨-, a, b⟩ := dgS_t h0 hb
    omega
theorem twS_len {t : Nat → Int32} {len a : Nat} {hi : Int32} {q : Nat × Bool} (ha : a < 100) (h : q.1 ≤ len) : (twS t len (nI a) hi q).1 ≤ len := by
  unfold twS
  exact dgS_len (twL_0 ha rfl) (dgS_len (by rw [show nI a / 10 = nI (a / 10) from pk_div (d := 10) (by omega) (by omega) (by omega)]; exact nI_pos' (by omega)) h)
theorem pz_len {t : Nat → Int32} {len y : Nat} {z : Int32} (h : y ≤ len) : (pz t len z y).1.1 ≤ len := by
  unfold pz
  split
  · exact twS_len (a := 0) (by omega) (dgS_len (by decide) (dgS_len (by decide) (twS_len (a := 4) (by omega) h)))
  split
  · exact dgS_len (by decide) (dgS_len (by decide) (dgS_len (by decide) h))
  split
  · exact dgS_len (by decide) (dgS_len (by decide) h)
  split
  · exact twS_len (a := 1) (by omega) h
  split
  · exact twS_len (a := 0) (by omega) (dgS_len (by decide) (dgS_len (by decide) h))
  split
  · exact dgS_len (by decide) (dgS_len (by decide) h)
  split
  · exact dgS_len (by decide) (dgS_len (by decide) h)
  · exact h
