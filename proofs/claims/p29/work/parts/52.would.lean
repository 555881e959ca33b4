/-! the model: what would be -/
def eiV (s x n : Int32) : Int32 := if decide (s = 3) = decide (x = 1) then n else -1
def wnR (f F : Nat → Int32) : Nat → Nat → Int32
  | 0, _ => -1
  | j + 1, c => if F (24 + 10 * c + 8) ≤ f (24 + 10 * c + 8) then wnR f F j (c + 1) else nI c
def lfT (f : Nat → Int32) (g : Nat) (x : Int32) (i : Nat) : Nat × (Nat → Int32) := gtl (bN f + 1) (bN f) 94 (lnF (adbF f (bN f) (nI i) x 0) (bN f + 1) (bN f) (nI g))
def lfR (f : Nat → Int32) (g : Nat) (x : Int32) : Nat → Nat → (Nat → Int32) → Int32 × (Nat → Int32)
  | 0, _, tr => (-1, tr)
  | j + 1, i, _ => if (lfT f g x i).2 (24 + 10 * bN f + 3) = 3 then lfR f g x j (i + 1) (lfT f g x i).2 else (nI i, (lfT f g x i).2)
theorem lhe_st {f : Nat → Int32} {ng nb m : Nat} (h : RI f ng nb) (hK : ∀ b, b < nb → f (24 + 10 * b + 3) = 1 → ∃ K, f (24 + 10 * b + 6) = nI K ∧ m ≤ K ∧ K ≤ 93) : ∀ b, b < nb → (gmi f nb).2 (24 + 10 * b + 3) = 1 → ∃ K, (gmi f nb).2 (24 + 10 * b + 6) = nI K ∧ m + 1 ≤ K ∧ K ≤ 93 := by
  intro b hb q
  have hs1 := gmi_new h hb q
  obtain ⟨K, e1, k1, k2⟩ := hK b hb hs1
  obtain ⟨K2, k3, e2⟩ := (RI_gmi h).soak hb q
  obtain ⟨r, m9, d, b1, b2, b3, b4, b5, b6, b7⟩ := h.2.2.2.2.1
  have e3 := gmi_soak h hb hs1 q
  rw [e1, b5, e2, show (1 : Int32) + nI r = nI (1 + r) from nI_add 1 r, nI_add] at e3
  have := (nI_eq (by omega) (by omega)).mp e3
  exact ⟨K2, e2, by omega, k3⟩
