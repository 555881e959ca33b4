/-! the model: commands on the trial, scripts, simulations -/
theorem drn_n {f : Nat → Int32} {ng : Nat} (hG : GG f ng) : ∀ (k g a c L : Nat), g ≤ k → g < ng → f (4 * g + 0) = nI L → c ≤ L → L ≤ 40 → ∃ m, m ≤ a + 40 * (k + 1) ∧ drn f k (nI a) g (nI c) = nI m
  | 0, g, a, c, L, h1, h2, h3, h4, h5 => by
    have e : g = 0 := by omega
    subst e
    refine ⟨a + L - c, by omega, ?_⟩
    show nI a + f 0 - nI c = _
    rw [show f 0 = nI L from h3, nI_add, pk_sub (by omega)]
  | k + 1, g, a, c, L, h1, h2, h3, h4, h5 => by
    show ∃ m, _ ∧ (if g = 0 then _ else _) = nI m
    by_cases e : g = 0
    · subst e
      rw [if_pos rfl, show f 0 = nI L from h3, nI_add, pk_sub (by omega)]
      exact ⟨a + L - c, by omega, rfl⟩
    · have h6 := hG.2.1
      obtain ⟨i, a9, L9, i1, e1, e2, e3, e4, e5⟩ := (hG.2.2.2 g h2).2.2 (by omega)
      rw [if_neg e, h3, e1, e2, pk_sub h4, nI_add, nI_clamp (by omega)]
      obtain ⟨m, m1, m2⟩ := drn_n hG k i (a + (L - c)) a9 L9 (by omega) (by omega) e3 (by omega) e5
      exact ⟨m, by omega, m2⟩
theorem drn_0 {f : Nat → Int32} {ng g : Nat} (hG : GG f ng) (hg : g < ng) : ∃ m, m ≤ 1000 ∧ drn f 6 0 g 0 = nI m := by
  have h6 := hG.2.1
  obtain ⟨⟨L, l1, l2, l3⟩, -⟩ := hG.2.2.2 g hg
  obtain ⟨m, m1, m2⟩ := drn_n hG 6 g 0 0 L (by omega) hg l3 (by omega) l2
  exact ⟨m, by omega, m2⟩
theorem gmb_le {f : Nat → Int32} {nb : Nat} : ∀ i, (gmb f nb i).1 ≤ i
  | 0 => Nat.le_refl 0
  | i + 1 => by
    have := gmb_le (f := f) (nb := nb) i
    rw [gmb]; split
    · show _ + (if _ then _ else _) ≤ _
      split <;> omega
    · omega
theorem gms_le {nb : Nat} : ∀ (k : Nat) (f : Nat → Int32), (gms nb k f).1 ≤ k * nb
  | 0, _ => Nat.zero_le _
  | k + 1, f => by
    have := gms_le (nb := nb) k f
    show (gms nb k f).1 + (gmb _ nb nb).1 ≤ _
    have h2 := gmb_le (f := (gms nb k f).2) (nb := nb) nb
    rw [Nat.succ_mul]; omega
/-- a claim on the trial counts its refusal there -/
def pfT (f : Nat → Int32) (a b : Int32) : Bool × (Nat → Int32) := if (0 ≤ a ∧ a ≤ 3) ∧ (0 ≤ b ∧ b < nI (bN f)) then (decide (whyF f a.toNatClampNeg b.toNatClampNeg = 0), clmF f a.toNatClampNeg b.toNatClampNeg) else (false, f)
theorem pfT_ok {f : Nat → Int32} {a b : Int32} (h : OKr f) : OKr (pfT f a b).2 := by
  unfold pfT; split
  · rename_i q
    obtain ⟨o, o1, o2, o3, o4⟩ := nI_le9 (a := 0) (b := 3) (by omega) (by omega) q.1
    obtain ⟨i, i1, i2, i3⟩ := nI_box (by have := h.2.2; omega) q.2
    rw [o4, i3]
    exact OKr.of (RI_clm h.1 (by omega) i1) (UD_clm h.1.2.2.1 h.2.1 (by omega) i1) h.2.2
  · exact h
theorem RI.set0 {f : Nat → Int32} {ng nb i : Nat} (h : RI f ng nb) (hi : i < 3) : ∃ m, m ≤ 9 ∧ f (154 + i) = nI m := by
  obtain ⟨r, m, d, b1, b2, b3, b4, b5, b6, b7⟩ := h.2.2.2.2.1
  match i, hi with
  | 0, _ => exact ⟨r, by omega, b5⟩
  | 1, _ => exact ⟨m, by omega, b6⟩
  | 2, _ => exact ⟨d, by omega, b7⟩
