/-! the model: cells, claims, hooks, new things, launches, settings -/
theorem anyN_f {P : Nat → Bool} {n : Nat} (h : anyN P n = false) (h2 : P n = false) : anyN P (n + 1) = false := by
  show (anyN P n || P n) = false; rw [h, h2]; rfl
def icl (f : Nat → Int32) (ng : Nat) (x y : Int32) : Bool := decide (0 ≤ x ∧ x < nI ng) && decide (0 ≤ y ∧ y < f (4 * x.toNatClampNeg + 0))
theorem icl_0 {f : Nat → Int32} {ng : Nat} {x y : Int32} (h : ¬ (0 ≤ x ∧ x < nI ng)) : icl f ng x y = false := by
  unfold icl; rw [decide_eq_false h]; rfl
theorem icl_1 {f : Nat → Int32} {ng i : Nat} {y : Int32} (hi : i < ng) (h9 : ng < 1000) : icl f ng (nI i) y = decide (0 ≤ y ∧ y < f (4 * i + 0)) := by
  unfold icl; rw [decide_eq_true ⟨nI_pos' (by omega), nI_lt hi (by omega)⟩, nI_clamp (by omega)]; rfl
theorem icl_in {f : Nat → Int32} {ng : Nat} {x y : Int32} (hG : GG f ng) (h : icl f ng x y = true) : ∃ g c L, x = nI g ∧ y = nI c ∧ g < ng ∧ f (4 * g + 0) = nI L ∧ c < L ∧ L ≤ 40 := by
  have h6 := hG.2.1
  by_cases h0 : 0 ≤ x ∧ x < nI ng
  · obtain ⟨g, hg, rfl⟩ := nIx (r := ng) (by omega) (Int32.not_lt.mpr h0.1) (Int32.not_le.mpr h0.2)
    rw [icl_1 hg (by omega)] at h
    obtain ⟨L, l1, l2, l3⟩ := (hG.2.2.2 g hg).1
    rw [l3] at h
    have h1 := of_decide_eq_true h
    obtain ⟨c, hc, rfl⟩ := nIx (r := L) (by omega) (Int32.not_lt.mpr h1.1) (Int32.not_le.mpr h1.2)
    exact ⟨g, c, L, rfl, rfl, hg, l3, hc, l2⟩
  · rw [icl_0 h0] at h; cases h
theorem clrF_n {lo hi j : Nat} {f : Nat → Int32} (h : j < lo ∨ hi ≤ j) : clrF lo hi f j = f j := if_neg (by omega)
theorem drn_c {f f' : Nat → Int32} {ng : Nat} (hG : GG f ng) (h : ∀ j, j < 24 → f' j = f j) : ∀ (k g : Nat) (sm c : Int32), g < ng → drn f' k sm (nI g).toNatClampNeg c = drn f k sm (nI g).toNatClampNeg c
  | 0, g, sm, c, _ => by show sm + f' 0 - c = sm + f 0 - c; rw [h 0 (by omega)]
  | k + 1, g, sm, c, hg => by
    have h6 := hG.2.1
    rw [nI_clamp (show g < 2 ^ 31 by omega)]
    show (if _ then _ else _) = (if _ then _ else _)
    by_cases h0 : g = 0
    · rw [if_pos h0, if_pos h0, h 0 (by omega)]
    · rw [if_neg h0, if_neg h0, h (4 * g + 0) (by omega), h (4 * g + 2) (by omega), h (4 * g + 3) (by omega)]
      obtain ⟨i, a, L, i1, e1, -⟩ := (hG.2.2.2 g hg).2.2 (by omega)
      rw [e1]
      exact drn_c hG h k i _ _ (by omega)
theorem ln1_n {f : Nat → Int32} {nb j : Nat} (h1 : j ≠ 149) (h2 : j ≠ 150) (h3 : j ≠ 153) : ln1 f nb j = f j := by
  unfold ln1; split
  · rw [pk_un h3, pk_un h2, pk_un h1]
  · rfl
theorem lnF_n {f : Nat → Int32} {nb b j : Nat} {g : Int32} (h1 : j ≠ 149) (h2 : j ≠ 150) (h3 : j ≠ 153) (h4 : j < 24 + 10 * b + 3 ∨ 24 + 10 * b + 6 < j) : lnF f nb b g j = f j := by
  unfold lnF; rw [pk_un (by omega), pk_un (by omega), pk_un (by omega), pk_un (by omega)]; exact ln1_n h1 h2 h3
theorem drn_ln {f : Nat → Int32} {ng nb b g : Nat} (hG : GG f ng) (hg : g < ng) : drn (lnF f nb b (nI g)) 6 0 g 0 = drn f 6 0 g 0 := by
  have h6 := hG.2.1
  have := drn_c hG (f' := lnF f nb b (nI g)) (fun j hj => lnF_n (by omega) (by omega) (by omega) (by omega)) 6 g 0 0 hg
  rw [nI_clamp (by omega)] at this
  exact this
