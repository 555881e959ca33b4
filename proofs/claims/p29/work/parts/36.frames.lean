/-! what a drift leaves as it is -/
theorem mvd_n {f : Nat → Int32} {b j : Nat} {g c : Int32} (h : j < 24 + 10 * b + 4 ∨ 24 + 10 * b + 9 < j ∨ j = 24 + 10 * b + 6 ∨ j = 24 + 10 * b + 7 ∨ j = 24 + 10 * b + 8) : mvd f b g c j = f j := by
  unfold mvd
  rw [pk_un (by omega), pk_un (by omega), pk_un (by omega)]
theorem arv_n {f : Nat → Int32} {b j : Nat} (h : j < 24 + 10 * b + 3 ∨ 24 + 10 * b + 9 < j ∨ j = 24 + 10 * b + 4 ∨ j = 24 + 10 * b + 5 ∨ j = 24 + 10 * b + 6 ∨ j = 24 + 10 * b + 8) (h2 : j ≠ 153) : arv f b j = f j := by
  unfold arv
  rw [pk_un (by omega), pk_un (by omega), pk_un (by omega), pk_un h2]
theorem mv2_n {f : Nat → Int32} {nb b j : Nat} {g c : Int32} (h : j < 24 + 10 * b + 4 ∨ 24 + 10 * b + 9 < j ∨ j = 24 + 10 * b + 6 ∨ j = 24 + 10 * b + 7 ∨ j = 24 + 10 * b + 8) : (mv2 f nb b g c).2 j = f j := by
  unfold mv2
  split
  · rfl
  · exact mvd_n h
theorem mv_n {f : Nat → Int32} {nb b j : Nat} (h : j < 24 + 10 * b + 3 ∨ 24 + 10 * b + 9 < j ∨ j = 24 + 10 * b + 6 ∨ j = 24 + 10 * b + 8) (h2 : j ≠ 153) : (mv f nb b).2 j = f j := by
  unfold mv
  split
  · split
    · exact arv_n (by omega) h2
    · exact mv2_n (by omega)
  · exact mv2_n (by omega)
/-- the boat is in a cell of some gutter -/
def inC9 (f : Nat → Int32) (ng b : Nat) : Prop := ∃ g c L, g < ng ∧ f (24 + 10 * b + 4) = nI g ∧ f (24 + 10 * b + 5) = nI c ∧ f (4 * g + 0) = nI L ∧ c < L ∧ L ≤ 40
theorem mvd_4 {f : Nat → Int32} {b : Nat} {g c : Int32} : mvd f b g c (24 + 10 * b + 4) = g := by
  unfold mvd; rw [pk_un (by omega), pk_un (by omega), pk_us]
theorem mvd_5 {f : Nat → Int32} {b : Nat} {g c : Int32} : mvd f b g c (24 + 10 * b + 5) = c := by
  unfold mvd; rw [pk_un (by omega), pk_us]
theorem mv_go {f : Nat → Int32} {ng nb b : Nat} (hG : GG f ng) (hb : inC9 f ng b) (hb9 : b < 11) : ((mv f nb b).1 = true ∧ inC9 (mv f nb b).2 ng b ∧ ∃ g c, (mv f nb b).2 = mvd f b g c) ∨ ((mv f nb b).1 = false ∧ ((mv f nb b).2 = f ∨ (mv f nb b).2 = arv f b)) := by
  obtain ⟨g, c, L, h1, h2, h3, h4, h5, h6⟩ := hb
  have h7 := hG.2.1
  have hc : f (24 + 10 * b + 5) + 1 = nI (c + 1) := by rw [h3, nI_1]
  by_cases e1 : c + 1 = L
  · have e2 : f (24 + 10 * b + 5) + 1 = f (4 * g + 0) := by rw [hc, h4, e1]
    by_cases e3 : g = 0
    · rw [mv_1 h2 (by omega) e2 (by rw [e3]; decide)]
      exact Or.inr ⟨rfl, Or.inr rfl⟩
    · rw [mv_2 h2 (by omega) e2 (nI_ne0 (by omega) (by omega))]
      obtain ⟨i, a, L2, d1, d2, d3, d4, d5, d6⟩ := (hG.2.2.2 g h1).2.2 (by omega)
      unfold mv2
      split
      · exact Or.inr ⟨rfl, Or.inl rfl⟩
      · refine Or.inl ⟨rfl, ⟨i, a, L2, by omega, mvd_4.trans d2, mvd_5.trans d3, ?_, d5, d6⟩, _, _, rfl⟩
        show mvd f b _ _ (4 * i + 0) = _
        rw [mvd_n (by omega)]; exact d4
  · have e2 : f (24 + 10 * b + 5) + 1 ≠ f (4 * g + 0) := by
      rw [hc, h4]
      exact fun q => e1 ((nI_eq (by omega) (by omega)).mp q)
    rw [mv_3 h2 (by omega) e2]
    unfold mv2
    split
    · exact Or.inr ⟨rfl, Or.inl rfl⟩
    · refine Or.inl ⟨rfl, ⟨g, c + 1, L, h1, mvd_4, mvd_5.trans hc, ?_, by omega, h6⟩, _, _, rfl⟩
      show mvd f b _ _ (4 * g + 0) = _
      rw [mvd_n (by omega)]; exact h4
theorem drf_n {nb b j : Nat} (h : j < 24 + 10 * b + 3 ∨ 24 + 10 * b + 9 < j ∨ j = 24 + 10 * b + 6 ∨ j = 24 + 10 * b + 8) (h2 : j ≠ 153) : ∀ (k : Nat) (f : Nat → Int32), drf nb b k f j = f j
  | 0, _ => rfl
  | k + 1, f => by
    unfold drf
    split
    · rw [drf_n h h2 k, mv_n h h2]
    · exact mv_n h h2
theorem soa_n {f : Nat → Int32} {b j : Nat} (h : j ≠ 24 + 10 * b + 3) (h2 : j ≠ 24 + 10 * b + 6) : soa f b j = f j := by
  unfold soa; rw [pk_un h, pk_un h2]
theorem dri_n {f : Nat → Int32} {nb b j : Nat} (h : j < 24 + 10 * b + 3 ∨ 24 + 10 * b + 9 < j ∨ j = 24 + 10 * b + 8) (h2 : j ≠ 153) : dri f nb b j = f j := by
  unfold dri
  split
  · rw [soa_n (by omega) (by omega), drf_n (by omega) h2]
  · exact drf_n (b := b) (by omega) h2 _ _
theorem bea_u {f f' : Nat → Int32} {b : Nat} (h0 : f' (24 + 10 * b + 0) = f (24 + 10 * b + 0)) (h1 : f' (24 + 10 * b + 1) = f (24 + 10 * b + 1)) (h2 : f' 155 = f 155) : bea f' b = bea f b := by
  unfold bea; rw [h0, h1, h2]
theorem cl_le {x : Int32} {k : Nat} (hk : k < 2 ^ 31) : x ≤ nI k ↔ x.toNatClampNeg ≤ k := by
  rw [le_i, nI_toInt hk]
  show _ ↔ x.toInt.toNat ≤ k
  omega
