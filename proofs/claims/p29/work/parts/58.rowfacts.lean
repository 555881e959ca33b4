/-! WHAT HOLDS OF EVERY ROW THAT CAN BE: ways, wrecks, boats, sums -/
def gLN (f : Nat → Int32) (g : Nat) : Nat := (f (4 * g + 0)).toNatClampNeg
def wyN (f : Nat → Int32) : Nat → Nat → Nat → Nat
  | 0, _, c => gLN f 0 - c
  | k + 1, g, c => if g = 0 then gLN f 0 - c else (gLN f g - c) + wyN f k (f (4 * g + 2)).toNatClampNeg (f (4 * g + 3)).toNatClampNeg
theorem gLN_e {f : Nat → Int32} {ng g : Nat} (hG : GG f ng) (hg : g < ng) : f (4 * g + 0) = nI (gLN f g) ∧ 4 ≤ gLN f g ∧ gLN f g ≤ 40 := by
  obtain ⟨L, l1, l2, l3⟩ := (hG.2.2.2 g hg).1
  have e : gLN f g = L := by unfold gLN; rw [l3, nI_clamp (by omega)]
  rw [e]; exact ⟨l3, l1, l2⟩
theorem into_e {f : Nat → Int32} {ng g : Nat} (hG : GG f ng) (hg : g < ng) (h0 : 0 < g) : ∃ i a, i < g ∧ a < gLN f i ∧ f (4 * g + 2) = nI i ∧ f (4 * g + 3) = nI a := by
  obtain ⟨i, a, L, i1, i2, i3, i4, i5, i6⟩ := (hG.2.2.2 g hg).2.2 h0
  have e : gLN f i = L := by unfold gLN; rw [i4, nI_clamp (by omega)]
  exact ⟨i, a, i1, by omega, i2, i3⟩
theorem nI_sb {a b : Nat} (h : b ≤ a) : nI a - nI b = nI (a - b) := by
  have e : nI a = nI (a - b) + nI b := by rw [nI_add, Nat.sub_add_cancel h]
  rw [e, Int32.add_sub_cancel]
theorem drn_wy {f : Nat → Int32} {ng : Nat} (hG : GG f ng) : ∀ (k s g c : Nat), g ≤ k → g < ng → c ≤ gLN f g → drn f k (nI s) g (nI c) = nI (s + wyN f k g c)
  | 0, s, g, c, h1, h2, h3 => by
    obtain rfl : g = 0 := by omega
    obtain ⟨e1, -, -⟩ := gLN_e hG h2
    show nI s + f (4 * 0 + 0) - nI c = nI (s + (gLN f 0 - c))
    rw [e1, nI_add, nI_sb (by omega), Nat.add_sub_assoc h3]
  | k + 1, s, g, c, h1, h2, h3 => by
    have h6 := hG.2.1
    obtain ⟨e1, -, -⟩ := gLN_e hG h2
    show (if g = 0 then nI s + f 0 - nI c else drn f k (nI s + (f (4 * g + 0) - nI c)) (f (4 * g + 2)).toNatClampNeg (f (4 * g + 3))) = nI (s + (if g = 0 then gLN f 0 - c else (gLN f g - c) + wyN f k (f (4 * g + 2)).toNatClampNeg (f (4 * g + 3)).toNatClampNeg))
    by_cases h0 : g = 0
    · subst h0
      rw [if_pos rfl, if_pos rfl, show f 0 = nI (gLN f 0) from e1, nI_add, nI_sb (by omega), Nat.add_sub_assoc h3]
    · rw [if_neg h0, if_neg h0]
      obtain ⟨i, a, i1, i2, i3, i4⟩ := into_e hG h2 (by omega)
      have hi := gLN_e hG (show i < ng by omega)
      rw [i3, i4, nI_clamp (show i < 2 ^ 31 by omega), nI_clamp (show a < 2 ^ 31 by omega), e1, nI_sb h3, nI_add, drn_wy hG k _ i a (by omega) (by omega) (by omega)]
      rw [Nat.add_assoc]
theorem wyN_le {f : Nat → Int32} {ng : Nat} (hG : GG f ng) : ∀ (k g c : Nat), g ≤ k → g < ng → wyN f k g c ≤ 40 * (k + 1)
  | 0, g, c, h1, h2 => by
    obtain rfl : g = 0 := by omega
    have := (gLN_e hG h2).2.2
    show gLN f 0 - c ≤ _
    omega
  | k + 1, g, c, h1, h2 => by
    have h6 := hG.2.1
    have hL := (gLN_e hG h2).2.2
    show (if g = 0 then gLN f 0 - c else (gLN f g - c) + wyN f k (f (4 * g + 2)).toNatClampNeg (f (4 * g + 3)).toNatClampNeg) ≤ _
    by_cases h0 : g = 0
    · subst h0; rw [if_pos rfl]; omega
    · rw [if_neg h0]
      obtain ⟨i, a, i1, i2, i3, i4⟩ := into_e hG h2 (by omega)
      rw [i3, nI_clamp (show i < 2 ^ 31 by omega)]
      have := wyN_le hG k i (f (4 * g + 3)).toNatClampNeg (by omega) (by omega)
      omega
theorem wyN_f {f : Nat → Int32} {ng : Nat} (hG : GG f ng) : ∀ (k g c : Nat), g ≤ k → g < ng → wyN f (k + 1) g c = wyN f k g c
  | 0, g, c, h1, h2 => by
    obtain rfl : g = 0 := by omega
    show (if 0 = 0 then _ else _) = _
    rw [if_pos rfl]; rfl
  | k + 1, g, c, h1, h2 => by
    have h6 := hG.2.1
    show (if g = 0 then gLN f 0 - c else (gLN f g - c) + wyN f (k + 1) (f (4 * g + 2)).toNatClampNeg (f (4 * g + 3)).toNatClampNeg) = (if g = 0 then gLN f 0 - c else (gLN f g - c) + wyN f k (f (4 * g + 2)).toNatClampNeg (f (4 * g + 3)).toNatClampNeg)
    by_cases h0 : g = 0
    · rw [if_pos h0, if_pos h0]
    · rw [if_neg h0, if_neg h0]
      obtain ⟨i, a, i1, i2, i3, i4⟩ := into_e hG h2 (by omega)
      rw [i3, nI_clamp (show i < 2 ^ 31 by omega), wyN_f hG k i _ (by omega) (by omega)]
/-- the way from a cell; it goes on by 1 -/
abbrev wayN (f : Nat → Int32) (g c : Nat) : Nat := wyN f 6 g c
theorem way_e {f : Nat → Int32} {ng g c : Nat} (hG : GG f ng) (hg : g < ng) (hc : c ≤ gLN f g) : drn f 6 0 g (nI c) = nI (wayN f g c) ∧ wayN f g c ≤ 280 := by
  have h6 := hG.2.1
  have h := drn_wy hG 6 0 g c (by omega) hg hc
  rw [Nat.zero_add] at h
  exact ⟨h, wyN_le hG 6 g c (by omega) hg⟩
theorem way_1 {f : Nat → Int32} {g c : Nat} (hc : c < gLN f g) : wayN f g c = wayN f g (c + 1) + 1 := by
  show (if g = 0 then gLN f 0 - c else (gLN f g - c) + wyN f 5 (f (4 * g + 2)).toNatClampNeg (f (4 * g + 3)).toNatClampNeg) = (if g = 0 then gLN f 0 - (c + 1) else (gLN f g - (c + 1)) + wyN f 5 (f (4 * g + 2)).toNatClampNeg (f (4 * g + 3)).toNatClampNeg) + 1
  by_cases h0 : g = 0
  · subst h0; rw [if_pos rfl, if_pos rfl]; omega
  · rw [if_neg h0, if_neg h0]; omega
theorem way_2 {f : Nat → Int32} {c : Nat} (hc : c + 1 = gLN f 0) : wayN f 0 c = 1 := by
  show (if 0 = 0 then gLN f 0 - c else _) = _
  rw [if_pos rfl]; omega
theorem way_3 {f : Nat → Int32} {ng g c i a : Nat} (hG : GG f ng) (hg : g < ng) (h0 : 0 < g) (hc : c + 1 = gLN f g) (e2 : f (4 * g + 2) = nI i) (e3 : f (4 * g + 3) = nI a) (hi : i < g) (ha : a < gLN f i) : wayN f g c = wayN f i a + 1 := by
  have h6 := hG.2.1
  have hi9 := (gLN_e hG (show i < ng by omega)).2.2
  show (if g = 0 then gLN f 0 - c else (gLN f g - c) + wyN f 5 (f (4 * g + 2)).toNatClampNeg (f (4 * g + 3)).toNatClampNeg) = wyN f 6 i a + 1
  rw [if_neg (by omega), e2, e3, nI_clamp (show i < 2 ^ 31 by omega), nI_clamp (show a < 2 ^ 31 by omega), wyN_f hG 5 i a (by omega) (by omega)]
  omega
/-! wrecks of a gutter -/
theorem cntN_pos {P : Nat → Bool} : ∀ (n : Nat), 0 < cntN P n → ∃ j, j < n ∧ P j = true
  | 0, h => absurd h (Nat.not_lt_zero _)
  | n + 1, h => by
    by_cases hp : P n = true
    · exact ⟨n, by omega, hp⟩
    · rw [cntN_s (Bool.eq_false_iff.mpr hp)] at h
      obtain ⟨j, j1, j2⟩ := cntN_pos n h
      exact ⟨j, by omega, j2⟩
theorem lwR_n {f : Nat → Int32} {nb : Nat} {g : Int32} : ∀ (j c : Nat), (∀ i, c ≤ i → i < c + j → wrk f nb g (nI i) = false) → lwR f nb g j c = -1
  | 0, _, _ => rfl
  | j + 1, c, h => by
    unfold lwR
    rw [if_neg (by rw [h c (by omega) (by omega)]; decide)]
    exact lwR_n j (c + 1) (fun i h1 h2 => h i (by omega) (by omega))
theorem lwR_s {f : Nat → Int32} {nb : Nat} {g : Int32} : ∀ (j c i : Nat), c ≤ i → i < c + j → c + j < 2 ^ 31 → wrk f nb g (nI i) = true → lwR f nb g j c ≠ -1
  | 0, c, i, h1, h2, _, _ => absurd h2 (by omega)
  | j + 1, c, i, h1, h2, h3, h4 => by
    unfold lwR
    split
    · exact nI_nm1 (by omega)
    · rename_i q
      have : c ≠ i := fun z => q (by rw [z]; exact h4)
      exact lwR_s j (c + 1) i (by omega) (by omega) (by omega) h4
theorem wrecks_g {f : Nat → Int32} {ng nb g : Nat} (h : RI f ng nb) (hg : g < ng) : igF f nb (nI g) 3 = 0 ↔ lwR f nb (nI g) (gLN f g) 0 = -1 := by
  have h6 := h.1.2.1
  have h9 := h.2.2.1
  obtain ⟨e1, e2, e3⟩ := gLN_e h.1 hg
  constructor
  · intro q
    refine lwR_n _ 0 (fun i _ hi => ?_)
    cases hw : wrk f nb (nI g) (nI i) with
    | false => rfl
    | true =>
      obtain ⟨b, b1, b2⟩ := (anyN_iff _ nb).mp hw
      have b3 := of_decide_eq_true b2
      have := cntN_0 nb q b b1
      rw [decide_eq_true ⟨b3.1, b3.2.1⟩] at this
      cases this
  · intro q
    rcases Nat.eq_zero_or_pos (igF f nb (nI g) 3) with z | z
    · exact z
    · obtain ⟨b, b1, b2⟩ := cntN_pos nb z
      have b3 := of_decide_eq_true b2
      obtain ⟨g9, c9, L9, k1, k2, k3, k4, k5, k6⟩ := h.inC b1 (Or.inr b3.1)
      have hgg : g9 = g := (nI_eq (by omega) (by omega)).mp (k2.symm.trans b3.2)
      subst hgg
      have hL : L9 = gLN f g9 := (nI_eq (by omega) (by omega)).mp (k4.symm.trans e1)
      have hw : wrk f nb (nI g9) (nI c9) = true := (anyN_iff _ nb).mpr ⟨b, b1, decide_eq_true ⟨b3.1, b3.2, k3⟩⟩
      exact absurd q (lwR_s (gLN f g9) 0 c9 (by omega) (by omega) (by omega) hw)
/-! boats -/
theorem boat_f {f : Nat → Int32} {ng nb b : Nat} (h : RI f ng nb) (hU : UD f nb) (hb : b < nb) : ∃ S, S ≤ 4 ∧ f (24 + 10 * b + 3) = nI S ∧
    ((S = 1 ∨ S = 3) → ∃ g c, g < ng ∧ c < gLN f g ∧ boV f b 4 = nI g ∧ boV f b 5 = nI c) ∧ (¬ (S = 1 ∨ S = 3) → boV f b 4 = -1 ∧ boV f b 5 = -1) ∧ (S = 2 → ∃ q, 1 ≤ q ∧ q ≤ 11 ∧ boV f b 7 = nI q) ∧ (S ≠ 2 → boV f b 7 = -1) ∧ (S = 2 → f 150 = 1) := by
  have h9 := h.2.2.1
  obtain ⟨F, W, O, S, K, a1, a2, a3, a4, a5, a6, b0, b1, b2, b3, b4, b5, b6⟩ := h.2.2.2.1 b hb
  have eS : ∀ x : Nat, x < 100 → (f (24 + 10 * b + 3) = nI x ↔ S = x) := fun x hx => by rw [b3]; exact nI_eq (by omega) (by omega)
  have e1 : f (24 + 10 * b + 3) = 1 ↔ S = 1 := eS 1 (by omega)
  have e2 : f (24 + 10 * b + 3) = 2 ↔ S = 2 := eS 2 (by omega)
  have e3 : f (24 + 10 * b + 3) = 3 ↔ S = 3 := eS 3 (by omega)
  have v4 : boV f b 4 = nv f b 4 := if_neg (by omega)
  have v5 : boV f b 5 = nv f b 5 := if_neg (by omega)
  have v7 : boV f b 7 = nv f b 7 := if_neg (by omega)
  refine ⟨S, a5, b3, fun q => ?_, fun q => ?_, fun q => ?_, fun q => ?_, fun q => ?_⟩
  · have hs : f (24 + 10 * b + 3) = 1 ∨ f (24 + 10 * b + 3) = 3 := by rw [e1, e3]; exact q
    obtain ⟨g, c, L, g1, g2, g3, g4, g5, g6⟩ := b6 q
    have e : gLN f g = L := by unfold gLN; rw [g4, nI_clamp (by omega)]
    exact ⟨g, c, g1, by omega, by rw [v4, nv4 hs]; exact g2, by rw [v5, nv5 hs]; exact g3⟩
  · have hs : ¬ (f (24 + 10 * b + 3) = 1 ∨ f (24 + 10 * b + 3) = 3) := by rw [e1, e3]; exact q
    exact ⟨by rw [v4, nv4n hs], by rw [v5, nv5n hs]⟩
  · obtain ⟨p1, p2, p3⟩ := h.2.2.2.2.2.2.1
    obtain ⟨x, x1, x2, x3⟩ := p2 b hb (e2.mpr q)
    have := cntN_le (fun b => decide (f (24 + 10 * b + 3) = 2)) nb
    exact ⟨x, x1, Nat.le_trans (Nat.le_trans x2 this) h9, by rw [v7, nv7 (e2.mpr q)]; exact x3⟩
  · rw [v7, nv7n (fun z => q (e2.mp z))]
  · rcases hU with ⟨u1, -⟩ | ⟨-, -, u3⟩
    · exact u1
    · exact absurd (e2.mpr q) (cntS_0 u3 b hb)
/-- the five counts -/
theorem cntS_1 {f : Nat → Int32} {n : Nat} {x : Int32} : cntS f (n + 1) x = cntS f n x + (if f (24 + 10 * n + 3) = x then 1 else 0) := by
  show cntN _ n + (if decide (f (24 + 10 * n + 3) = x) = true then 1 else 0) = _
  by_cases q : f (24 + 10 * n + 3) = x
  · rw [decide_eq_true q, if_pos rfl, if_pos q]; rfl
  · rw [decide_eq_false q, if_neg (by decide), if_neg q]; rfl
theorem nI_if {a b : Nat} (ha : a < 100) (hb : b < 100) : (if nI a = nI b then 1 else 0 : Nat) = if a = b then 1 else 0 := by
  by_cases q : a = b
  · subst q; rw [if_pos rfl, if_pos rfl]
  · rw [if_neg q, if_neg (fun z => q ((nI_eq (by omega) (by omega)).mp z))]
theorem five {f : Nat → Int32} : ∀ (n : Nat), (∀ b, b < n → ∃ S, S ≤ 4 ∧ f (24 + 10 * b + 3) = nI S) → cntS f n (nI 0) + cntS f n (nI 1) + cntS f n (nI 2) + cntS f n (nI 3) + cntS f n (nI 4) = n
  | 0, _ => rfl
  | n + 1, h => by
    have ih := five n (fun b hb => h b (by omega))
    obtain ⟨S, s1, s2⟩ := h n (by omega)
    have e : ∀ o, o < 5 → cntS f (n + 1) (nI o) = cntS f n (nI o) + (if S = o then 1 else 0) := fun o ho => by rw [cntS_1, s2, nI_if (by omega) (by omega)]
    rw [e 0 (by omega), e 1 (by omega), e 2 (by omega), e 3 (by omega), e 4 (by omega)]
    rcases (show S = 0 ∨ S = 1 ∨ S = 2 ∨ S = 3 ∨ S = 4 by omega) with q | q | q | q | q <;> subst q <;> simp <;> omega
/-- the boats of the four owners -/
theorem bof_1 {f : Nat → Int32} {n : Nat} {x : Int32} : bofF f (n + 1) x = bofF f n x + (if f (24 + 10 * n + 2) = x then 1 else 0) := by
  show cntN _ n + (if decide (f (24 + 10 * n + 2) = x) = true then 1 else 0) = _
  by_cases q : f (24 + 10 * n + 2) = x
  · rw [decide_eq_true q, if_pos rfl, if_pos q]; rfl
  · rw [decide_eq_false q, if_neg (by decide), if_neg q]; rfl
theorem mine4 {f : Nat → Int32} : ∀ (n : Nat), (∀ b, b < n → ∃ O, O ≤ 3 ∧ f (24 + 10 * b + 2) = nI O) → smN (fun o => bofF f n (nI o)) 4 = n
  | 0, _ => rfl
  | n + 1, h => by
    have ih := mine4 n (fun b hb => h b (by omega))
    obtain ⟨O, s1, s2⟩ := h n (by omega)
    have e : ∀ o, o < 4 → bofF f (n + 1) (nI o) = bofF f n (nI o) + (if O = o then 1 else 0) := fun o ho => by rw [bof_1, s2, nI_if (by omega) (by omega)]
    show 0 + bofF f (n + 1) (nI 0) + bofF f (n + 1) (nI 1) + bofF f (n + 1) (nI 2) + bofF f (n + 1) (nI 3) = n + 1
    have ih9 : 0 + bofF f n (nI 0) + bofF f n (nI 1) + bofF f n (nI 2) + bofF f n (nI 3) = n := ih
    rw [e 0 (by omega), e 1 (by omega), e 2 (by omega), e 3 (by omega)]
    rcases (show O = 0 ∨ O = 1 ∨ O = 2 ∨ O = 3 by omega) with q | q | q | q <;> subst q <;> simp <;> omega
theorem cntN_m {P Q : Nat → Bool} : ∀ (n : Nat), (∀ j, j < n → P j = true → Q j = true) → cntN P n ≤ cntN Q n
  | 0, _ => Nat.le_refl _
  | n + 1, h => by
    have ih := cntN_m (P := P) (Q := Q) n (fun j hj => h j (by omega))
    unfold cntN
    by_cases hp : P n = true
    · rw [if_pos hp, if_pos (h n (by omega) hp)]; omega
    · rw [if_neg hp]; split <;> omega
theorem clb_le {f : Nat → Int32} {nb o : Nat} : clbF f nb o ≤ cntS f nb 3 :=
  cntN_m nb (fun j _ hp => decide_eq_true (whyF_0 (of_decide_eq_true hp)).1)
