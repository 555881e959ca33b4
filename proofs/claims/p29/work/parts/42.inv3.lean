/-! RI and UD through every command -/
theorem GG.ex {f f' : Nat → Int32} {ng : Nat} (h : GG f ng) (h1 : ∀ j, j < 4 * ng → f' j = f j) (h2 : f' 146 = f 146) : GG f' ng := by
  obtain ⟨q1, q2, q3, q4⟩ := h
  refine ⟨h2.trans q1, q2, fun h0 => ⟨(h1 2 (by omega)).trans (q3 h0).1, (h1 3 (by omega)).trans (q3 h0).2⟩, fun g hg => ?_⟩
  obtain ⟨⟨L, a1, a2, a3⟩, ⟨q, b1, b2⟩, b3⟩ := q4 g hg
  refine ⟨⟨L, a1, a2, (h1 _ (by omega)).trans a3⟩, ⟨q, b1, (h1 _ (by omega)).trans b2⟩, fun h0 => ?_⟩
  obtain ⟨i, a, L2, d1, d2, d3, d4, d5, d6⟩ := b3 h0
  exact ⟨i, a, L2, d1, (h1 _ (by omega)).trans d2, (h1 _ (by omega)).trans d3, (h1 _ (by omega)).trans d4, d5, d6⟩
theorem inC9.ex {f f' : Nat → Int32} {ng ng' b : Nat} (hn : ng ≤ ng') (h : inC9 f ng b) (h1 : ∀ g, g < ng → f' (4 * g + 0) = f (4 * g + 0)) (h4 : f' (24 + 10 * b + 4) = f (24 + 10 * b + 4)) (h5 : f' (24 + 10 * b + 5) = f (24 + 10 * b + 5)) : inC9 f' ng' b := by
  obtain ⟨g, c, L, a1, a2, a3, a4, a5⟩ := h
  exact ⟨g, c, L, by omega, h4.trans a2, h5.trans a3, (h1 _ a1).trans a4, a5⟩
theorem BT.ex {f f' : Nat → Int32} {ng ng' b : Nat} (hn : ng ≤ ng') (h : BT f ng b) (h1 : ∀ g, g < ng → f' (4 * g + 0) = f (4 * g + 0)) (h2 : ∀ c, c < 10 → f' (24 + 10 * b + c) = f (24 + 10 * b + c)) : BT f' ng' b := by
  obtain ⟨F, W, O, S, K, a1, a2, a3, a4, a5, a6, b0, b1, b2, b3, b4, b5, b6⟩ := h
  exact ⟨F, W, O, S, K, a1, a2, a3, a4, a5, a6, (h2 0 (by omega)).trans b0, (h2 1 (by omega)).trans b1, (h2 2 (by omega)).trans b2, (h2 3 (by omega)).trans b3, (h2 6 (by omega)).trans b4, b5, fun q => (b6 q).ex hn h1 (h2 4 (by omega)) (h2 5 (by omega))⟩
theorem OW.ex {f f' : Nat → Int32} {ng ng' : Nat} (hn : ng ≤ ng') (h : OW f ng) (h1 : ∀ g, g < ng → f' (4 * g + 0) = f (4 * g + 0)) (h2 : ∀ o, o < 4 → f' (134 + 3 * o + 1) = f (134 + 3 * o + 1) ∧ f' (134 + 3 * o + 2) = f (134 + 3 * o + 2)) : OW f' ng' := by
  intro o ho
  obtain ⟨q1, q2⟩ := h2 o ho
  rcases h o ho with ⟨a, b⟩ | ⟨g, c, L, a1, a2, a3, a4, a5⟩
  · exact Or.inl ⟨q1.trans a, q2.trans b⟩
  · exact Or.inr ⟨g, c, L, by omega, q1.trans a2, q2.trans a3, (h1 _ a1).trans a4, a5⟩
theorem SE.ex {f f' : Nat → Int32} (h : SE f) (h1 : ∀ j, 154 ≤ j → j < 157 → f' j = f j) : SE f' := by
  obtain ⟨r, m, h, b1, b2, b3, b4, b5, b6, b7⟩ := h
  exact ⟨r, m, h, b1, b2, b3, b4, (h1 _ (by omega) (by omega)).trans b5, (h1 _ (by omega) (by omega)).trans b6, (h1 _ (by omega) (by omega)).trans b7⟩
theorem PLc.ex {f f' : Nat → Int32} {nb : Nat} (h : PLc f nb) (h1 : f' 153 = f 153) (h3 : ∀ b, b < nb → (f' (24 + 10 * b + 3) = 2 ↔ f (24 + 10 * b + 3) = 2)) (h7 : ∀ b, b < nb → f' (24 + 10 * b + 7) = f (24 + 10 * b + 7)) : PLc f' nb := by
  obtain ⟨p1, p2, p3⟩ := h
  have hc : cntS f' nb 2 = cntS f nb 2 := by
    unfold cntS
    refine cntN_c nb (fun j hj => ?_)
    by_cases q : f (24 + 10 * j + 3) = 2
    · rw [decide_eq_true q, decide_eq_true ((h3 j hj).mpr q)]
    · rw [decide_eq_false q, decide_eq_false (fun z => q ((h3 j hj).mp z))]
  refine ⟨h1.trans (by rw [p1, hc]), fun b hb hs => ?_, fun x y hx hy sx sy hxy => ?_⟩
  · rw [hc, h7 b hb]; exact p2 b hb ((h3 b hb).mp hs)
  · rw [h7 x hx, h7 y hy] at hxy
    exact p3 x y hx hy ((h3 x hx).mp sx) ((h3 y hy).mp sy) hxy
theorem WN.ex {f f' : Nat → Int32} {nb : Nat} (h : WN f nb) (h1 : f' 151 = f 151) (h8 : ∀ b, b < nb → f' (24 + 10 * b + 8) = f (24 + 10 * b + 8)) : WN f' nb :=
  (h1.trans h).trans (bxs_c nb (fun j hj => (h8 j hj).symm))
theorem RI.ext {f f' : Nat → Int32} {ng nb : Nat} (h : RI f ng nb) (E : ∀ j, j < 157 → f' j = f j) : RI f' ng nb :=
  h.to (fun j hj => E j (by rcases hj with q | ⟨o, ho, q | q⟩ | q | q | q | q <;> omega))
theorem UD.ex {f f' : Nat → Int32} {nb : Nat} (h : UD f nb) (h0 : f' 150 = f 150) (h3 : ∀ b, b < nb → f' (24 + 10 * b + 3) = f (24 + 10 * b + 3)) : UD f' nb := by
  unfold UD at h ⊢
  rw [h0, cntS_c h3, cntS_c h3]; exact h
theorem UD.ext {f f' : Nat → Int32} {nb : Nat} (hnb : nb ≤ 11) (h : UD f nb) (E : ∀ j, j < 157 → f' j = f j) : UD f' nb := h.ex (E _ (by omega)) (fun b hb => E _ (by omega))
theorem UD.u01 {f : Nat → Int32} {nb : Nat} (h : UD f nb) : f 150 = 1 ∨ f 150 = 0 := by
  rcases h with h | h
  · exact Or.inl h.1
  · exact Or.inr h.1
theorem whyF_0 {f : Nat → Int32} {o b : Nat} (h : whyF f o b = 0) : f (24 + 10 * b + 3) = 3 ∧ hkd f o b ∧ ¬ f 156 < farF f o b ∧ nrr f o b = false := by
  unfold whyF at h
  by_cases h1 : f (24 + 10 * b + 3) ≠ 3
  · rw [if_pos h1] at h; exact absurd h (by decide)
  · rw [if_neg h1] at h
    by_cases h2 : ¬ hkd f o b ∨ f 156 < farF f o b
    · rw [if_pos h2] at h; exact absurd h (by decide)
    · rw [if_neg h2] at h
      by_cases h3 : nrr f o b = true
      · rw [if_pos h3] at h; exact absurd h (by decide)
      · exact ⟨Decidable.not_not.mp h1, Decidable.not_not.mp (fun q => h2 (Or.inl q)), fun q => h2 (Or.inr q), by cases hh : nrr f o b; rfl; exact absurd hh h3⟩
theorem clmF_n {f : Nat → Int32} {o b j : Nat} (h3 : j ≠ 24 + 10 * b + 3) (ho : j ≠ 134 + 3 * o) (h2 : j ≠ 152) : clmF f o b j = f j := by
  unfold clmF; split
  · rw [pk_un ho, pk_un h3]
  · rw [pk_un h2]
theorem clmF_3 {f : Nat → Int32} {o b : Nat} (hb : b < 11) : clmF f o b (24 + 10 * b + 3) = if whyF f o b = 0 then 4 else f (24 + 10 * b + 3) := by
  unfold clmF; split
  · rw [pk_un (by omega), pk_us]
  · rw [pk_un (by omega)]
theorem RI_clm {f : Nat → Int32} {ng nb o b : Nat} (h : RI f ng nb) (ho : o < 4) (hb : b < nb) : RI (clmF f o b) ng nb := by
  have hnb : nb ≤ 11 := h.2.2.1
  by_cases hw : whyF f o b = 0
  · obtain ⟨hs, -⟩ := whyF_0 hw
    have e3 : clmF f o b (24 + 10 * b + 3) = 4 := (clmF_3 (by omega)).trans (if_pos hw)
    have E : ∀ j, j ≠ 24 + 10 * b + 3 → j ≠ 134 + 3 * o → j ≠ 152 → clmF f o b j = f j := fun j => clmF_n
    have h2 : ∀ b', b' < nb → (clmF f o b (24 + 10 * b' + 3) = 2 ↔ f (24 + 10 * b' + 3) = 2) := by
      intro b' hb'
      by_cases e : b' = b
      · rw [e, e3, hs]; decide
      · rw [E _ (by omega) (by omega) (by omega)]
    refine RI_b (b := b) h (fun j hj => E j (by omega) (by omega) (by omega)) (E _ (by omega) (by omega) (by omega)) (E _ (by omega) (by omega) (by omega)) ⟨E _ (by omega) (by omega) (by omega), E _ (by omega) (by omega) (by omega), E _ (by omega) (by omega) (by omega)⟩ (fun o ho => ⟨E _ (by omega) (by omega) (by omega), E _ (by omega) (by omega) (by omega)⟩) (fun j c hj hn hc => E _ (by omega) (by omega) (by omega)) ?_ (h.2.2.2.2.2.2.1.ex (E _ (by omega) (by omega) (by omega)) h2 (fun b hb => E _ (by omega) (by omega) (by omega))) (h.2.2.2.2.2.2.2.ex (E _ (by omega) (by omega) (by omega)) (fun b hb => E _ (by omega) (by omega) (by omega)))
    obtain ⟨F, W, O, S, K, a1, a2, a3, a4, a5, a6, b0, b1, b2, b3, b4, b5, b6⟩ := h.2.2.2.1 b hb
    exact ⟨F, W, O, 4, K, a1, a2, a3, a4, by omega, a6, (E _ (by omega) (by omega) (by omega)).trans b0, (E _ (by omega) (by omega) (by omega)).trans b1, (E _ (by omega) (by omega) (by omega)).trans b2, e3.trans (by decide), (E _ (by omega) (by omega) (by omega)).trans b4, fun q => absurd q (by decide), fun q => by rcases q with q | q <;> exact absurd q (by decide)⟩
  · unfold clmF; rw [if_neg hw]
    exact h.to (fun j hj => pk_un (by rcases hj with q | ⟨o, ho, q | q⟩ | q | q | q | q <;> omega))
theorem RI_hok {f : Nat → Int32} {ng nb o g c L : Nat} (h : RI f ng nb) (ho : o < 4) (hg : g < ng) (hL : f (4 * g + 0) = nI L) (hc : c < L) (hL9 : L ≤ 40) : RI (hokF f o (nI g) (nI c)) ng nb := by
  have hnb : nb ≤ 11 := h.2.2.1
  have hng : ng ≤ 6 := h.1.2.1
  have E : ∀ j, j ≠ 134 + 3 * o + 1 → j ≠ 134 + 3 * o + 2 → hokF f o (nI g) (nI c) j = f j := fun j h1 h2 => by unfold hokF; rw [pk_un h2, pk_un h1]
  obtain ⟨a1, a2, a3, a4, a5, a6, a7, a8⟩ := h
  refine ⟨a1.to (fun j hj => E j (by omega) (by omega)) (E _ (by omega) (by omega)), (E _ (by omega) (by omega)).trans a2, a3, fun b hb => (a4 b hb).to a1.2.1 (fun j hj => E j (by omega) (by omega)) (fun c hc => E _ (by omega) (by omega)), a5.ex (fun j h1 h2 => E _ (by omega) (by omega)), ?_, a7.ex (E _ (by omega) (by omega)) (fun b hb => by rw [E _ (by omega) (by omega)]) (fun b hb => E _ (by omega) (by omega)), a8.ex (E _ (by omega) (by omega)) (fun b hb => E _ (by omega) (by omega))⟩
  intro o' ho'
  by_cases e : o' = o
  · subst e
    refine Or.inr ⟨g, c, L, hg, ?_, ?_, (E _ (by omega) (by omega)).trans hL, hc, hL9⟩
    · unfold hokF; rw [pk_un (by omega), pk_us]
    · unfold hokF; rw [pk_us]
  · rcases a6 o' ho' with ⟨q1, q2⟩ | ⟨g', c', L', q1, q2, q3, q4, q5⟩
    · exact Or.inl ⟨(E _ (by omega) (by omega)).trans q1, (E _ (by omega) (by omega)).trans q2⟩
    · exact Or.inr ⟨g', c', L', q1, (E _ (by omega) (by omega)).trans q2, (E _ (by omega) (by omega)).trans q3, (E _ (by omega) (by omega)).trans q4, q5⟩
theorem adgF_n {f : Nat → Int32} {ng j : Nat} {x y u v : Int32} (h : j < 4 * ng ∨ 4 * ng + 3 < j) (h2 : j ≠ 146) : adgF f ng x y u v j = f j := by
  unfold adgF; rw [pk_un h2, pk_un (by omega), pk_un (by omega), pk_un (by omega), pk_un (by omega)]
theorem nI_rng {x : Int32} {a b : Nat} (hb : b < 2 ^ 31) (h1 : nI a ≤ x) (h2 : x ≤ nI b) (ha : a < 2 ^ 31) : ∃ k, a ≤ k ∧ k ≤ b ∧ x = nI k := by
  have h0 : ¬ x < 0 := Int32.not_lt.mpr (Int32.le_trans (nI_pos' ha) h1)
  obtain ⟨k, hk, rfl⟩ := nI_of h0
  exact ⟨k, (nI_leI ha hk).mp h1, (nI_leI hk hb).mp h2, rfl⟩
theorem RI_adg {f : Nat → Int32} {ng nb : Nat} {x y u v : Int32} (h : RI f ng nb) (h6 : ng < 6) (hx : 4 ≤ x ∧ x ≤ 40) (hy : 0 ≤ y ∧ y ≤ 5) (hf : ng = 0 ∨ icl f ng u v = true) : RI (adgF f ng x y u v) (ng + 1) nb := by
  have hnb : nb ≤ 11 := h.2.2.1
  obtain ⟨L, l1, l2, rfl⟩ := nI_rng (a := 4) (b := 40) (by decide) hx.1 hx.2 (by decide)
  obtain ⟨q, q1, q2, rfl⟩ := nI_rng (a := 0) (b := 5) (by decide) hy.1 hy.2 (by decide)
  have E : ∀ j, (j < 4 * ng ∨ 4 * ng + 3 < j) → j ≠ 146 → adgF f ng (nI L) (nI q) u v j = f j := fun j => adgF_n
  have e0 : adgF f ng (nI L) (nI q) u v (4 * ng + 0) = nI L := by unfold adgF; rw [pk_un (by omega), pk_un (by omega), pk_un (by omega), pk_un (by omega), pk_us]
  have e1 : adgF f ng (nI L) (nI q) u v (4 * ng + 1) = nI q := by unfold adgF; rw [pk_un (by omega), pk_un (by omega), pk_un (by omega), pk_us]
  have e2 : adgF f ng (nI L) (nI q) u v (4 * ng + 2) = if ng = 0 then -1 else u := by unfold adgF; rw [pk_un (by omega), pk_un (by omega), pk_us]
  have e3 : adgF f ng (nI L) (nI q) u v (4 * ng + 3) = if ng = 0 then -1 else v := by unfold adgF; rw [pk_un (by omega), pk_us]
  have e6 : adgF f ng (nI L) (nI q) u v 146 = nI (ng + 1) := by unfold adgF; rw [pk_us]
  obtain ⟨a1, a2, a3, a4, a5, a6, a7, a8⟩ := h
  refine ⟨⟨e6, by omega, fun _ => ?_, fun g hg => ?_⟩, (E _ (by omega) (by omega)).trans a2, a3, fun b hb => (a4 b hb).ex (by omega) (fun g hg => E _ (by omega) (by omega)) (fun c hc => E _ (by omega) (by omega)), a5.ex (fun j h1 h2 => E _ (by omega) (by omega)), a6.ex (by omega) (fun g hg => E _ (by omega) (by omega)) (fun o ho => ⟨E _ (by omega) (by omega), E _ (by omega) (by omega)⟩), a7.ex (E _ (by omega) (by omega)) (fun b hb => by rw [E _ (by omega) (by omega)]) (fun b hb => E _ (by omega) (by omega)), a8.ex (E _ (by omega) (by omega)) (fun b hb => E _ (by omega) (by omega))⟩
  · by_cases h0 : ng = 0
    · subst h0
      exact ⟨e2.trans (if_pos rfl), e3.trans (if_pos rfl)⟩
    · exact ⟨(E _ (by omega) (by omega)).trans (a1.2.2.1 (by omega)).1, (E _ (by omega) (by omega)).trans (a1.2.2.1 (by omega)).2⟩
  · by_cases e : g = ng
    · subst e
      refine ⟨⟨L, l1, l2, e0⟩, ⟨q, q2, e1⟩, fun h0 => ?_⟩
      rcases hf with hf | hf
      · omega
      · obtain ⟨i, c, L2, r1, r2, r3, r4, r5, r6⟩ := icl_in a1 hf
        exact ⟨i, c, L2, r3, e2.trans ((if_neg (by omega)).trans r1), e3.trans ((if_neg (by omega)).trans r2), (E _ (by omega) (by omega)).trans r4, r5, r6⟩
    · obtain ⟨⟨L1, m1, m2, m3⟩, ⟨p, n1, n2⟩, b3⟩ := a1.2.2.2 g (by omega)
      refine ⟨⟨L1, m1, m2, (E _ (by omega) (by omega)).trans m3⟩, ⟨p, n1, (E _ (by omega) (by omega)).trans n2⟩, fun h0 => ?_⟩
      obtain ⟨i, a, L2, d1, d2, d3, d4, d5, d6⟩ := b3 h0
      exact ⟨i, a, L2, d1, (E _ (by omega) (by omega)).trans d2, (E _ (by omega) (by omega)).trans d3, (E _ (by omega) (by omega)).trans d4, d5, d6⟩
theorem adbF_n {f : Nat → Int32} {nb j : Nat} {x y z : Int32} (h : j < 24 + 10 * nb ∨ 24 + 10 * nb + 9 < j) (h2 : j ≠ 147) : adbF f nb x y z j = f j := by
  unfold adbF; rw [pk_un h2, pk_un (by omega), pk_un (by omega), pk_un (by omega)]
  show (if _ then _ else _) = _
  rw [if_neg (by omega)]
theorem adbF_c {f : Nat → Int32} {nb c : Nat} {x y z : Int32} (hnb : nb < 11) (h : 3 ≤ c) (h2 : c < 10) : adbF f nb x y z (24 + 10 * nb + c) = 0 := by
  unfold adbF; rw [pk_un (by omega), pk_un (by omega), pk_un (by omega), pk_un (by omega)]
  show (if _ then _ else _) = _
  rw [if_pos (by omega)]
theorem cntN_s {P : Nat → Bool} {n : Nat} (h : P n = false) : cntN P (n + 1) = cntN P n := by
  show cntN P n + _ = _; rw [h]; rfl
theorem RI_adb {f : Nat → Int32} {ng nb : Nat} {x y z : Int32} (h : RI f ng nb) (h9 : nb < 11) (hx : 1 ≤ x ∧ x ≤ 9) (hy : 0 ≤ y ∧ y ≤ 3) (hz : 0 ≤ z ∧ z ≤ 3) : RI (adbF f nb x y z) ng (nb + 1) := by
  have hng : ng ≤ 6 := h.1.2.1
  obtain ⟨F, l1, l2, rfl⟩ := nI_rng (a := 1) (b := 9) (by decide) hx.1 hx.2 (by decide)
  obtain ⟨W, q1, q2, rfl⟩ := nI_rng (a := 0) (b := 3) (by decide) hy.1 hy.2 (by decide)
  obtain ⟨O, p1, p2, rfl⟩ := nI_rng (a := 0) (b := 3) (by decide) hz.1 hz.2 (by decide)
  have E : ∀ j, (j < 24 + 10 * nb ∨ 24 + 10 * nb + 9 < j) → j ≠ 147 → adbF f nb (nI F) (nI W) (nI O) j = f j := fun j => adbF_n
  have e0 : adbF f nb (nI F) (nI W) (nI O) (24 + 10 * nb + 0) = nI F := by unfold adbF; rw [pk_un (by omega), pk_un (by omega), pk_un (by omega), pk_us]
  have e1 : adbF f nb (nI F) (nI W) (nI O) (24 + 10 * nb + 1) = nI W := by unfold adbF; rw [pk_un (by omega), pk_un (by omega), pk_us]
  have e2 : adbF f nb (nI F) (nI W) (nI O) (24 + 10 * nb + 2) = nI O := by unfold adbF; rw [pk_un (by omega), pk_us]
  have e7 : adbF f nb (nI F) (nI W) (nI O) 147 = nI (nb + 1) := by unfold adbF; rw [pk_us]
  have ec : ∀ c, 3 ≤ c → c < 10 → adbF f nb (nI F) (nI W) (nI O) (24 + 10 * nb + c) = 0 := fun c h1 h2 => adbF_c h9 h1 h2
  obtain ⟨a1, a2, a3, a4, a5, a6, a7, a8⟩ := h
  have hc : cntS (adbF f nb (nI F) (nI W) (nI O)) (nb + 1) 2 = cntS f nb 2 := by
    refine (cntN_s (decide_eq_false (by rw [ec 3 (by omega) (by omega)]; decide))).trans ?_
    exact cntS_c (fun b hb => E _ (by omega) (by omega))
  have h3 : ∀ b, b < nb + 1 → adbF f nb (nI F) (nI W) (nI O) (24 + 10 * b + 3) = 2 → b < nb ∧ f (24 + 10 * b + 3) = 2 := by
    intro b hb hs
    by_cases e : b = nb
    · subst e; rw [ec 3 (by omega) (by omega)] at hs; exact absurd hs (by decide)
    · rw [E _ (by omega) (by omega)] at hs; exact ⟨by omega, hs⟩
  obtain ⟨r1, r2, r3⟩ := a7
  refine ⟨a1.to (fun j hj => E j (by omega) (by omega)) (E _ (by omega) (by omega)), e7, by omega, fun b hb => ?_, a5.ex (fun j h1 h2 => E _ (by omega) (by omega)), a6.to hng (fun j hj => E j (by omega) (by omega)) (fun o ho => ⟨E _ (by omega) (by omega), E _ (by omega) (by omega)⟩), ⟨(E _ (by omega) (by omega)).trans (by rw [r1, hc]), fun b hb hs => ?_, fun a b ha hb sa sb hab => ?_⟩, ?_⟩
  · by_cases e : b = nb
    · subst e
      exact ⟨F, W, O, 0, 0, l1, l2, q2, p2, by omega, by omega, e0, e1, e2, (ec 3 (by omega) (by omega)).trans rfl, (ec 6 (by omega) (by omega)).trans rfl, fun q => absurd q (by decide), fun q => by rcases q with q | q <;> exact absurd q (by decide)⟩
    · exact (a4 b (by omega)).to hng (fun j hj => E j (by omega) (by omega)) (fun c hc => E _ (by omega) (by omega))
  · obtain ⟨s1, s2⟩ := h3 b hb hs
    rw [hc, E _ (by omega) (by omega)]
    exact r2 b s1 s2
  · obtain ⟨s1, s2⟩ := h3 a ha sa
    obtain ⟨s3, s4⟩ := h3 b hb sb
    rw [E _ (by omega) (by omega), E _ (by omega) (by omega)] at hab
    exact r3 a b s1 s3 s2 s4 hab
  · show adbF f nb (nI F) (nI W) (nI O) 151 = bx_sum _ nb + adbF f nb (nI F) (nI W) (nI O) (24 + 10 * nb + 8)
    rw [ec 8 (by omega) (by omega), E _ (by omega) (by omega), Int32.add_zero]
    exact (show f 151 = _ from a8).trans (bxs_c nb (fun j hj => (E _ (by omega) (by omega)).symm))
theorem RI_ln1 {f : Nat → Int32} {ng nb : Nat} (h : RI f ng nb) : RI (ln1 f nb) ng nb := by
  unfold ln1; split
  · rename_i hc
    have hnb : nb ≤ 11 := h.2.2.1
    have hng : ng ≤ 6 := h.1.2.1
    have hc2 : cntS f nb 2 = 0 := by omega
    have E : ∀ j, j ≠ 149 → j ≠ 150 → j ≠ 153 → upd (upd (upd f 149 (f 149 + 1)) 150 1) 153 0 j = f j := fun j h1 h2 h3 => by rw [pk_un h3, pk_un h2, pk_un h1]
    obtain ⟨a1, a2, a3, a4, a5, a6, a7, a8⟩ := h
    refine ⟨a1.to (fun j hj => E j (by omega) (by omega) (by omega)) (E _ (by omega) (by omega) (by omega)), (E _ (by omega) (by omega) (by omega)).trans a2, a3, fun b hb => (a4 b hb).to hng (fun j hj => E j (by omega) (by omega) (by omega)) (fun c hc => E _ (by omega) (by omega) (by omega)), a5.ex (fun j h1 h2 => E _ (by omega) (by omega) (by omega)), a6.to hng (fun j hj => E j (by omega) (by omega) (by omega)) (fun o ho => ⟨E _ (by omega) (by omega) (by omega), E _ (by omega) (by omega) (by omega)⟩), a7.ex ?_ (fun b hb => by rw [E _ (by omega) (by omega) (by omega)]) (fun b hb => E _ (by omega) (by omega) (by omega)), a8.ex (E _ (by omega) (by omega) (by omega)) (fun b hb => E _ (by omega) (by omega) (by omega))⟩
    rw [pk_us, a7.1, hc2]; rfl
  · exact h
theorem RI_lnF {f : Nat → Int32} {ng nb b g : Nat} (h : RI f ng nb) (hb : b < nb) (hg : g < ng) (hs : f (24 + 10 * b + 3) = 0) : RI (lnF f nb b (nI g)) ng nb := by
  have h1 := RI_ln1 h
  have hnb : nb ≤ 11 := h.2.2.1
  have hng : ng ≤ 6 := h.1.2.1
  have hs1 : ln1 f nb (24 + 10 * b + 3) = 0 := (ln1_n (by omega) (by omega) (by omega)).trans hs
  have E : ∀ j, (j < 24 + 10 * b + 3 ∨ 24 + 10 * b + 6 < j) → lnF f nb b (nI g) j = ln1 f nb j := fun j q => by unfold lnF; rw [pk_un (by omega), pk_un (by omega), pk_un (by omega), pk_un (by omega)]
  have e3 : lnF f nb b (nI g) (24 + 10 * b + 3) = 1 := by unfold lnF; rw [pk_un (by omega), pk_un (by omega), pk_un (by omega), pk_us]
  have e4 : lnF f nb b (nI g) (24 + 10 * b + 4) = nI g := by unfold lnF; rw [pk_un (by omega), pk_un (by omega), pk_us]
  have e5 : lnF f nb b (nI g) (24 + 10 * b + 5) = 0 := by unfold lnF; rw [pk_un (by omega), pk_us]
  have e6 : lnF f nb b (nI g) (24 + 10 * b + 6) = 0 := by unfold lnF; rw [pk_us]
  obtain ⟨⟨L, l1, l2, l3⟩, -⟩ := h1.1.2.2.2 g hg
  refine RI_b (b := b) h1 (fun j hj => E j (by omega)) (E _ (by omega)) (E _ (by omega)) ⟨E _ (by omega), E _ (by omega), E _ (by omega)⟩ (fun o ho => ⟨E _ (by omega), E _ (by omega)⟩) (fun j c hj hn hc => E _ (by omega)) ?_ (h1.2.2.2.2.2.2.1.ex (E _ (by omega)) (fun b' hb' => ?_) (fun b' hb' => E _ (by omega))) (h1.2.2.2.2.2.2.2.ex (E _ (by omega)) (fun b hb => E _ (by omega)))
  · obtain ⟨F, W, O, S, K, a1, a2, a3, a4, a5, a6, b0, b1, b2, b3, b4, b5, b6⟩ := h1.2.2.2.1 b hb
    exact ⟨F, W, O, 1, 0, a1, a2, a3, a4, by omega, by omega, (E _ (by omega)).trans b0, (E _ (by omega)).trans b1, (E _ (by omega)).trans b2, e3.trans (by decide), e6.trans rfl, fun _ => by omega, fun _ => ⟨g, 0, L, hg, e4, e5, (E _ (by omega)).trans l3, by omega, l2⟩⟩
  · by_cases e : b' = b
    · rw [e, e3, hs1]; decide
    · rw [E _ (by omega)]
theorem RI_set {f : Nat → Int32} {ng nb k : Nat} {v : Int32} (h : RI f ng nb) (hs : isSetP (nI k) v) (hk : k < 3) : RI (upd f (154 + k) v) ng nb := by
  have hnb : nb ≤ 11 := h.2.2.1
  have hng : ng ≤ 6 := h.1.2.1
  have E : ∀ j, j < 154 → upd f (154 + k) v j = f j := fun j q => pk_un (by omega)
  obtain ⟨a1, a2, a3, a4, a5, a6, a7, a8⟩ := h
  refine ⟨a1.to (fun j hj => E j (by omega)) (E _ (by omega)), (E _ (by omega)).trans a2, a3, fun b hb => (a4 b hb).to hng (fun j hj => E j (by omega)) (fun c hc => E _ (by omega)), ?_, a6.to hng (fun j hj => E j (by omega)) (fun o ho => ⟨E _ (by omega), E _ (by omega)⟩), a7.ex (E _ (by omega)) (fun b hb => by rw [E _ (by omega)]) (fun b hb => E _ (by omega)), a8.ex (E _ (by omega)) (fun b hb => E _ (by omega))⟩
  obtain ⟨r, m, d, b1, b2, b3, b4, b5, b6, b7⟩ := a5
  have n1 : ∀ {x : Nat}, x < 3 → nI k = nI x → k = x := fun hx q => (nI_eq (by omega) (by omega)).mp q
  rcases hs with ⟨q, h1, h2⟩ | ⟨q, h1, h2⟩ | ⟨q, h1, h2⟩
  · have := n1 (x := 0) (by omega) q; subst this
    obtain ⟨x, x1, x2, rfl⟩ := nI_rng (a := 0) (b := 3) (by decide) h1 h2 (by decide)
    exact ⟨x, m, d, x2, b2, b3, b4, pk_us, (pk_un (by omega)).trans b6, (pk_un (by omega)).trans b7⟩
  · have := n1 (x := 1) (by omega) q; subst this
    obtain ⟨x, x1, x2, rfl⟩ := nI_rng (a := 1) (b := 9) (by decide) h1 h2 (by decide)
    exact ⟨r, x, d, b1, x1, x2, b4, (pk_un (by omega)).trans b5, pk_us, (pk_un (by omega)).trans b7⟩
  · have := n1 (x := 2) (by omega) q; subst this
    obtain ⟨x, x1, x2, rfl⟩ := nI_rng (a := 0) (b := 9) (by decide) h1 h2 (by decide)
    exact ⟨r, m, x, b1, b2, b3, x2, (pk_un (by omega)).trans b5, (pk_un (by omega)).trans b6, pk_us⟩
/-! whether a heat is under way -/
theorem UD_clm {f : Nat → Int32} {nb o b : Nat} (hnb : nb ≤ 11) (h : UD f nb) (ho : o < 4) (hb : b < nb) : UD (clmF f o b) nb := by
  have e150 : clmF f o b 150 = f 150 := clmF_n (by omega) (by omega) (by omega)
  have hk : ∀ x : Int32, x = 1 ∨ x = 2 → cntS (clmF f o b) nb x = cntS f nb x := by
    intro x hx
    have := cntS_u (x := x) hb (f := f) (f' := clmF f o b) (fun j h1 h2 => clmF_n (by omega) (by omega) (by omega))
    rw [clmF_3 (by omega)] at this
    by_cases hw : whyF f o b = 0
    · obtain ⟨hs, -⟩ := whyF_0 hw
      rw [if_pos hw, hs, if_neg (by rcases hx with q | q <;> (rw [q]; decide)), if_neg (by rcases hx with q | q <;> (rw [q]; decide))] at this
      omega
    · rw [if_neg hw] at this
      omega
  unfold UD at h ⊢
  rw [e150, hk 1 (Or.inl rfl), hk 2 (Or.inr rfl)]; exact h
theorem UD_adb {f : Nat → Int32} {nb : Nat} {x y z : Int32} (h9 : nb < 11) (h : UD f nb) : UD (adbF f nb x y z) (nb + 1) := by
  have e150 : adbF f nb x y z 150 = f 150 := adbF_n (by omega) (by omega)
  have hk : ∀ q : Int32, q ≠ 0 → cntS (adbF f nb x y z) (nb + 1) q = cntS f nb q := by
    intro q hq
    refine (cntN_s (decide_eq_false (by rw [adbF_c h9 (by omega) (by omega)]; exact fun e => hq e.symm))).trans ?_
    exact cntS_c (fun b hb => adbF_n (by omega) (by omega))
  unfold UD at h ⊢
  rw [e150, hk 1 (by decide), hk 2 (by decide)]; exact h
theorem UD_lnF {f : Nat → Int32} {nb b : Nat} {g : Int32} (hnb : nb ≤ 11) (h : UD f nb) (hb : b < nb) (hs : f (24 + 10 * b + 3) = 0) : UD (lnF f nb b g) nb := by
  have e3 : lnF f nb b g (24 + 10 * b + 3) = 1 := by unfold lnF; rw [pk_un (by omega), pk_un (by omega), pk_un (by omega), pk_us]
  have hc : cntS (lnF f nb b g) nb 1 = cntS f nb 1 + 1 := by
    have := cntS_u (x := 1) hb (f := f) (f' := lnF f nb b g) (fun j h1 h2 => lnF_n (by omega) (by omega) (by omega) (by omega))
    rw [e3, hs, if_neg (by decide), if_pos rfl] at this
    omega
  refine Or.inl ⟨?_, by omega⟩
  unfold lnF; rw [pk_un (by omega), pk_un (by omega), pk_un (by omega), pk_un (by omega)]
  unfold ln1; split
  · rw [pk_un (by omega), pk_us]
  · rename_i hc
    rcases h with q | q
    · exact q.1
    · omega
theorem gmb_id {f : Nat → Int32} {nb : Nat} (hnb : nb ≤ 11) (h : cntS f nb 1 = 0) : ∀ i, i ≤ nb → (gmb f nb i) = (0, upd f 148 (f 148 + 1))
  | 0, _ => rfl
  | i + 1, hi => by
    rw [gmb, gmb_id hnb h i (by omega)]
    rw [if_neg (by show ¬ upd f 148 _ _ = 1; rw [pk_un (by omega)]; exact cntS_0 h i (by omega))]
theorem gmb_150 {f : Nat → Int32} {nb : Nat} (hnb : nb ≤ 11) : (gmb f nb nb).2 150 = f 150 := gmb_n (by omega) (by omega) nb (fun b hb => by omega)
theorem UD_gmi {f : Nat → Int32} {ng nb : Nat} (hR : RI f ng nb) (h : UD f nb) : UD (gmi f nb).2 nb := by
  have hnb : nb ≤ 11 := hR.2.2.1
  have hR1 := RI_gmb hR nb (Nat.le_refl nb)
  show UD (if _ then _ else _) nb
  rcases h with ⟨h1, h2⟩ | ⟨h1, h2, h3⟩
  · by_cases hc : cntS (gmb f nb nb).2 nb 1 = 0
    · rw [if_pos ⟨(gmb_150 hnb).trans h1, hc⟩]
      refine Or.inr ⟨by unfold ehe; rw [pk_un (by omega), pk_us], cntS_z (fun b hb => ?_), cntS_z (fun b hb => ?_)⟩
      · rw [ehe_3 hnb hb hR1.own]
        split
        · decide
        · exact cntS_0 hc b hb
      · rw [ehe_3 hnb hb hR1.own]
        split
        · decide
        · assumption
    · rw [if_neg (fun q => hc q.2)]
      exact Or.inl ⟨(gmb_150 hnb).trans h1, by omega⟩
  · rw [gmb_id hnb h2 nb (Nat.le_refl nb), if_neg (by rintro ⟨q, -⟩; exact absurd (q.symm.trans ((show (upd f 148 (f 148 + 1)) 150 = f 150 from pk_un (by omega)).trans h1)) (by decide))]
    refine Or.inr ⟨(show (upd f 148 (f 148 + 1)) 150 = f 150 from pk_un (by omega)).trans h1, ?_, ?_⟩
    · rw [cntS_c (fun b hb => pk_un (by omega))]; exact h2
    · rw [cntS_c (fun b hb => pk_un (by omega))]; exact h3
theorem UD_gms {ng nb : Nat} : ∀ (k : Nat) (f : Nat → Int32), RI f ng nb → UD f nb → UD (gms nb k f).2 nb
  | 0, _, _, h => h
  | k + 1, f, hR, h => UD_gmi (RI_gms k f hR) (UD_gms k f hR h)
/-! how long boats stay afloat -/
/-- a boat that is still afloat behind a minute has soaked -/
theorem gmb_soak {f : Nat → Int32} {ng nb b : Nat} (h : RI f ng nb) (hb : b < nb) (hs : f (24 + 10 * b + 3) = 1) : ∀ i, i ≤ nb → b < i → (gmb f nb i).2 (24 + 10 * b + 3) = 1 → (gmb f nb i).2 (24 + 10 * b + 6) = f (24 + 10 * b + 6) + (1 + f 154)
  | 0, _, q, _ => absurd q (Nat.not_lt_zero b)
  | i + 1, hi, hlt, h1 => by
    have hnb : nb ≤ 11 := h.2.2.1
    have hRi := RI_gmb h i (by omega)
    by_cases e : b = i
    · subst e
      have s0 : (gmb f nb b).2 (24 + 10 * b + 3) = 1 := (gmb_n (by omega) (by omega) b (fun b' hb' => by omega)).trans hs
      rw [gmb, if_pos s0] at h1 ⊢
      replace h1 : dri (gmb f nb b).2 nb b (24 + 10 * b + 3) = 1 := h1
      obtain ⟨f1, m1, m2, m3 | m3⟩ := dri_c (nb := nb) (show b < 11 by omega) hRi.1 (hRi.inC hb (Or.inl s0)) s0
      · rw [m3, arv_3] at h1; exact absurd h1 (by decide)
      · show dri _ nb b _ = _
        rw [m3, soa_6, m1.n (j := 24 + 10 * b + 6) (by omega), m1.n (j := 154) (by omega), gmb_n (by omega) (by omega) b (fun b' hb' => by omega), gmb_n (by omega) (by omega) b (fun b' hb' => by omega)]
    · have ih := gmb_soak h hb hs i (by omega) (by omega)
      by_cases si : (gmb f nb i).2 (24 + 10 * i + 3) = 1
      · rw [gmb, if_pos si] at h1 ⊢
        show dri _ nb i _ = _
        replace h1 : dri (gmb f nb i).2 nb i (24 + 10 * b + 3) = 1 := h1
        rw [dri_n (by omega) (by omega)] at h1
        rw [dri_n (by omega) (by omega)]
        exact ih h1
      · rw [gmb, if_neg si] at h1 ⊢
        exact ih h1
theorem gmi_soak {f : Nat → Int32} {ng nb b : Nat} (h : RI f ng nb) (hb : b < nb) (hs : f (24 + 10 * b + 3) = 1) (h1 : (gmi f nb).2 (24 + 10 * b + 3) = 1) : (gmi f nb).2 (24 + 10 * b + 6) = f (24 + 10 * b + 6) + (1 + f 154) := by
  have hnb : nb ≤ 11 := h.2.2.1
  have hR1 := RI_gmb h nb (Nat.le_refl nb)
  have hg := gmb_soak h hb hs nb (Nat.le_refl nb) hb
  by_cases hc : (gmb f nb nb).2 150 = 1 ∧ cntS (gmb f nb nb).2 nb 1 = 0
  · rw [show (gmi f nb).2 = ehe (gmb f nb nb).2 nb from if_pos hc] at h1 ⊢
    rw [ehe_3 hnb hb hR1.own] at h1
    rw [ehe_n hnb hR1.own (by omega) (by omega) (by omega) (by omega) (by omega) (by omega)]
    refine hg ?_
    by_cases q : (gmb f nb nb).2 (24 + 10 * b + 3) = 2
    · rw [if_pos q] at h1; exact absurd h1 (by decide)
    · rw [if_neg q] at h1; exact h1
  · rw [show (gmi f nb).2 = (gmb f nb nb).2 from if_neg hc] at h1 ⊢
    exact hg h1
theorem gmb_new {f : Nat → Int32} {ng nb b : Nat} (h : RI f ng nb) (hb : b < nb) (hs : f (24 + 10 * b + 3) ≠ 1) : ∀ i, i ≤ nb → (gmb f nb i).2 (24 + 10 * b + 3) = f (24 + 10 * b + 3)
  | 0, _ => pk_un (by have := h.2.2.1; omega)
  | i + 1, hi => by
    have hnb : nb ≤ 11 := h.2.2.1
    have ih := gmb_new h hb hs i (by omega)
    by_cases e : b = i
    · subst e
      rw [gmb, if_neg (by rw [ih]; exact hs)]; exact ih
    · rw [gmb]
      split
      · show dri _ nb i _ = _
        rw [dri_n (by omega) (by omega)]; exact ih
      · exact ih
theorem gmi_new {f : Nat → Int32} {ng nb b : Nat} (h : RI f ng nb) (hb : b < nb) (h1 : (gmi f nb).2 (24 + 10 * b + 3) = 1) : f (24 + 10 * b + 3) = 1 := by
  have hnb : nb ≤ 11 := h.2.2.1
  have hR1 := RI_gmb h nb (Nat.le_refl nb)
  by_cases hs : f (24 + 10 * b + 3) = 1
  · exact hs
  · have hg := gmb_new h hb hs nb (Nat.le_refl nb)
    by_cases hc : (gmb f nb nb).2 150 = 1 ∧ cntS (gmb f nb nb).2 nb 1 = 0
    · rw [show (gmi f nb).2 = ehe (gmb f nb nb).2 nb from if_pos hc, ehe_3 hnb hb hR1.own, hg] at h1
      by_cases q : f (24 + 10 * b + 3) = 2
      · rw [if_pos q] at h1; exact absurd h1 (by decide)
      · rw [if_neg q] at h1; exact h1
    · rw [show (gmi f nb).2 = (gmb f nb nb).2 from if_neg hc, hg] at h1
      exact h1
theorem RI.soak {f : Nat → Int32} {ng nb b : Nat} (h : RI f ng nb) (hb : b < nb) (hs : f (24 + 10 * b + 3) = 1) : ∃ K, K ≤ 93 ∧ f (24 + 10 * b + 6) = nI K := by
  obtain ⟨F, W, O, S, K, a1, a2, a3, a4, a5, a6, b0, b1, b2, b3, b4, b5, b6⟩ := h.2.2.2.1 b hb
  exact ⟨K, b5 ((nI_eq (by omega) (by omega)).mp (b3.symm.trans hs)), b4⟩
/-- minutes until boat b isn't afloat: how many, the row behind them -/
def gtl (nb b : Nat) : Nat → (Nat → Int32) → Nat × (Nat → Int32)
  | 0, f => (0, f)
  | k + 1, f => if f (24 + 10 * b + 3) = 1 then ((gtl nb b k (gmi f nb).2).1 + 1, (gtl nb b k (gmi f nb).2).2) else (0, f)
theorem gtl_end {ng nb b : Nat} (hb : b < nb) : ∀ (k : Nat) (f : Nat → Int32), RI f ng nb → (f (24 + 10 * b + 3) = 1 → ∃ K, f (24 + 10 * b + 6) = nI K ∧ K ≤ 93 ∧ 94 ≤ k + K) → (gtl nb b k f).2 (24 + 10 * b + 3) ≠ 1 ∧ RI (gtl nb b k f).2 ng nb
  | 0, f, h, hK => ⟨fun q => by obtain ⟨K, -, k1, k2⟩ := hK q; omega, h⟩
  | k + 1, f, h, hK => by
    rw [gtl]
    by_cases hs : f (24 + 10 * b + 3) = 1
    · rw [if_pos hs]
      refine gtl_end hb k _ (RI_gmi h) (fun q => ?_)
      obtain ⟨K, e1, k1, k2⟩ := hK hs
      obtain ⟨K2, k3, e2⟩ := (RI_gmi h).soak hb q
      obtain ⟨r, m, d, b1, b2, b3, b4, b5, b6, b7⟩ := h.2.2.2.2.1
      have e3 := gmi_soak h hb hs q
      rw [e1, b5, e2, show (1 : Int32) + nI r = nI (1 + r) from nI_add 1 r, nI_add] at e3
      have := (nI_eq (by omega) (by omega)).mp e3
      exact ⟨K2, e2, k3, by omega⟩
    · rw [if_neg hs]; exact ⟨hs, h⟩
theorem gtl_le {nb b : Nat} : ∀ (k : Nat) (f : Nat → Int32), (gtl nb b k f).1 ≤ k
  | 0, _ => Nat.le_refl 0
  | k + 1, f => by
    rw [gtl]; split
    · exact Nat.succ_le_succ (gtl_le k _)
    · exact Nat.zero_le _
theorem gtl_94 {f : Nat → Int32} {ng nb b : Nat} (h : RI f ng nb) (hb : b < nb) : (gtl nb b 94 f).2 (24 + 10 * b + 3) ≠ 1 ∧ RI (gtl nb b 94 f).2 ng nb :=
  gtl_end hb 94 f h (fun q => by obtain ⟨K, k1, k2⟩ := h.soak hb q; exact ⟨K, k2, k1, by omega⟩)
/-- minutes until no heat is under way -/
def lhe (nb : Nat) : Nat → (Nat → Int32) → (Nat → Int32)
  | 0, f => f
  | k + 1, f => if f 150 = 1 then lhe nb k (gmi f nb).2 else f
theorem cntS_pos {f : Nat → Int32} {x : Int32} : ∀ nb : Nat, 0 < cntS f nb x → ∃ b, b < nb ∧ f (24 + 10 * b + 3) = x
  | 0, h => absurd h (Nat.not_lt_zero 0)
  | n + 1, h => by
    by_cases e : f (24 + 10 * n + 3) = x
    · exact ⟨n, by omega, e⟩
    · have : cntS f (n + 1) x = cntS f n x := cntN_s (decide_eq_false e)
      obtain ⟨b, b1, b2⟩ := cntS_pos (f := f) (x := x) n (by omega)
      exact ⟨b, by omega, b2⟩
theorem lhe_end {ng nb : Nat} : ∀ (k : Nat) (f : Nat → Int32) (m : Nat), RI f ng nb → UD f nb → 94 ≤ k + m → (∀ b, b < nb → f (24 + 10 * b + 3) = 1 → ∃ K, f (24 + 10 * b + 6) = nI K ∧ m ≤ K ∧ K ≤ 93) → (lhe nb k f) 150 = 0 ∧ RI (lhe nb k f) ng nb
  | 0, f, m, h, hU, hk, hK => by
    refine ⟨?_, h⟩
    show f 150 = 0
    rcases hU with ⟨q1, q2⟩ | q
    · obtain ⟨b, b1, b2⟩ := cntS_pos nb q2
      obtain ⟨K, k1, k2, k3⟩ := hK b b1 b2
      omega
    · exact q.1
  | k + 1, f, m, h, hU, hk, hK => by
    rw [lhe]
    by_cases hs : f 150 = 1
    · rw [if_pos hs]
      refine lhe_end k _ (m + 1) (RI_gmi h) (UD_gmi h hU) (by omega) (fun b hb q => ?_)
      have hs1 := gmi_new h hb q
      obtain ⟨K, e1, k1, k2⟩ := hK b hb hs1
      obtain ⟨K2, k3, e2⟩ := (RI_gmi h).soak hb q
      obtain ⟨r, m, d, b1, b2, b3, b4, b5, b6, b7⟩ := h.2.2.2.2.1
      have e3 := gmi_soak h hb hs1 q
      rw [e1, b5, e2, show (1 : Int32) + nI r = nI (1 + r) from nI_add 1 r, nI_add] at e3
      have := (nI_eq (by omega) (by omega)).mp e3
      exact ⟨K2, e2, by omega, k3⟩
    · rw [if_neg hs]
      refine ⟨?_, h⟩
      rcases hU.u01 with q | q
      · exact absurd q hs
      · exact q
theorem lhe_94 {f : Nat → Int32} {ng nb : Nat} (h : RI f ng nb) (hU : UD f nb) : (lhe nb 94 f) 150 = 0 ∧ RI (lhe nb 94 f) ng nb :=
  lhe_end 94 f 0 h hU (by omega) (fun b hb q => by obtain ⟨K, k1, k2⟩ := h.soak hb q; exact ⟨K, k2, Nat.zero_le _, k1⟩)
