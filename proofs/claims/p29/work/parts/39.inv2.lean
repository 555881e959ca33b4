/-! RI through a drift, a minute, the end of a heat -/
theorem nI_nm1 {b : Nat} (h : b < 2 ^ 31) : ¬ nI b = -1 := by
  intro q
  have := congrArg Int32.toInt q
  rw [nI_toInt h] at this
  rw [show (-1 : Int32).toInt = -1 by decide] at this
  omega
theorem Mv.n {f f1 : Nat → Int32} {b j : Nat} (h : Mv f f1 b) (h4 : j < 24 + 10 * b + 4 ∨ 24 + 10 * b + 9 < j ∨ j = 24 + 10 * b + 6 ∨ j = 24 + 10 * b + 7 ∨ j = 24 + 10 * b + 8) : f1 j = f j := h j (by omega) (by omega) (by omega)
theorem mvarv {f f1 : Nat → Int32} {b j : Nat} (h : Mv f f1 b) (h4 : j < 24 + 10 * b + 3 ∨ 24 + 10 * b + 9 < j ∨ j = 24 + 10 * b + 6 ∨ j = 24 + 10 * b + 8) (h2 : j ≠ 153) : arv f1 b j = f j := by
  unfold arv
  rw [pk_un (by omega), pk_un (by omega), pk_un (by omega), pk_un h2]
  exact h.n (by omega)
theorem RI_arv {f f1 : Nat → Int32} {ng nb b : Nat} (hb : b < nb) (h : RI f ng nb) (hs : f (24 + 10 * b + 3) = 1) (hM : Mv f f1 b) : RI (arv f1 b) ng nb := by
  have hnb : nb ≤ 11 := h.2.2.1
  have E : ∀ j, (j < 24 + 10 * b + 3 ∨ 24 + 10 * b + 9 < j ∨ j = 24 + 10 * b + 6 ∨ j = 24 + 10 * b + 8) → j ≠ 153 → arv f1 b j = f j := fun j h1 h2 => mvarv hM h1 h2
  have e3 : arv f1 b (24 + 10 * b + 3) = 2 := arv_3
  have e153 : arv f1 b 153 = f 153 + 1 := (arv_153 (by omega)).trans (by rw [hM.n (by omega)])
  have e7 : arv f1 b (24 + 10 * b + 7) = f 153 + 1 := arv_7.trans (by rw [hM.n (by omega)])
  have hc : cntS (arv f1 b) nb 2 = cntS f nb 2 + 1 := by
    have := cntS_u (x := 2) hb (f := f) (f' := arv f1 b) (fun j h1 h2 => E _ (by omega) (by omega))
    rw [e3, hs, if_neg (by decide), if_pos rfl] at this
    omega
  have hle : cntS f nb 2 ≤ nb := cntN_le _ _
  obtain ⟨p1, p2, p3⟩ := h.2.2.2.2.2.2.1
  refine RI_b (b := b) h (fun j hj => E j (by omega) (by omega)) (E _ (by omega) (by omega)) (E _ (by omega) (by omega)) ⟨E _ (by omega) (by omega), E _ (by omega) (by omega), E _ (by omega) (by omega)⟩ (fun o ho => ⟨E _ (by omega) (by omega), E _ (by omega) (by omega)⟩) (fun j c hj hn hc => E _ (by omega) (by omega)) ?_ ⟨e153.trans (by rw [p1, nI_1, hc]), ?_, ?_⟩ ?_
  · obtain ⟨F, W, O, S, K, a1, a2, a3, a4, a5, a6, b0, b1, b2, b3, b4, b5, b6⟩ := h.2.2.2.1 b hb
    exact ⟨F, W, O, 2, K, a1, a2, a3, a4, by omega, a6, (E _ (by omega) (by omega)).trans b0, (E _ (by omega) (by omega)).trans b1, (E _ (by omega) (by omega)).trans b2, e3.trans (by decide), (E _ (by omega) (by omega)).trans b4, fun q => absurd q (by decide), fun q => by rcases q with q | q <;> exact absurd q (by decide)⟩
  · intro b' hb' hs'
    by_cases e : b' = b
    · exact ⟨cntS f nb 2 + 1, by omega, by omega, by rw [e]; exact e7.trans (by rw [p1, nI_1])⟩
    · rw [E _ (by omega) (by omega)] at hs'
      obtain ⟨q, q1, q2, q3⟩ := p2 b' hb' hs'
      exact ⟨q, q1, by omega, (E _ (by omega) (by omega)).trans q3⟩
  · intro x y hx hy sx sy hxy
    by_cases ex : x = b
    · by_cases ey : y = b
      · omega
      · rw [E _ (by omega) (by omega)] at sy
        obtain ⟨q, q1, q2, q3⟩ := p2 y hy sy
        rw [ex, e7, p1, nI_1, E _ (by omega) (by omega), q3] at hxy
        have := (nI_eq (by omega) (by omega)).mp hxy
        omega
    · rw [E _ (by omega) (by omega)] at sx
      by_cases ey : y = b
      · obtain ⟨q, q1, q2, q3⟩ := p2 x hx sx
        rw [ey, e7, p1, nI_1, E _ (by omega) (by omega), q3] at hxy
        have := (nI_eq (by omega) (by omega)).mp hxy
        omega
      · rw [E _ (by omega) (by omega)] at sy
        rw [E _ (by omega) (by omega), E _ (by omega) (by omega)] at hxy
        exact p3 x y hx hy sx sy hxy
  · show arv f1 b 151 = _
    rw [E _ (by omega) (by omega)]
    exact h.2.2.2.2.2.2.2.trans (bxs_c nb (fun j hj => (E _ (by omega) (by omega)).symm))
theorem soa_3 {f : Nat → Int32} {b : Nat} : soa f b (24 + 10 * b + 3) = if bea f b < f (24 + 10 * b + 6) + (1 + f 154) then 3 else 1 := by
  unfold soa; rw [pk_us]
theorem soa_6 {f : Nat → Int32} {b : Nat} : soa f b (24 + 10 * b + 6) = f (24 + 10 * b + 6) + (1 + f 154) := by
  unfold soa; rw [pk_un (by omega), pk_us]
theorem RI_soa {f f1 : Nat → Int32} {ng nb b : Nat} (hb : b < nb) (h : RI f ng nb) (hs : f (24 + 10 * b + 3) = 1) (hM : Mv f f1 b) (hC : inC9 f1 ng b) : RI (soa f1 b) ng nb := by
  have hnb : nb ≤ 11 := h.2.2.1
  have E : ∀ j, (j < 24 + 10 * b + 3 ∨ 24 + 10 * b + 9 < j ∨ j = 24 + 10 * b + 7 ∨ j = 24 + 10 * b + 8) → soa f1 b j = f j := fun j h1 => (soa_n (by omega) (by omega)).trans (hM.n (by omega))
  obtain ⟨F, W, O, S, K, a1, a2, a3, a4, a5, a6, b0, b1, b2, b3, b4, b5, b6⟩ := h.2.2.2.1 b hb
  obtain ⟨r, m, k, c1, c2, c3, c4, c5, c6, c7⟩ := h.2.2.2.2.1
  have hS : S = 1 := (nI_eq (by omega) (by omega)).mp (b3.symm.trans hs)
  have hK := b5 hS
  have eK : f1 (24 + 10 * b + 6) + (1 + f1 154) = nI (K + (1 + r)) := by
    rw [hM.n (j := 24 + 10 * b + 6) (by omega), hM.n (j := 154) (by omega), b4, c5, ← nI_add K, ← nI_add 1 r]; rfl
  have eB : bea f1 b = nI (F * m + 4 * W) := by
    unfold bea
    rw [hM.n (j := 24 + 10 * b + 0) (by omega), hM.n (j := 155) (by omega), hM.n (j := 24 + 10 * b + 1) (by omega), b0, b1, c6, pk_mul, show (4 : Int32) = nI 4 from rfl, pk_mul, nI_add]
  have hFm : F * m ≤ 9 * 9 := Nat.mul_le_mul a2 c3
  have hC9 : inC9 (soa f1 b) ng b := hC.to h.1.2.1 (fun j hj => soa_n (by omega) (by omega)) (soa_n (by omega) (by omega)) (soa_n (by omega) (by omega))
  have e3 := soa_3 (f := f1) (b := b)
  have hx : soa f1 b (24 + 10 * b + 3) ≠ 2 := by rw [e3]; split <;> decide
  have hcc : cntS (soa f1 b) nb 2 = cntS f nb 2 := by
    have := cntS_u (x := 2) hb (f := f) (f' := soa f1 b) (fun j h1 h2 => E _ (by omega))
    rw [hs, if_neg (by decide), if_neg hx] at this
    omega
  obtain ⟨p1, p2, p3⟩ := h.2.2.2.2.2.2.1
  have hst : ∀ b', b' < nb → soa f1 b (24 + 10 * b' + 3) = 2 → b' ≠ b ∧ f (24 + 10 * b' + 3) = 2 := by
    intro b' hb' q
    by_cases e : b' = b
    · rw [e] at q; exact absurd q hx
    · rw [E _ (by omega)] at q; exact ⟨e, q⟩
  refine RI_b (b := b) h (fun j hj => E j (by omega)) (E _ (by omega)) (E _ (by omega)) ⟨E _ (by omega), E _ (by omega), E _ (by omega)⟩ (fun o ho => ⟨E _ (by omega), E _ (by omega)⟩) (fun j c hj hn hc => E _ (by omega)) ?_ ⟨(E _ (by omega)).trans (by rw [p1, hcc]), ?_, ?_⟩ ?_
  · rw [eK, eB] at e3
    by_cases hlt : nI (F * m + 4 * W) < nI (K + (1 + r))
    · rw [if_pos hlt] at e3
      exact ⟨F, W, O, 3, K + (1 + r), a1, a2, a3, a4, by omega, by omega, (E _ (by omega)).trans b0, (E _ (by omega)).trans b1, (E _ (by omega)).trans b2, e3.trans (by decide), soa_6.trans eK, fun q => absurd q (by decide), fun _ => hC9⟩
    · rw [if_neg hlt] at e3
      have hle : K + (1 + r) ≤ F * m + 4 * W := by
        rcases Nat.lt_or_ge (F * m + 4 * W) (K + (1 + r)) with q | q
        · exact absurd (nI_lt q (by omega)) hlt
        · exact q
      exact ⟨F, W, O, 1, K + (1 + r), a1, a2, a3, a4, by omega, by omega, (E _ (by omega)).trans b0, (E _ (by omega)).trans b1, (E _ (by omega)).trans b2, e3.trans (by decide), soa_6.trans eK, fun _ => by omega, fun _ => hC9⟩
  · intro b' hb' hs'
    obtain ⟨n1, n2⟩ := hst b' hb' hs'
    obtain ⟨q, q1, q2, q3⟩ := p2 b' hb' n2
    exact ⟨q, q1, by omega, (E _ (by omega)).trans q3⟩
  · intro x y hx hy sx sy hxy
    obtain ⟨n1, n2⟩ := hst x hx sx
    obtain ⟨n3, n4⟩ := hst y hy sy
    rw [E _ (by omega), E _ (by omega)] at hxy
    exact p3 x y hx hy n2 n4 hxy
  · show soa f1 b 151 = _
    rw [E _ (by omega)]
    exact h.2.2.2.2.2.2.2.trans (bxs_c nb (fun j hj => (E _ (by omega)).symm))
theorem RI.inC {f : Nat → Int32} {ng nb b : Nat} (h : RI f ng nb) (hb : b < nb) (hs : f (24 + 10 * b + 3) = 1 ∨ f (24 + 10 * b + 3) = 3) : inC9 f ng b := by
  obtain ⟨F, W, O, S, K, a1, a2, a3, a4, a5, a6, b0, b1, b2, b3, b4, b5, b6⟩ := h.2.2.2.1 b hb
  refine b6 ?_
  rcases hs with q | q
  · exact Or.inl ((nI_eq (by omega) (by omega)).mp (b3.symm.trans q))
  · exact Or.inr ((nI_eq (by omega) (by omega)).mp (b3.symm.trans q))
theorem RI_dri {f : Nat → Int32} {ng nb b : Nat} (hb : b < nb) (h : RI f ng nb) (hs : f (24 + 10 * b + 3) = 1) : RI (dri f nb b) ng nb := by
  have hnb : nb ≤ 11 := h.2.2.1
  obtain ⟨f1, m1, m2, m3 | m3⟩ := dri_c (nb := nb) (show b < 11 by omega) h.1 (h.inC hb (Or.inl hs)) hs
  · rw [m3]; exact RI_arv hb h hs m1
  · rw [m3]; exact RI_soa hb h hs m1 m2
/-- what no promise of RI reads -/
theorem RI.to {f f' : Nat → Int32} {ng nb : Nat} (h : RI f ng nb) (E : ∀ j, (j < 134 ∨ (∃ o, o < 4 ∧ (j = 134 + 3 * o + 1 ∨ j = 134 + 3 * o + 2)) ∨ j = 146 ∨ j = 147 ∨ j = 151 ∨ (153 ≤ j ∧ j < 157)) → f' j = f j) : RI f' ng nb := by
  have hnb : nb ≤ 11 := h.2.2.1
  obtain ⟨a1, a2, a3, a4, a5, a6, a7, a8⟩ := h
  refine ⟨a1.to (fun j hj => E j (by omega)) (E _ (by omega)), (E _ (by omega)).trans a2, a3, fun b hb => (a4 b hb).to a1.2.1 (fun j hj => E j (by omega)) (fun c hc => E _ (by omega)), ?_, a6.to a1.2.1 (fun j hj => E j (by omega)) (fun o ho => ⟨E _ (Or.inr (Or.inl ⟨o, ho, Or.inl rfl⟩)), E _ (Or.inr (Or.inl ⟨o, ho, Or.inr rfl⟩))⟩), ?_, ?_⟩
  · obtain ⟨r, m, h, b1, b2, b3, b4, b5, b6, b7⟩ := a5
    exact ⟨r, m, h, b1, b2, b3, b4, (E _ (by omega)).trans b5, (E _ (by omega)).trans b6, (E _ (by omega)).trans b7⟩
  · obtain ⟨p1, p2, p3⟩ := a7
    have hc : cntS f' nb 2 = cntS f nb 2 := cntS_c (fun b hb => E _ (by omega))
    refine ⟨(E _ (by omega)).trans (by rw [p1, hc]), fun b hb hs => ?_, fun x y hx hy sx sy hxy => ?_⟩
    · rw [E _ (by omega)] at hs
      rw [hc, E _ (by omega)]
      exact p2 b hb hs
    · rw [E _ (by omega)] at sx sy
      rw [E _ (by omega), E _ (by omega)] at hxy
      exact p3 x y hx hy sx sy hxy
  · show f' 151 = _
    rw [E _ (by omega)]
    exact a8.trans (bxs_c nb (fun j hj => (E _ (by omega)).symm))
theorem RI_gmb {f : Nat → Int32} {ng nb : Nat} (h : RI f ng nb) : ∀ i, i ≤ nb → RI (gmb f nb i).2 ng nb
  | 0, _ => h.to (fun j hj => pk_un (by omega))
  | i + 1, hi => by
    have ih := RI_gmb h i (by omega)
    unfold gmb
    split
    · rename_i hs
      exact RI_dri (by omega) ih hs
    · exact ih
theorem gmb_n {f : Nat → Int32} {nb j : Nat} (h1 : j ≠ 148) (h2 : j ≠ 153) : ∀ i, (∀ b, b < i → j < 24 + 10 * b + 3 ∨ 24 + 10 * b + 9 < j ∨ j = 24 + 10 * b + 8) → (gmb f nb i).2 j = f j
  | 0, _ => pk_un h1
  | i + 1, h => by
    have ih := gmb_n (f := f) (nb := nb) h1 h2 i (fun b hb => h b (by omega))
    unfold gmb
    split
    · show dri _ nb i j = _
      rw [dri_n (h i (by omega)) h2]; exact ih
    · exact ih
theorem eht_n {f : Nat → Int32} {j : Nat} : ∀ i, (∀ b, b < i → j ≠ 24 + 10 * b + 3) → (eht f i).2 j = f j
  | 0, _ => rfl
  | i + 1, h => by
    have ih := eht_n (f := f) (j := j) i (fun b hb => h b (by omega))
    unfold eht
    split
    · show upd _ _ _ j = _
      rw [pk_un (h i (by omega))]; exact ih
    · exact ih
theorem eht_3 {f : Nat → Int32} {b : Nat} : ∀ i, b < i → (eht f i).2 (24 + 10 * b + 3) = if f (24 + 10 * b + 3) = 2 then 0 else f (24 + 10 * b + 3)
  | 0, h => absurd h (Nat.not_lt_zero b)
  | i + 1, h => by
    unfold eht
    by_cases e : b = i
    · subst e
      rw [eht_n b (fun b' hb' => by omega)]
      by_cases hs : f (24 + 10 * b + 3) = 2
      · rw [if_pos hs, if_pos hs]; exact pk_us
      · rw [if_neg hs, if_neg hs]; exact eht_n b (fun b' hb' => by omega)
    · have ih := eht_3 (f := f) (b := b) i (by omega)
      split
      · show upd _ _ _ _ = _
        rw [pk_un (by omega)]; exact ih
      · exact ih
theorem eht_1 {f : Nat → Int32} : ∀ i, ((eht f i).1 = -1 ∧ ∀ b, b < i → ¬ (f (24 + 10 * b + 3) = 2 ∧ f (24 + 10 * b + 7) = 1)) ∨ ∃ b, b < i ∧ (eht f i).1 = nI b ∧ f (24 + 10 * b + 3) = 2 ∧ f (24 + 10 * b + 7) = 1
  | 0 => Or.inl ⟨rfl, fun b hb => absurd hb (Nat.not_lt_zero b)⟩
  | i + 1 => by
    have ih := eht_1 (f := f) i
    have e3 : (eht f i).2 (24 + 10 * i + 3) = f (24 + 10 * i + 3) := eht_n i (fun b hb => by omega)
    have e7 : (eht f i).2 (24 + 10 * i + 7) = f (24 + 10 * i + 7) := eht_n i (fun b hb => by omega)
    unfold eht
    rw [e3, e7]
    by_cases hs : f (24 + 10 * i + 3) = 2
    · rw [if_pos hs]
      by_cases hp : f (24 + 10 * i + 7) = 1
      · rw [if_pos hp]
        exact Or.inr ⟨i, by omega, rfl, hs, hp⟩
      · rw [if_neg hp]
        rcases ih with ⟨i1, i2⟩ | ⟨b, i1, i2⟩
        · refine Or.inl ⟨i1, fun b hb q => ?_⟩
          by_cases e : b = i
          · subst e; exact hp q.2
          · exact i2 b (by omega) q
        · exact Or.inr ⟨b, by omega, i2⟩
    · rw [if_neg hs]
      rcases ih with ⟨i1, i2⟩ | ⟨b, i1, i2⟩
      · refine Or.inl ⟨i1, fun b hb q => ?_⟩
        by_cases e : b = i
        · subst e; exact hs q.1
        · exact i2 b (by omega) q
      · exact Or.inr ⟨b, by omega, i2⟩
theorem nI_idx {x : Int32} {a k : Nat} (h : x = nI a) (ha : a ≤ k) (hk : k < 2 ^ 31) : x.toNatClampNeg = a := by rw [h, nI_clamp (by omega)]
/-- the row behind the end of a heat, by places -/
theorem ehe_n {f : Nat → Int32} {nb j : Nat} (hnb : nb ≤ 11) (hO : ∀ b, b < nb → ∃ O, O ≤ 3 ∧ f (24 + 10 * b + 2) = nI O) (h3 : ∀ b, b < nb → j ≠ 24 + 10 * b + 3) (h8 : ∀ b, b < nb → j ≠ 24 + 10 * b + 8) (h4 : ∀ o, o < 4 → j ≠ 134 + 3 * o) (h0 : j ≠ 150) (h1 : j ≠ 151) (h2 : j ≠ 153) : ehe f nb j = f j := by
  unfold ehe
  rw [pk_un h2, pk_un h0]
  rcases eht_1 (f := f) nb with ⟨e, -⟩ | ⟨b, hb, e, e3, e7⟩
  · rw [if_pos e]; exact eht_n nb h3
  · rw [if_neg (by rw [e]; exact nI_nm1 (by omega)), e, nI_clamp (by omega)]
    obtain ⟨O, o1, o2⟩ := hO b hb
    have e2 : (eht f nb).2 (24 + 10 * b + 2) = nI O := (eht_n nb (fun b' hb' => by omega)).trans o2
    unfold ehw
    rw [e2, nI_clamp (by omega), pk_un h1, pk_un (h8 b hb), pk_un (h4 O (by omega))]
    exact eht_n nb h3
theorem ehe_3 {f : Nat → Int32} {nb b9 : Nat} (hnb : nb ≤ 11) (hb9 : b9 < nb) (hO : ∀ b, b < nb → ∃ O, O ≤ 3 ∧ f (24 + 10 * b + 2) = nI O) : ehe f nb (24 + 10 * b9 + 3) = if f (24 + 10 * b9 + 3) = 2 then 0 else f (24 + 10 * b9 + 3) := by
  unfold ehe
  rw [pk_un (by omega), pk_un (by omega)]
  rcases eht_1 (f := f) nb with ⟨e, -⟩ | ⟨b, hb, e, e3, e7⟩
  · rw [if_pos e]; exact eht_3 nb hb9
  · rw [if_neg (show ¬ (eht f nb).1 = -1 by rw [e]; exact nI_nm1 (by omega)), e, nI_clamp (by omega)]
    obtain ⟨O, o1, o2⟩ := hO b hb
    have e2 : (eht f nb).2 (24 + 10 * b + 2) = nI O := (eht_n nb (fun b' hb' => by omega)).trans o2
    unfold ehw
    rw [e2, nI_clamp (by omega), pk_un (by omega), pk_un (by omega), pk_un (by omega)]
    exact eht_3 nb hb9
theorem RI.own {f : Nat → Int32} {ng nb : Nat} (h : RI f ng nb) : ∀ b, b < nb → ∃ O, O ≤ 3 ∧ f (24 + 10 * b + 2) = nI O := by
  intro b hb
  obtain ⟨F, W, O, S, K, a1, a2, a3, a4, a5, a6, b0, b1, b2, -⟩ := h.2.2.2.1 b hb
  exact ⟨O, a4, b2⟩
theorem RI_ehe {f : Nat → Int32} {ng nb : Nat} (h : RI f ng nb) : RI (ehe f nb) ng nb := by
  have hnb : nb ≤ 11 := h.2.2.1
  have hO := h.own
  have E : ∀ j, (∀ b, b < nb → j ≠ 24 + 10 * b + 3) → (∀ b, b < nb → j ≠ 24 + 10 * b + 8) → (∀ o, o < 4 → j ≠ 134 + 3 * o) → j ≠ 150 → j ≠ 151 → j ≠ 153 → ehe f nb j = f j := fun j h3 h8 h4 h0 h1 h2 => ehe_n hnb hO h3 h8 h4 h0 h1 h2
  have E3 : ∀ b, b < nb → ehe f nb (24 + 10 * b + 3) = if f (24 + 10 * b + 3) = 2 then 0 else f (24 + 10 * b + 3) := fun b hb => ehe_3 hnb hb hO
  have hn2 : ∀ b, b < nb → ehe f nb (24 + 10 * b + 3) ≠ 2 := by
    intro b hb
    rw [E3 b hb]
    split
    · decide
    · assumption
  have E24 : ∀ j, j < 24 → ehe f nb j = f j := fun j hj => E j (fun b hb => by omega) (fun b hb => by omega) (fun o ho => by omega) (by omega) (by omega) (by omega)
  have hc : cntS (ehe f nb) nb 2 = 0 := cntS_z hn2
  have h153 : ehe f nb 153 = 0 := by unfold ehe; exact pk_us
  obtain ⟨a1, a2, a3, a4, a5, a6, a7, a8⟩ := h
  refine ⟨a1.to E24 (E _ (fun b hb => by omega) (fun b hb => by omega) (fun o ho => by omega) (by omega) (by omega) (by omega)), (E _ (fun b hb => by omega) (fun b hb => by omega) (fun o ho => by omega) (by omega) (by omega) (by omega)).trans a2, a3, fun b hb => ?_, ?_, a6.to a1.2.1 E24 (fun o ho => ⟨E _ (fun b hb => by omega) (fun b hb => by omega) (fun o ho => by omega) (by omega) (by omega) (by omega), E _ (fun b hb => by omega) (fun b hb => by omega) (fun o ho => by omega) (by omega) (by omega) (by omega)⟩), ⟨by rw [h153, hc]; rfl, fun b hb hs => absurd hs (hn2 b hb), fun x y hx hy sx => absurd sx (hn2 x hx)⟩, ?_⟩
  · obtain ⟨F, W, O, S, K, q1, q2, q3, q4, q5, q6, b0, b1, b2, b3, b4, b5, b6⟩ := a4 b hb
    have e0 := (E (24 + 10 * b + 0) (fun b hb => by omega) (fun b hb => by omega) (fun o ho => by omega) (by omega) (by omega) (by omega)).trans b0
    have e1 := (E (24 + 10 * b + 1) (fun b hb => by omega) (fun b hb => by omega) (fun o ho => by omega) (by omega) (by omega) (by omega)).trans b1
    have e2 := (E (24 + 10 * b + 2) (fun b hb => by omega) (fun b hb => by omega) (fun o ho => by omega) (by omega) (by omega) (by omega)).trans b2
    have e6 := (E (24 + 10 * b + 6) (fun b hb => by omega) (fun b hb => by omega) (fun o ho => by omega) (by omega) (by omega) (by omega)).trans b4
    have e4 := E (24 + 10 * b + 4) (fun b hb => by omega) (fun b hb => by omega) (fun o ho => by omega) (by omega) (by omega) (by omega)
    have e5 := E (24 + 10 * b + 5) (fun b hb => by omega) (fun b hb => by omega) (fun o ho => by omega) (by omega) (by omega) (by omega)
    have e3 := E3 b hb
    by_cases hs : f (24 + 10 * b + 3) = 2
    · rw [if_pos hs] at e3
      exact ⟨F, W, O, 0, K, q1, q2, q3, q4, by omega, q6, e0, e1, e2, e3.trans (by decide), e6, fun q => absurd q (by decide), fun q => by rcases q with q | q <;> exact absurd q (by decide)⟩
    · rw [if_neg hs] at e3
      exact ⟨F, W, O, S, K, q1, q2, q3, q4, q5, q6, e0, e1, e2, e3.trans b3, e6, b5, fun q => (b6 q).to a1.2.1 E24 e4 e5⟩
  · obtain ⟨r, m, k, b1, b2, b3, b4, b5, b6, b7⟩ := a5
    exact ⟨r, m, k, b1, b2, b3, b4, (E _ (fun b hb => by omega) (fun b hb => by omega) (fun o ho => by omega) (by omega) (by omega) (by omega)).trans b5, (E _ (fun b hb => by omega) (fun b hb => by omega) (fun o ho => by omega) (by omega) (by omega) (by omega)).trans b6, (E _ (fun b hb => by omega) (fun b hb => by omega) (fun o ho => by omega) (by omega) (by omega) (by omega)).trans b7⟩
  · show ehe f nb 151 = bx_sum (fun b => ehe f nb (24 + 10 * b + 8)) nb
    have hz : f 151 = bx_sum (fun b => f (24 + 10 * b + 8)) nb := a8
    rcases eht_1 (f := f) nb with ⟨e, -⟩ | ⟨b, hb, e, e3, e7⟩
    · have hE : ∀ j, (∀ b, b < nb → j ≠ 24 + 10 * b + 3) → j ≠ 150 → j ≠ 153 → ehe f nb j = f j := by
        intro j h3 h0 h2
        unfold ehe
        rw [pk_un h2, pk_un h0, if_pos e]; exact eht_n nb h3
      rw [hE 151 (fun b hb => by omega) (by omega) (by omega), hz]
      exact bxs_c nb (fun j hj => (hE _ (fun b hb => by omega) (by omega) (by omega)).symm)
    · obtain ⟨O, o1, o2⟩ := hO b hb
      have e2 : (eht f nb).2 (24 + 10 * b + 2) = nI O := (eht_n nb (fun b' hb' => by omega)).trans o2
      have hE : ehe f nb = upd (upd (upd (upd (upd (eht f nb).2 (134 + 3 * O) ((eht f nb).2 (134 + 3 * O) + 3)) (24 + 10 * b + 8) ((eht f nb).2 (24 + 10 * b + 8) + 1)) 151 ((eht f nb).2 151 + 1)) 150 0) 153 0 := by
        unfold ehe
        rw [if_neg (show ¬ (eht f nb).1 = -1 by rw [e]; exact nI_nm1 (by omega)), e, nI_clamp (by omega)]
        unfold ehw
        rw [e2, nI_clamp (by omega)]
      have hw : ∀ j, j < nb → j ≠ b → ehe f nb (24 + 10 * j + 8) = f (24 + 10 * j + 8) := by
        intro j hj hn
        rw [hE, pk_un (by omega), pk_un (by omega), pk_un (by omega), pk_un (by omega), pk_un (by omega)]
        exact eht_n nb (fun b' hb' => by omega)
      have hb8 : ehe f nb (24 + 10 * b + 8) = f (24 + 10 * b + 8) + 1 := by
        rw [hE, pk_un (by omega), pk_un (by omega), pk_un (by omega), pk_us, eht_n nb (fun b' hb' => by omega)]
      have h151 : ehe f nb 151 = f 151 + 1 := by
        rw [hE, pk_un (by omega), pk_un (by omega), pk_us, eht_n nb (fun b' hb' => by omega)]
      rw [h151, hz]
      exact (bxs_u nb hb hw hb8).symm
theorem RI_gmi {f : Nat → Int32} {ng nb : Nat} (h : RI f ng nb) : RI (gmi f nb).2 ng nb := by
  have h1 := RI_gmb h nb (Nat.le_refl nb)
  show RI (if _ then _ else _) ng nb
  split
  · exact RI_ehe h1
  · exact h1
theorem RI_gms {ng nb : Nat} : ∀ (k : Nat) (f : Nat → Int32), RI f ng nb → RI (gms nb k f).2 ng nb
  | 0, _, h => h
  | k + 1, f, h => RI_gmi (RI_gms k f h)
