/-! WHAT A ROW'S NUMBERS CAN BE: minutes, heats, wins, points, cells drifted -/
def smN (w : Nat → Nat) : Nat → Nat
  | 0 => 0
  | n + 1 => smN w n + w n
theorem smN_c {v w : Nat → Nat} : ∀ (n : Nat), (∀ j, j < n → v j = w j) → smN v n = smN w n
  | 0, _ => rfl
  | n + 1, h => by
    show smN v n + v n = smN w n + w n
    rw [smN_c n (fun j hj => h j (by omega)), h n (by omega)]
theorem smN_u {v w : Nat → Nat} {b x : Nat} : ∀ (n : Nat), b < n → (∀ j, j < n → j ≠ b → v j = w j) → v b = w b + x → smN v n = smN w n + x
  | 0, h, _, _ => absurd h (Nat.not_lt_zero b)
  | n + 1, h, q, hb => by
    show smN v n + v n = smN w n + w n + x
    by_cases e : b = n
    · subst e
      rw [smN_c (v := v) (w := w) b (fun j h1 => q j (by omega) (by omega)), hb]; omega
    · rw [smN_u n (by omega) (fun j h1 h2 => q j (by omega) h2) hb, q n (by omega) (fun z => e z.symm)]; omega
theorem smN_le {v : Nat → Nat} {x : Nat} : ∀ (n : Nat), (∀ j, j < n → v j ≤ x) → smN v n ≤ n * x
  | 0, _ => Nat.zero_le _
  | n + 1, h => by
    show smN v n + v n ≤ _
    have h1 := smN_le n (fun j hj => h j (by omega))
    have h2 := h n (by omega)
    rw [Nat.succ_mul]; omega
theorem bxs_n {g : Nat → Int32} {v : Nat → Nat} : ∀ (n : Nat), (∀ j, j < n → g j = nI (v j)) → bx_sum g n = nI (smN v n)
  | 0, _ => rfl
  | n + 1, h => by
    show bx_sum g n + g n = nI (smN v n + v n)
    rw [bxs_n n (fun j hj => h j (by omega)), h n (by omega), nI_add]
def KJ (M : Nat) (f : Nat → Int32) (nb m h : Nat) (dr wn pt : Nat → Nat) : Prop :=
  (f 148 = nI m ∧ m ≤ M) ∧ (f 149 = nI h ∧ h ≤ M) ∧ (∀ b, b < nb → f (24 + 10 * b + 9) = nI (dr b) ∧ dr b ≤ 8 * m ∧ f (24 + 10 * b + 8) = nI (wn b)) ∧ (∀ o, o < 4 → f (134 + 3 * o) = nI (pt o)) ∧ smN wn nb + (if f 150 = 1 then 1 else 0) ≤ h ∧ 3 * smN wn nb ≤ smN pt 4 ∧ smN pt 4 ≤ 12 * M
def KI (M : Nat) (f : Nat → Int32) (nb : Nat) : Prop := ∃ (m h : Nat) (dr wn pt : Nat → Nat), KJ M f nb m h dr wn pt
theorem KI.to {M M' : Nat} {f f' : Nat → Int32} {nb : Nat} (h : KI M f nb) (hM : M ≤ M') (h1 : f' 148 = f 148) (h2 : f' 149 = f 149) (h3 : f' 150 = f 150) (h4 : ∀ b, b < nb → f' (24 + 10 * b + 9) = f (24 + 10 * b + 9) ∧ f' (24 + 10 * b + 8) = f (24 + 10 * b + 8)) (h5 : ∀ o, o < 4 → f' (134 + 3 * o) = f (134 + 3 * o)) : KI M' f' nb := by
  obtain ⟨m, k, dr, wn, pt, ⟨a1, a2⟩, ⟨b1, b2⟩, c1, d1, e1, e2, e3⟩ := h
  refine ⟨m, k, dr, wn, pt, ⟨h1.trans a1, by omega⟩, ⟨h2.trans b1, by omega⟩, fun b hb => ?_, fun o ho => (h5 o ho).trans (d1 o ho), ?_, e2, by omega⟩
  · obtain ⟨c2, c3, c4⟩ := c1 b hb
    exact ⟨(h4 b hb).1.trans c2, c3, (h4 b hb).2.trans c4⟩
  · rw [h3]; exact e1
theorem KI.mono {M M' : Nat} {f : Nat → Int32} {nb : Nat} (h : KI M f nb) (hM : M ≤ M') : KI M' f nb := h.to hM rfl rfl rfl (fun _ _ => ⟨rfl, rfl⟩) (fun _ _ => rfl)
/-! a drift -/
theorem mv_9 {f : Nat → Int32} {nb b : Nat} : (mv f nb b).2 (24 + 10 * b + 9) = f (24 + 10 * b + 9) ∨ (mv f nb b).2 (24 + 10 * b + 9) = f (24 + 10 * b + 9) + 1 := by
  have h2 : ∀ g c, (mv2 f nb b g c).2 (24 + 10 * b + 9) = f (24 + 10 * b + 9) ∨ (mv2 f nb b g c).2 (24 + 10 * b + 9) = f (24 + 10 * b + 9) + 1 := by
    intro g c
    unfold mv2
    split
    · exact Or.inl rfl
    · refine Or.inr ?_
      show mvd f b g c _ = _
      unfold mvd; rw [pk_us]
  unfold mv
  split
  · split
    · refine Or.inr ?_
      show arv f b _ = _
      unfold arv; rw [pk_us]
    · exact h2 _ _
  · exact h2 _ _
theorem drf_9 {nb b : Nat} : ∀ (k d : Nat) (f : Nat → Int32), f (24 + 10 * b + 9) = nI d → ∃ d', d' ≤ d + k ∧ drf nb b k f (24 + 10 * b + 9) = nI d'
  | 0, d, f, h => ⟨d, by omega, h⟩
  | k + 1, d, f, h => by
    have h1 : ∃ d1, d1 ≤ d + 1 ∧ (mv f nb b).2 (24 + 10 * b + 9) = nI d1 := by
      rcases mv_9 (f := f) (nb := nb) (b := b) with q | q
      · exact ⟨d, by omega, q.trans h⟩
      · exact ⟨d + 1, by omega, q.trans (by rw [h, nI_1])⟩
    obtain ⟨d1, e1, e2⟩ := h1
    unfold drf
    split
    · obtain ⟨d2, e3, e4⟩ := drf_9 k d1 _ e2
      exact ⟨d2, by omega, e4⟩
    · exact ⟨d1, by omega, e2⟩
theorem dcl_8 {f : Nat → Int32} {ng nb b : Nat} (h : RI f ng nb) (hb : b < nb) (hs : f (24 + 10 * b + 3) = 1) : (dcl f b).toNatClampNeg ≤ 8 := by
  obtain ⟨g, c, L, g1, g2, g3, g4, g5, g6⟩ := h.inC hb (Or.inl hs)
  have h6 := h.1.2.1
  obtain ⟨-, ⟨q, q1, q2⟩, -⟩ := h.1.2.2.2 g g1
  obtain ⟨F, W, O, S, K, a1, a2, -, -, -, -, b0, -⟩ := h.2.2.2.1 b hb
  obtain ⟨r, m, k, c1, -, -, -, c5, -⟩ := h.2.2.2.2.1
  unfold dcl
  rw [g2, nI_clamp (by omega), q2, c5, b0, nI_add]
  have e1 : nI F / 4 = nI (F / 4) := pk_div (d := 4) (by omega) (by omega) (by omega)
  rw [e1]
  refine (cl_le (by omega)).mp ?_
  rw [le_i, Int32.toInt_sub, nI_toInt (by omega), nI_toInt (by omega), nI_toInt (by omega)]
  have h9 : ((q + r : Nat) : Int) - ((F / 4 : Nat) : Int) ≤ 8 := by omega
  have h8 : -(3 : Int) ≤ ((q + r : Nat) : Int) - ((F / 4 : Nat) : Int) := by omega
  rw [Int.bmod_eq_of_le (by omega) (by omega)]
  exact h9
theorem dri_9 {f : Nat → Int32} {ng nb b d : Nat} (h : RI f ng nb) (hb : b < nb) (hs : f (24 + 10 * b + 3) = 1) (hd : f (24 + 10 * b + 9) = nI d) : ∃ d', d' ≤ d + 8 ∧ dri f nb b (24 + 10 * b + 9) = nI d' := by
  obtain ⟨d', e1, e2⟩ := drf_9 (nb := nb) (b := b) (dcl f b).toNatClampNeg d f hd
  have h8 := dcl_8 h hb hs
  refine ⟨d', by omega, ?_⟩
  unfold dri
  split
  · rw [soa_n (by omega) (by omega)]; exact e2
  · exact e2
theorem gmb_9 {f : Nat → Int32} {ng nb b d : Nat} (h : RI f ng nb) (hb : b < nb) (hd : f (24 + 10 * b + 9) = nI d) : ∀ i, i ≤ nb → ∃ d', d' ≤ d + 8 ∧ (gmb f nb i).2 (24 + 10 * b + 9) = nI d'
  | 0, _ => ⟨d, by omega, (show upd f 148 (f 148 + 1) (24 + 10 * b + 9) = _ from (pk_un (by have := h.2.2.1; omega)).trans hd)⟩
  | i + 1, hi => by
    have h9 := h.2.2.1
    obtain ⟨d', e1, e2⟩ := gmb_9 h hb hd i (by omega)
    unfold gmb
    split
    · rename_i hs
      by_cases e : b = i
      · subst e
        have e3 : (gmb f nb b).2 (24 + 10 * b + 9) = nI d := (gmb_n (by omega) (by omega) b (fun b' hb' => by omega)).trans hd
        exact dri_9 (RI_gmb h b (by omega)) hb hs e3
      · refine ⟨d', e1, ?_⟩
        show dri _ nb i _ = _
        rw [dri_n (by omega) (by omega)]; exact e2
    · exact ⟨d', e1, e2⟩
theorem gmb_148 {f : Nat → Int32} {nb : Nat} (hnb : nb ≤ 11) : ∀ i, i ≤ nb → (gmb f nb i).2 148 = f 148 + 1
  | 0, _ => (show upd f 148 (f 148 + 1) 148 = f 148 + 1 from pk_us)
  | i + 1, hi => by
    have ih := gmb_148 (f := f) hnb i (by omega)
    unfold gmb
    split
    · show dri _ nb i 148 = _
      rw [dri_n (by omega) (by omega)]; exact ih
    · exact ih
theorem KI_gmi {M : Nat} {f : Nat → Int32} {ng nb : Nat} (h : RI f ng nb) (hk : KI M f nb) : KI (M + 1) (gmi f nb).2 nb := by
  obtain ⟨m, k, dr, wn, pt, ⟨a1, a2⟩, ⟨b1, b2⟩, c1, d1, e1, e2, e3⟩ := hk
  have hnb := h.2.2.1
  have hR := RI_gmb h nb (Nat.le_refl nb)
  have hx : ∀ b, ∃ d', b < nb → (d' ≤ dr b + 8 ∧ (gmb f nb nb).2 (24 + 10 * b + 9) = nI d') := by
    intro b
    by_cases hb : b < nb
    · obtain ⟨d', q1, q2⟩ := gmb_9 h hb (c1 b hb).1 nb (Nat.le_refl nb)
      exact ⟨d', fun _ => ⟨q1, q2⟩⟩
    · exact ⟨0, fun q => absurd q hb⟩
  have hN : ∀ j, j ≠ 148 → j ≠ 153 → (∀ b, b < nb → j < 24 + 10 * b + 3 ∨ 24 + 10 * b + 9 < j ∨ j = 24 + 10 * b + 8) → (gmb f nb nb).2 j = f j := fun j h1 h2 h3 => gmb_n h1 h2 nb h3
  have g148 : (gmb f nb nb).2 148 = nI (m + 1) := (gmb_148 hnb nb (Nat.le_refl nb)).trans (by rw [a1, nI_1])
  have g149 : (gmb f nb nb).2 149 = nI k := (hN 149 (by omega) (by omega) (fun b hb => by omega)).trans b1
  have g150 : (gmb f nb nb).2 150 = f 150 := hN 150 (by omega) (by omega) (fun b hb => by omega)
  have g8 : ∀ b, b < nb → (gmb f nb nb).2 (24 + 10 * b + 8) = nI (wn b) := fun b hb => (hN _ (by omega) (by omega) (fun b' hb' => by omega)).trans (c1 b hb).2.2
  have gp : ∀ o, o < 4 → (gmb f nb nb).2 (134 + 3 * o) = nI (pt o) := fun o ho => (hN _ (by omega) (by omega) (fun b' hb' => by omega)).trans (d1 o ho)
  have g9 := fun b => Classical.choose_spec (hx b)
  show KI (M + 1) (if _ then _ else _) nb
  split
  · rename_i q
    have hO := hR.own
    have hu : f 150 = 1 := g150.symm.trans q.1
    rw [if_pos hu] at e1
    have E : ∀ j, (∀ b, b < nb → j ≠ 24 + 10 * b + 3) → (∀ b, b < nb → j ≠ 24 + 10 * b + 8) → (∀ o, o < 4 → j ≠ 134 + 3 * o) → j ≠ 150 → j ≠ 151 → j ≠ 153 → ehe (gmb f nb nb).2 nb j = (gmb f nb nb).2 j := fun j h3 h8 h4 h0 h1 h2 => ehe_n hnb hO h3 h8 h4 h0 h1 h2
    have h150 : ehe (gmb f nb nb).2 nb 150 = 0 := by unfold ehe; rw [pk_un (by omega), pk_us]
    have e148 := (E 148 (fun b hb => by omega) (fun b hb => by omega) (fun o ho => by omega) (by omega) (by omega) (by omega)).trans g148
    have e149 := (E 149 (fun b hb => by omega) (fun b hb => by omega) (fun o ho => by omega) (by omega) (by omega) (by omega)).trans g149
    have e9 : ∀ b, b < nb → ehe (gmb f nb nb).2 nb (24 + 10 * b + 9) = nI (Classical.choose (hx b)) := fun b hb => (E _ (fun b hb => by omega) (fun b hb => by omega) (fun o ho => by omega) (by omega) (by omega) (by omega)).trans (g9 b hb).2
    rcases eht_1 (f := (gmb f nb nb).2) nb with ⟨e, -⟩ | ⟨b, hb, e, -, -⟩
    · have hE : ∀ j, (∀ b, b < nb → j ≠ 24 + 10 * b + 3) → j ≠ 150 → j ≠ 153 → ehe (gmb f nb nb).2 nb j = (gmb f nb nb).2 j := by
        intro j h3 h0 h2
        unfold ehe
        rw [pk_un h2, pk_un h0, if_pos e]; exact eht_n nb h3
      refine ⟨m + 1, k, fun b => Classical.choose (hx b), wn, pt, ⟨e148, by omega⟩, ⟨e149, by omega⟩, fun b hb => ⟨e9 b hb, ?_, (hE _ (fun b' hb' => by omega) (by omega) (by omega)).trans (g8 b hb)⟩, fun o ho => (hE _ (fun b' hb' => by omega) (by omega) (by omega)).trans (gp o ho), ?_, e2, by omega⟩
      · have := (g9 b hb).1; have := (c1 b hb).2.1; show Classical.choose (hx b) ≤ 8 * (m + 1); omega
      · rw [h150, if_neg (by decide)]; omega
    · obtain ⟨O, o1, o2⟩ := hO b hb
      have e2' : (eht (gmb f nb nb).2 nb).2 (24 + 10 * b + 2) = nI O := (eht_n nb (fun b' hb' => by omega)).trans o2
      have hE : ehe (gmb f nb nb).2 nb = upd (upd (upd (upd (upd (eht (gmb f nb nb).2 nb).2 (134 + 3 * O) ((eht (gmb f nb nb).2 nb).2 (134 + 3 * O) + 3)) (24 + 10 * b + 8) ((eht (gmb f nb nb).2 nb).2 (24 + 10 * b + 8) + 1)) 151 ((eht (gmb f nb nb).2 nb).2 151 + 1)) 150 0) 153 0 := by
        unfold ehe
        rw [if_neg (show ¬ (eht (gmb f nb nb).2 nb).1 = -1 by rw [e]; exact nI_nm1 (by omega)), e, nI_clamp (by omega)]
        unfold ehw
        rw [e2', nI_clamp (by omega)]
      have hw : ∀ j, j < nb → j ≠ b → ehe (gmb f nb nb).2 nb (24 + 10 * j + 8) = nI (wn j) := by
        intro j hj hn
        rw [hE, pk_un (by omega), pk_un (by omega), pk_un (by omega), pk_un (by omega), pk_un (by omega)]
        exact (eht_n nb (fun b' hb' => by omega)).trans (g8 j hj)
      have hb8 : ehe (gmb f nb nb).2 nb (24 + 10 * b + 8) = nI (wn b + 1) := by
        rw [hE, pk_un (by omega), pk_un (by omega), pk_un (by omega), pk_us, eht_n nb (fun b' hb' => by omega), g8 b hb, nI_1]
      have hp : ∀ o, o < 4 → o ≠ O → ehe (gmb f nb nb).2 nb (134 + 3 * o) = nI (pt o) := by
        intro o ho hn
        rw [hE, pk_un (by omega), pk_un (by omega), pk_un (by omega), pk_un (by omega), pk_un (by omega)]
        exact (eht_n nb (fun b' hb' => by omega)).trans (gp o ho)
      have hpO : ehe (gmb f nb nb).2 nb (134 + 3 * O) = nI (pt O + 3) := by
        rw [hE, pk_un (by omega), pk_un (by omega), pk_un (by omega), pk_un (by omega), pk_us, eht_n nb (fun b' hb' => by omega), gp O (by omega), show (3 : Int32) = nI 3 from rfl, nI_add]
      have s1 : smN (fun j => if j = b then wn j + 1 else wn j) nb = smN wn nb + 1 := smN_u nb hb (fun j _ hn => if_neg hn) (if_pos rfl)
      have s2 : smN (fun o => if o = O then pt o + 3 else pt o) 4 = smN pt 4 + 3 := smN_u 4 (by omega) (fun j _ hn => if_neg hn) (if_pos rfl)
      refine ⟨m + 1, k, fun b => Classical.choose (hx b), fun j => if j = b then wn j + 1 else wn j, fun o => if o = O then pt o + 3 else pt o, ⟨e148, by omega⟩, ⟨e149, by omega⟩, fun b' hb' => ⟨e9 b' hb', ?_, ?_⟩, fun o ho => ?_, ?_, ?_, ?_⟩
      · have := (g9 b' hb').1; have := (c1 b' hb').2.1; show Classical.choose (hx b') ≤ 8 * (m + 1); omega
      · by_cases z : b' = b
        · subst z; rw [hb8]; dsimp only; rw [if_pos rfl]
        · rw [hw b' hb' z]; dsimp only; rw [if_neg z]
      · by_cases z : o = O
        · subst z; rw [hpO]; dsimp only; rw [if_pos rfl]
        · rw [hp o ho z]; dsimp only; rw [if_neg z]
      · rw [h150, if_neg (by decide), s1]; omega
      · rw [s1, s2]; omega
      · rw [s2]; omega
  · refine ⟨m + 1, k, fun b => Classical.choose (hx b), wn, pt, ⟨g148, by omega⟩, ⟨g149, by omega⟩, fun b hb => ⟨(g9 b hb).2, ?_, g8 b hb⟩, gp, ?_, e2, by omega⟩
    · have := (g9 b hb).1; have := (c1 b hb).2.1; show Classical.choose (hx b) ≤ 8 * (m + 1); omega
    · rw [g150]; exact e1
theorem KI_gms {M ng nb : Nat} : ∀ (k : Nat) (f : Nat → Int32), RI f ng nb → KI M f nb → KI (M + k) (gms nb k f).2 nb
  | 0, _, _, h => h
  | k + 1, f, hR, h => KI_gmi (RI_gms k f hR) (KI_gms k f hR h)
theorem KI_clm {M : Nat} {f : Nat → Int32} {ng nb o b : Nat} (h : RI f ng nb) (hk : KI M f nb) (ho : o < 4) (hb : b < nb) : KI (M + 1) (clmF f o b) nb := by
  have hnb := h.2.2.1
  by_cases hw : whyF f o b = 0
  · obtain ⟨m, k, dr, wn, pt, ⟨a1, a2⟩, ⟨b1, b2⟩, c1, d1, e1, e2, e3⟩ := hk
    obtain ⟨F, W, O, S, K, q1, q2, -, -, -, -, q0, -⟩ := h.2.2.2.1 b hb
    have E : ∀ j, j ≠ 24 + 10 * b + 3 → j ≠ 134 + 3 * o → j ≠ 152 → clmF f o b j = f j := fun j h1 h2 h3 => clmF_n h1 h2 h3
    have hpO : clmF f o b (134 + 3 * o) = nI (pt o + F) := by
      unfold clmF
      rw [if_pos hw, pk_us, d1 o ho, q0, nI_add]
    have s2 : smN (fun i => if i = o then pt i + F else pt i) 4 = smN pt 4 + F := smN_u 4 ho (fun j _ hn => if_neg hn) (if_pos rfl)
    refine ⟨m, k, dr, wn, fun i => if i = o then pt i + F else pt i, ⟨(E _ (by omega) (by omega) (by omega)).trans a1, by omega⟩, ⟨(E _ (by omega) (by omega) (by omega)).trans b1, by omega⟩, fun b' hb' => ⟨(E _ (by omega) (by omega) (by omega)).trans (c1 b' hb').1, (c1 b' hb').2.1, (E _ (by omega) (by omega) (by omega)).trans (c1 b' hb').2.2⟩, fun i hi => ?_, ?_, ?_, ?_⟩
    · by_cases z : i = o
      · subst z; rw [hpO]; dsimp only; rw [if_pos rfl]
      · rw [E _ (by omega) (by omega) (by omega), d1 i hi]; dsimp only; rw [if_neg z]
    · rw [E 150 (by omega) (by omega) (by omega)]; exact e1
    · rw [s2]; omega
    · rw [s2]; omega
  · have hE : ∀ j, j ≠ 152 → clmF f o b j = f j := by
      intro j h2
      unfold clmF
      rw [if_neg hw, pk_un h2]
    exact hk.to (by omega) (hE _ (by omega)) (hE _ (by omega)) (hE _ (by omega)) (fun b' hb' => ⟨hE _ (by omega), hE _ (by omega)⟩) (fun i hi => hE _ (by omega))
theorem KI_lnF {M : Nat} {f : Nat → Int32} {nb b : Nat} {g : Int32} (hnb : nb ≤ 11) (hk : KI M f nb) (hb : b < nb) : KI (M + 1) (lnF f nb b g) nb := by
  obtain ⟨m, k, dr, wn, pt, ⟨a1, a2⟩, ⟨b1, b2⟩, c1, d1, e1, e2, e3⟩ := hk
  have E1 : ∀ j, (j < 24 + 10 * b + 3 ∨ 24 + 10 * b + 6 < j) → lnF f nb b g j = ln1 f nb j := by
    intro j hj
    unfold lnF
    rw [pk_un (by omega), pk_un (by omega), pk_un (by omega), pk_un (by omega)]
  have E2 : ∀ j, j ≠ 149 → j ≠ 150 → j ≠ 153 → ln1 f nb j = f j := by
    intro j h1 h2 h3
    unfold ln1
    split
    · rw [pk_un h3, pk_un h2, pk_un h1]
    · rfl
  have E8 : ∀ b', b' < nb → lnF f nb b g (24 + 10 * b' + 9) = f (24 + 10 * b' + 9) ∧ lnF f nb b g (24 + 10 * b' + 8) = f (24 + 10 * b' + 8) := fun b' hb' => ⟨(E1 _ (by omega)).trans (E2 _ (by omega) (by omega) (by omega)), (E1 _ (by omega)).trans (E2 _ (by omega) (by omega) (by omega))⟩
  have Ep : ∀ o, o < 4 → lnF f nb b g (134 + 3 * o) = f (134 + 3 * o) := fun o ho => (E1 _ (by omega)).trans (E2 _ (by omega) (by omega) (by omega))
  have E148 : lnF f nb b g 148 = nI m := (E1 _ (by omega)).trans ((E2 _ (by omega) (by omega) (by omega)).trans a1)
  by_cases hc : cntS f nb 1 + cntS f nb 2 = 0
  · have e149 : lnF f nb b g 149 = nI (k + 1) := by
      rw [E1 _ (by omega)]; unfold ln1; rw [if_pos hc, pk_un (by omega), pk_un (by omega), pk_us, b1, nI_1]
    refine ⟨m, k + 1, dr, wn, pt, ⟨E148, by omega⟩, ⟨e149, by omega⟩, fun b' hb' => ⟨(E8 b' hb').1.trans (c1 b' hb').1, (c1 b' hb').2.1, (E8 b' hb').2.trans (c1 b' hb').2.2⟩, fun o ho => (Ep o ho).trans (d1 o ho), ?_, e2, by omega⟩
    split <;> omega
  · have e149 : lnF f nb b g 149 = nI k := by
      rw [E1 _ (by omega)]; unfold ln1; rw [if_neg hc, b1]
    have e150 : lnF f nb b g 150 = f 150 := by
      rw [E1 _ (by omega)]; unfold ln1; rw [if_neg hc]
    refine ⟨m, k, dr, wn, pt, ⟨E148, by omega⟩, ⟨e149, by omega⟩, fun b' hb' => ⟨(E8 b' hb').1.trans (c1 b' hb').1, (c1 b' hb').2.1, (E8 b' hb').2.trans (c1 b' hb').2.2⟩, fun o ho => (Ep o ho).trans (d1 o ho), ?_, e2, by omega⟩
    rw [e150]; exact e1
theorem KI_adb {M : Nat} {f : Nat → Int32} {nb : Nat} {x y z : Int32} (hnb : nb < 11) (hk : KI M f nb) : KI M (adbF f nb x y z) (nb + 1) := by
  obtain ⟨m, k, dr, wn, pt, ⟨a1, a2⟩, ⟨b1, b2⟩, c1, d1, e1, e2, e3⟩ := hk
  have E : ∀ j, (j < 24 + 10 * nb ∨ 24 + 10 * nb + 9 < j) → j ≠ 147 → adbF f nb x y z j = f j := fun j h1 h2 => adbF_n h1 h2
  have s1 : smN (fun j => if j = nb then 0 else wn j) (nb + 1) = smN wn nb := by
    show smN (fun j => if j = nb then 0 else wn j) nb + (if nb = nb then 0 else wn nb) = _
    rw [if_pos rfl, smN_c (w := wn) nb (fun j hj => if_neg (by omega))]; rfl
  refine ⟨m, k, fun j => if j = nb then 0 else dr j, fun j => if j = nb then 0 else wn j, pt, ⟨(E _ (by omega) (by omega)).trans a1, a2⟩, ⟨(E _ (by omega) (by omega)).trans b1, b2⟩, fun b hb => ?_, fun o ho => (E _ (by omega) (by omega)).trans (d1 o ho), ?_, ?_, e3⟩
  · dsimp only
    by_cases e : b = nb
    · subst e
      rw [if_pos rfl, if_pos rfl]
      exact ⟨adbF_c hnb (by omega) (by omega), by omega, adbF_c hnb (by omega) (by omega)⟩
    · rw [if_neg e, if_neg e]
      obtain ⟨c2, c3, c4⟩ := c1 b (by omega)
      exact ⟨(E _ (by omega) (by omega)).trans c2, c3, (E _ (by omega) (by omega)).trans c4⟩
  · rw [s1, E 150 (by omega) (by omega)]; exact e1
  · rw [s1]; exact e2
theorem KI_adg {M : Nat} {f : Nat → Int32} {ng nb : Nat} {x y u v : Int32} (h6 : ng < 6) (hnb : nb ≤ 11) (hk : KI M f nb) : KI M (adgF f ng x y u v) nb := by
  have E : ∀ j, 24 ≤ j → j ≠ 146 → adgF f ng x y u v j = f j := fun j h1 h2 => adgF_n (by omega) h2
  exact hk.to (Nat.le_refl M) (E _ (by omega) (by omega)) (E _ (by omega) (by omega)) (E _ (by omega) (by omega)) (fun b hb => ⟨E _ (by omega) (by omega), E _ (by omega) (by omega)⟩) (fun o ho => E _ (by omega) (by omega))
theorem KI_hok {M : Nat} {f : Nat → Int32} {nb o : Nat} {x y : Int32} (hnb : nb ≤ 11) (ho : o < 4) (hk : KI M f nb) : KI M (hokF f o x y) nb := by
  have E : ∀ j, j ≠ 134 + 3 * o + 1 → j ≠ 134 + 3 * o + 2 → hokF f o x y j = f j := fun j h1 h2 => hokF_n h1 h2
  exact hk.to (Nat.le_refl M) (E _ (by omega) (by omega)) (E _ (by omega) (by omega)) (E _ (by omega) (by omega)) (fun b hb => ⟨E _ (by omega) (by omega), E _ (by omega) (by omega)⟩) (fun o ho => E _ (by omega) (by omega))
theorem KI_set {M : Nat} {f : Nat → Int32} {nb k : Nat} {v : Int32} (hnb : nb ≤ 11) (hk : KI M f nb) (h : k < 3) : KI M (upd f (154 + k) v) nb :=
  hk.to (Nat.le_refl M) (pk_un (by omega)) (pk_un (by omega)) (pk_un (by omega)) (fun b hb => ⟨pk_un (by omega), pk_un (by omega)⟩) (fun o ho => pk_un (by omega))
/-- a row as it can be, with its numbers -/
def OK2 (M : Nat) (f : Nat → Int32) : Prop := OKr f ∧ KI M f (bN f)
theorem OK2.mono {M M' : Nat} {f : Nat → Int32} (h : OK2 M f) (hM : M ≤ M') : OK2 M' f := ⟨h.1, h.2.mono hM⟩
theorem OK2.of {M : Nat} {f : Nat → Int32} {ng nb : Nat} (h : OKr f) (hR : RI f ng nb) (hk : KI M f nb) : OK2 M f := ⟨h, by rw [hR.bN]; exact hk⟩
theorem pfG_K {M : Nat} {f : Nat → Int32} {a b c d : Int32} (h : OK2 M f) : OK2 M (pfG f a b c d).2 := by
  have h0 := pfG_ok (a := a) (b := b) (c := c) (d := d) h.1
  unfold pfG at h0 ⊢; split
  · rename_i q
    rw [if_pos q] at h0
    exact OK2.of h0 (RI_adg h.1.1 q.2.1 q.1.1 q.1.2 q.2.2) (KI_adg q.2.1 h.1.1.2.2.1 h.2)
  · exact h
theorem pfB_K {M : Nat} {f : Nat → Int32} {a b c : Int32} (h : OK2 M f) : OK2 M (pfB f a b c).2 := by
  have h0 := pfB_ok (a := a) (b := b) (c := c) h.1
  unfold pfB at h0 ⊢; split
  · rename_i q
    rw [if_pos q] at h0
    exact OK2.of h0 (RI_adb h.1.1 (by have := q.2.2; omega) q.2.1.1 q.2.1.2 q.1) (KI_adb (by have := q.2.2; omega) h.2)
  · exact h
theorem pfL_K {M : Nat} {f : Nat → Int32} {a b : Int32} (h : OK2 M f) : OK2 (M + 1) (pfL f a b).2 := by
  have h0 := pfL_ok (a := a) (b := b) h.1
  unfold pfL at h0 ⊢; split
  · rename_i q
    rw [if_pos q] at h0
    obtain ⟨i, i1, i2, i3⟩ := nI_box (by have := h.1.2.2; omega) q.1.1
    obtain ⟨g, g1, g2, g3⟩ := nI_box (by have := h.1.1.1.2.1; omega) q.1.2
    rw [i3] at q h0 ⊢
    rw [g2] at h0 ⊢
    exact OK2.of h0 (RI_lnF h.1.1 i1 g1 q.2) (KI_lnF h.1.1.2.2.1 h.2 i1)
  · exact h.mono (by omega)
theorem pfM_K {M : Nat} {f : Nat → Int32} {a : Int32} (h : OK2 M f) : OK2 (M + 60) (pfM f a).2 := by
  have h0 := pfM_ok (a := a) h.1
  unfold pfM at h0 ⊢; split
  · rename_i q
    rw [if_pos q] at h0
    obtain ⟨i, i1, i2, i3, i4⟩ := nI_le9 (a := 1) (b := 60) (by omega) (by omega) q
    rw [i4] at h0 ⊢
    exact OK2.of h0 (RI_gms i f h.1.1) ((KI_gms i f h.1.1 h.2).mono (by omega))
  · exact h.mono (by omega)
theorem pfH_K {M : Nat} {f : Nat → Int32} {a b c : Int32} (h : OK2 M f) : OK2 M (pfH f a b c).2 := by
  have h0 := pfH_ok (a := a) (b := b) (c := c) h.1
  unfold pfH at h0 ⊢; split
  · rename_i q
    rw [if_pos q] at h0
    obtain ⟨o, o1, o2, o3, o4⟩ := nI_le9 (a := 0) (b := 3) (by omega) (by omega) q.1
    obtain ⟨g, c9, L, g1, g2, g3, g4, g5, g6⟩ := icl_in h.1.1.1 q.2
    rw [o4, g1, g2] at h0 ⊢
    exact OK2.of h0 (RI_hok h.1.1 (by omega) g3 g4 g5 g6) (KI_hok h.1.1.2.2.1 (by omega) h.2)
  · exact h
theorem clm_K {M : Nat} {f : Nat → Int32} {o b : Nat} (h : OK2 M f) (ho : o < 4) (hb : b < bN f) : OK2 (M + 1) (clmF f o b) := by
  have hR := RI_clm h.1.1 ho hb
  exact OK2.of (OKr.of hR (UD_clm h.1.1.2.2.1 h.1.2.1 ho hb) h.1.2.2) hR (KI_clm h.1.1 h.2 ho hb)
theorem pfC_K {M : Nat} {f : Nat → Int32} {a b : Int32} (h : OK2 M f) : OK2 (M + 1) (pfC f a b).2 := by
  unfold pfC; split
  · rename_i q
    obtain ⟨o, o1, o2, o3, o4⟩ := nI_le9 (a := 0) (b := 3) (by omega) (by omega) q.1.1
    obtain ⟨i, i1, i2, i3⟩ := nI_box (by have := h.1.2.2; omega) q.1.2
    rw [o4, i3]
    exact clm_K h (by omega) i1
  · exact h.mono (by omega)
theorem pfS_K {M : Nat} {f : Nat → Int32} {a b : Int32} (h : OK2 M f) : OK2 M (pfS f a b).2 := by
  have h0 := pfS_ok (a := a) (b := b) h.1
  unfold pfS at h0 ⊢; split
  · rename_i q
    rw [if_pos q] at h0
    obtain ⟨k, k1, k2, k3⟩ := isSetP_k q
    rw [k3] at h0 ⊢
    exact OK2.of h0 (RI_set h.1.1 (by rw [← k2]; exact q) k1) (KI_set h.1.1.2.2.1 h.2 k1)
  · exact h
theorem pf_K {M : Nat} {f : Nat → Int32} {z a b c d : Int32} (h : OK2 M f) : OK2 (M + 60) (pf f z a b c d).2 := by
  unfold pf
  split
  · exact (pfG_K h).mono (by omega)
  split
  · exact (pfB_K h).mono (by omega)
  split
  · exact (pfL_K h).mono (by omega)
  split
  · exact pfM_K h
  split
  · exact (pfH_K h).mono (by omega)
  split
  · exact (pfC_K h).mono (by omega)
  split
  · exact (pfS_K h).mono (by omega)
  · exact h.mono (by omega)
