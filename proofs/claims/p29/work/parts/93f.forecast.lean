/-! WHAT WOULD BE: voyages, the least folds; rows behind one action -/
theorem gms_s {nb : Nat} : ∀ (k : Nat) (f : Nat → Int32), (gms nb (k + 1) f).2 = (gms nb k (gmi f nb).2).2
  | 0, _ => rfl
  | k + 1, f => by
    show (gmi (gms nb (k + 1) f).2 nb).2 = (gmi (gms nb k (gmi f nb).2).2 nb).2
    rw [gms_s k f]
theorem gtl_f {nb b : Nat} : ∀ (k : Nat) (f : Nat → Int32), (gtl nb b k f).2 = (gms nb (gtl nb b k f).1 f).2 ∧ ∀ j, j < (gtl nb b k f).1 → (gms nb j f).2 (24 + 10 * b + 3) = 1
  | 0, f => ⟨rfl, fun j h => absurd h (Nat.not_lt_zero j)⟩
  | k + 1, f => by
    rw [gtl]
    by_cases hs : f (24 + 10 * b + 3) = 1
    · rw [if_pos hs]
      obtain ⟨h1, h2⟩ := gtl_f (nb := nb) (b := b) k (gmi f nb).2
      refine ⟨h1.trans (gms_s _ f).symm, fun j hj => ?_⟩
      cases j with
      | zero => exact hs
      | succ j =>
        rw [gms_s]
        exact h2 j (Nat.lt_of_succ_lt_succ hj)
    · rw [if_neg hs]
      exact ⟨rfl, fun j h => absurd h (Nat.not_lt_zero j)⟩
theorem gmb_st {f : Nat → Int32} {ng nb b : Nat} (h : RI f ng nb) (hb : b < nb) (hs : f (24 + 10 * b + 3) = 1) : ∀ i, i ≤ nb → (gmb f nb i).2 (24 + 10 * b + 3) = 1 ∨ (gmb f nb i).2 (24 + 10 * b + 3) = 2 ∨ (gmb f nb i).2 (24 + 10 * b + 3) = 3
  | 0, _ => Or.inl ((show upd f 148 (f 148 + 1) (24 + 10 * b + 3) = _ from pk_un (by have := h.2.2.1; omega)).trans hs)
  | i + 1, hi => by
    have h9 := h.2.2.1
    have ih := gmb_st h hb hs i (by omega)
    unfold gmb
    split
    · rename_i q
      show dri (gmb f nb i).2 nb i (24 + 10 * b + 3) = 1 ∨ dri (gmb f nb i).2 nb i (24 + 10 * b + 3) = 2 ∨ dri (gmb f nb i).2 nb i (24 + 10 * b + 3) = 3
      by_cases e : b = i
      · subst e
        have hR := RI_gmb h b (by omega)
        obtain ⟨f1, m1, m2, m3 | m3⟩ := dri_c (nb := nb) (show b < 11 by omega) hR.1 (hR.inC hb (Or.inl q)) q
        · rw [m3, arv_3]; exact Or.inr (Or.inl rfl)
        · rw [m3, soa_3]; split
          · exact Or.inr (Or.inr rfl)
          · exact Or.inl rfl
      · rw [dri_n (by omega) (by omega)]; exact ih
    · exact ih
theorem gmi_st {f : Nat → Int32} {ng nb b : Nat} (h : RI f ng nb) (hb : b < nb) (hs : f (24 + 10 * b + 3) = 1) : (gmi f nb).2 (24 + 10 * b + 3) = 0 ∨ (gmi f nb).2 (24 + 10 * b + 3) = 1 ∨ (gmi f nb).2 (24 + 10 * b + 3) = 2 ∨ (gmi f nb).2 (24 + 10 * b + 3) = 3 := by
  have h1 := gmb_st h hb hs nb (Nat.le_refl nb)
  have hR := RI_gmb h nb (Nat.le_refl nb)
  show (if _ then _ else _ : Nat → Int32) _ = 0 ∨ (if _ then _ else _ : Nat → Int32) _ = 1 ∨ (if _ then _ else _ : Nat → Int32) _ = 2 ∨ (if _ then _ else _ : Nat → Int32) _ = 3
  split
  · rw [ehe_3 h.2.2.1 hb hR.own]
    split
    · exact Or.inl rfl
    · exact Or.inr h1
  · exact Or.inr h1
/-- a voyage ends behind 1 to 94 minutes: the boat has arrived (and is perhaps dry again) or has sunk -/
theorem voyage {f : Nat → Int32} {ng nb b : Nat} (h : RI f ng nb) (hb : b < nb) (hs : f (24 + 10 * b + 3) = 1) : ∃ x, x + 1 = (gtl nb b 94 f).1 ∧ x + 1 ≤ 94 ∧ (gtl nb b 94 f).2 = (gms nb (x + 1) f).2 ∧ ((gtl nb b 94 f).2 (24 + 10 * b + 3) = 0 ∨ (gtl nb b 94 f).2 (24 + 10 * b + 3) = 2 ∨ (gtl nb b 94 f).2 (24 + 10 * b + 3) = 3) ∧ (gms nb x f).2 (24 + 10 * b + 3) = 1 := by
  obtain ⟨h1, h2⟩ := gtl_f (nb := nb) (b := b) 94 f
  have h3 := gtl_94 h hb
  have h4 := gtl_le (nb := nb) (b := b) 94 f
  cases hn : (gtl nb b 94 f).1 with
  | zero => rw [hn] at h1; exact absurd (by rw [h1]; exact hs) h3.1
  | succ x =>
    rw [hn] at h1 h2 h4
    have h5 := h2 x (Nat.lt_succ_self x)
    refine ⟨x, rfl, h4, h1, ?_, h5⟩
    have h6 := gmi_st (RI_gms x f h) hb h5
    rw [show (gmi (gms nb x f).2 nb).2 = (gtl nb b 94 f).2 from h1.symm] at h6
    rcases h6 with q | q | q | q
    · exact Or.inl q
    · exact absurd q h3.1
    · exact Or.inr (Or.inl q)
    · exact Or.inr (Or.inr q)
theorem lfR_f {f : Nat → Int32} {g : Nat} {x : Int32} : ∀ (j i : Nat) (tr : Nat → Int32), (lfR f g x j i tr).1 = -1 ∨ ∃ F, i ≤ F ∧ F < i + j ∧ (lfR f g x j i tr).1 = nI F ∧ (lfT f g x F).2 (24 + 10 * bN f + 3) ≠ 3 ∧ ∀ q, i ≤ q → q < F → (lfT f g x q).2 (24 + 10 * bN f + 3) = 3
  | 0, _, _ => Or.inl rfl
  | j + 1, i, tr => by
    unfold lfR
    by_cases hs : (lfT f g x i).2 (24 + 10 * bN f + 3) = 3
    · rw [if_pos hs]
      rcases lfR_f j (i + 1) (lfT f g x i).2 with h | ⟨F, h1, h2, h3, h4, h5⟩
      · exact Or.inl h
      · refine Or.inr ⟨F, by omega, by omega, h3, h4, fun q q1 q2 => ?_⟩
        by_cases e : q = i
        · rw [e]; exact hs
        · exact h5 q (by omega) q2
    · rw [if_neg hs]
      exact Or.inr ⟨i, Nat.le_refl i, by omega, rfl, hs, fun q q1 q2 => absurd q1 (by omega)⟩
/-! rows behind one action -/
theorem gms_K {M i : Nat} {f : Nat → Int32} (h : OK2 M f) (hi : 1 ≤ i ∧ i ≤ 60) : OK2 (M + 60) (gms (bN f) i f).2 ∧ bN (gms (bN f) i f).2 = bN f := by
  have e := pfM_K (a := nI i) h
  unfold pfM at e
  rw [if_pos ⟨nI_le (a := 1) hi.1 (by omega), nI_le (b := 60) hi.2 (by omega)⟩, nI_clamp (by omega)] at e
  exact ⟨e, (RI_gms i f h.1.1).bN⟩
theorem clm_K2 {M o b : Nat} {f : Nat → Int32} (h : OK2 M f) (ho : o < 4) (hb : b < bN f) : OK2 (M + 60) (clmF f o b) ∧ bN (clmF f o b) = bN f := ⟨(clm_K h ho hb).mono (by omega), (RI_clm h.1.1 ho hb).bN⟩
theorem adb_K {M : Nat} {f : Nat → Int32} {a b c : Int32} (h : OK2 M f) (hf : fltB f a b c = 0) : OK2 M (adbF f (bN f) a b c) ∧ bN (adbF f (bN f) a b c) = bN f + 1 ∧ gN (adbF f (bN f) a b c) = gN f := by
  have e := pfB_K (a := a) (b := b) (c := c) h
  have q := fltB_i.mp hf
  unfold pfB at e
  rw [if_pos q] at e
  have hR := RI_adb h.1.1 (by have := q.2.2; omega) q.2.1.1 q.2.1.2 q.1
  exact ⟨e, hR.bN, hR.gN⟩
theorem ln_K {M j i : Nat} {f : Nat → Int32} (h : OK2 M f) (hj : j < bN f) (hi : i < gN f) (hs : f (24 + 10 * j + 3) = 0) : OK2 (M + 60) (lnF f (bN f) j (nI i)) ∧ bN (lnF f (bN f) j (nI i)) = bN f ∧ gN (lnF f (bN f) j (nI i)) = gN f := by
  have h6 := h.1.1.1.2.1
  have h9 := h.1.2.2
  have e := pfL_K (a := nI j) (b := nI i) h
  unfold pfL at e
  rw [if_pos ⟨⟨⟨nI_pos' (by omega), nI_lt hj (by omega)⟩, ⟨nI_pos' (by omega), nI_lt hi (by omega)⟩⟩, by rw [nI_clamp (by omega)]; exact hs⟩, nI_clamp (by omega)] at e
  have hR := RI_lnF h.1.1 hj hi hs
  exact ⟨e.mono (by omega), hR.bN, hR.gN⟩
theorem adg_K {M : Nat} {f : Nat → Int32} {a b c d : Int32} (h : OK2 M f) (hf : fltG f a b c d = 0) : OK2 M (adgF f (gN f) a b c d) := by
  have e := pfG_K (a := a) (b := b) (c := c) (d := d) h
  have q := fltG_i.mp hf
  unfold pfG at e
  rw [if_pos q] at e
  exact e
theorem hok_K {M o : Nat} {f : Nat → Int32} {b c : Int32} (h : OK2 M f) (ho : o < 4) (hi : icl f (gN f) b c = true) : OK2 M (hokF f o b c) := by
  have e := pfH_K (a := nI o) (b := b) (c := c) h
  unfold pfH at e
  rw [if_pos ⟨⟨nI_pos' (by omega), nI_le (b := 3) (by omega) (by omega)⟩, hi⟩, nI_clamp (by omega)] at e
  exact e
theorem set_K {M j : Nat} {f : Nat → Int32} {b : Int32} (h : OK2 M f) (hj : j < 3) (hs : isSetP (nI j) b) : OK2 M (upd f (154 + j) b) := by
  have e := pfS_K (a := nI j) (b := b) h
  unfold pfS at e
  rw [if_pos hs, nI_clamp (by omega)] at e
  exact e
