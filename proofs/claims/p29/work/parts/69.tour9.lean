/-! the tournament: voyages, commands -/
set_option maxHeartbeats 4000000 in
set_option maxRecDepth 100000 in
theorem t_until {l : Launch} {w : Wt} {hs : Hs} {n : Option Nat} {k : Nat} {f : Nat → Int32} {x : Int32} {z : Nat → Nat → Int32} (hR : RIs f) (hU : UD f (bN f)) {b : Nat} (hb : b < bN f) : Cn l w mX4_minutesUntilEnd 0 0 [.ref (wB w + k), .int (nI b)] (TH w hs k f x z) n (TH w hs k (gtl (bN f) b 94 f).2 x z) n (some (.int (nI (gtl (bN f) b 94 f).1))) := by
  obtain ⟨C9, F9, hF⟩ : ∃ C9 F9, gtl (bN f) b 94 f = (C9, F9) := ⟨_, _, rfl⟩
  rw [hF]
  refine Cn.of (d := mX4_minutesUntilEnd) (by decide +kernel) (Nat.le_of_ble_eq_true rfl) ?_
  intro p e R s m args below meth c CX
  replace CX : Ctx p s m args meth c R w RX4 "minutesUntilEnd" cX4_minutesUntilEnd 3 (some .int) 4 96 0 0 := CX
  show ZW p l e R s m args below meth c w 3 _ _ 0 0 (MQ below (Qn w _ _ _) args s 0 0 (wA w)) 0 [(0, .ref (wB w + k)), (1, .int _)] []
  have LP : ∀ (j c9 : Nat) (f1 : Nat → Int32), c9 + j ≤ 94 → RIs f1 → UD f1 (bN f1) → bN f1 = bN f → (f1 (24 + 10 * b + 3) = 1 → ∃ K, f1 (24 + 10 * b + 6) = nI K ∧ K ≤ 93 ∧ 94 ≤ j + K) → c9 + (gtl (bN f) b j f1).1 = C9 → (gtl (bN f) b j f1).2 = F9 → ZW p l e R s m args below meth c w 3 (TH w hs k f1 x z) n 0 0 (MQ below (Qn w (TH w hs k F9 x z) n (some (.int (nI C9)))) args s 0 0 (wA w)) 2 [(0, .ref (wB w + k)), (1, .int (nI b)), (2, .int (nI c9))] [] := by
    intro j
    induction j with
    | zero =>
      intro c9 f1 hc hR1 hU1 eb hK e1 e2
      have hnb := hR1.2.2.1
      refine z_iload_n CX 2 dX4_minutesUntilEnd_2 rfl rfl ?_
      refine z_sipush CX (v := 1000) dX4_minutesUntilEnd_3 (by decide) ?_
      refine z_icmp_ge CX 36 dX4_minutesUntilEnd_6 (by decide) (fun q9 => absurd q9 (nI_ge (b := 1000) (by omega) (by omega))) (fun _ => ?_)
      refine z_aload_n CX 0 dX4_minutesUntilEnd_9 rfl rfl ?_
      refine z_get CX dX4_minutesUntilEnd_10 fg_X4_20 to_0 rfl ?_
      refine z_iload_n CX 1 dX4_minutesUntilEnd_13 rfl rfl ?_
      refine z_iconst CX (v := 3) dX4_minutesUntilEnd_14 (by decide) ?_
      refine z_callV1 CX dX4_minutesUntilEnd_15 cv_X4_71 (hB_o hR1 (b := b) (c := 3) (by omega) (by omega) (by decide)) to_3 rfl rfl (Nat.le_of_ble_eq_true rfl) ⟨Nat.le_of_ble_eq_true rfl, Nat.le_of_ble_eq_true rfl⟩ ⟨Nat.le_refl _, Nat.le_refl _⟩ ?_
      refine z_iconst CX (v := 1) dX4_minutesUntilEnd_18 (by decide) ?_
      refine z_icmp_eq CX 24 dX4_minutesUntilEnd_19 (by decide) (fun q9 => absurd q9 (fun q => by obtain ⟨K, -, k1, k2⟩ := hK q; omega)) (fun _ => ?_)
      rw [show C9 = c9 from e1.symm, ← e2]
      refine z_iload_n CX 2 dX4_minutesUntilEnd_22 rfl rfl ?_
      exact z_iret CX dX4_minutesUntilEnd_23 rfl rfl rfl (Or.inl rfl)
    | succ j ih =>
      intro c9 f1 hc hR1 hU1 eb hK e1 e2
      have hnb := hR1.2.2.1
      by_cases hs9 : f1 (24 + 10 * b + 3) = 1
      · skip
        refine z_iload_n CX 2 dX4_minutesUntilEnd_2 rfl rfl ?_
        refine z_sipush CX (v := 1000) dX4_minutesUntilEnd_3 (by decide) ?_
        refine z_icmp_ge CX 36 dX4_minutesUntilEnd_6 (by decide) (fun q9 => absurd q9 (nI_ge (b := 1000) (by omega) (by omega))) (fun _ => ?_)
        refine z_aload_n CX 0 dX4_minutesUntilEnd_9 rfl rfl ?_
        refine z_get CX dX4_minutesUntilEnd_10 fg_X4_20 to_0 rfl ?_
        refine z_iload_n CX 1 dX4_minutesUntilEnd_13 rfl rfl ?_
        refine z_iconst CX (v := 3) dX4_minutesUntilEnd_14 (by decide) ?_
        refine z_callV1 CX dX4_minutesUntilEnd_15 cv_X4_71 (hB_o hR1 (b := b) (c := 3) (by omega) (by omega) (by decide)) to_3 rfl rfl (Nat.le_of_ble_eq_true rfl) ⟨Nat.le_of_ble_eq_true rfl, Nat.le_of_ble_eq_true rfl⟩ ⟨Nat.le_refl _, Nat.le_refl _⟩ ?_
        refine z_iconst CX (v := 1) dX4_minutesUntilEnd_18 (by decide) ?_
        refine z_icmp_eq CX 24 dX4_minutesUntilEnd_19 (by decide) (fun _ => ?_) (fun q9 => absurd hs9 q9)
        refine z_aload_n CX 0 dX4_minutesUntilEnd_24 rfl rfl ?_
        refine z_iconst CX (v := 1) dX4_minutesUntilEnd_25 (by decide) ?_
        refine z_callV1 CX dX4_minutesUntilEnd_26 cv_X4_109 (t_pass hR1 hU1 (N9 := 1) (by omega)) to_0 rfl rfl (Nat.le_of_ble_eq_true rfl) ⟨Nat.le_of_ble_eq_true rfl, Nat.le_of_ble_eq_true rfl⟩ ⟨Nat.le_refl _, Nat.le_refl _⟩ ?_
        refine z_pop CX dX4_minutesUntilEnd_29 rfl ?_
        refine z_iinc CX (v := nI (c9 + 1)) dX4_minutesUntilEnd_30 rfl (nI_1 c9) (by decide) ?_
        refine z_goto CX 2 dX4_minutesUntilEnd_33 (by decide) ?_
        refine z_heap (show _ = TH w hs k (gmi f1 (bN f1)).2 x z from rfl) ?_
        have hRg := RI_gmi hR1
        have eg : bN (gmi f1 (bN f1)).2 = bN f1 := hRg.bN
        refine z_loc [(0, .ref (wB w + k)), (1, .int (nI b)), (2, .int (nI (c9 + 1)))] ⟨rfl, rfl, rfl, trivial⟩ ?_
        exact ih (c9 + 1) _ (by omega) (RIs.of hRg) (by rw [eg]; exact UD_gmi hR1 hU1) (eg.trans eb) (gtl_st (show b < bN f1 by omega) hR1 hs9 (hK hs9)) (by rw [← e1, gtl, if_pos hs9, eb]; show _ = c9 + (_ + 1); omega) (by rw [← e2, gtl, if_pos hs9, eb])
      · skip
        refine z_iload_n CX 2 dX4_minutesUntilEnd_2 rfl rfl ?_
        refine z_sipush CX (v := 1000) dX4_minutesUntilEnd_3 (by decide) ?_
        refine z_icmp_ge CX 36 dX4_minutesUntilEnd_6 (by decide) (fun q9 => absurd q9 (nI_ge (b := 1000) (by omega) (by omega))) (fun _ => ?_)
        refine z_aload_n CX 0 dX4_minutesUntilEnd_9 rfl rfl ?_
        refine z_get CX dX4_minutesUntilEnd_10 fg_X4_20 to_0 rfl ?_
        refine z_iload_n CX 1 dX4_minutesUntilEnd_13 rfl rfl ?_
        refine z_iconst CX (v := 3) dX4_minutesUntilEnd_14 (by decide) ?_
        refine z_callV1 CX dX4_minutesUntilEnd_15 cv_X4_71 (hB_o hR1 (b := b) (c := 3) (by omega) (by omega) (by decide)) to_3 rfl rfl (Nat.le_of_ble_eq_true rfl) ⟨Nat.le_of_ble_eq_true rfl, Nat.le_of_ble_eq_true rfl⟩ ⟨Nat.le_refl _, Nat.le_refl _⟩ ?_
        refine z_iconst CX (v := 1) dX4_minutesUntilEnd_18 (by decide) ?_
        refine z_icmp_eq CX 24 dX4_minutesUntilEnd_19 (by decide) (fun q9 => absurd q9 hs9) (fun _ => ?_)
        rw [gtl, if_neg hs9] at e1 e2
        rw [show C9 = c9 from e1.symm, ← e2]
        refine z_iload_n CX 2 dX4_minutesUntilEnd_22 rfl rfl ?_
        exact z_iret CX dX4_minutesUntilEnd_23 rfl rfl rfl (Or.inl rfl)
  refine z_iconst CX (v := 0) dX4_minutesUntilEnd_0 (by decide) ?_
  refine z_istore_n CX 2 dX4_minutesUntilEnd_1 rfl (by decide) ?_
  refine z_loc [(0, .ref (wB w + k)), (1, .int (nI b)), (2, .int (nI 0))] ⟨rfl, rfl, rfl, trivial⟩ ?_
  exact LP 94 0 f (by omega) hR hU rfl (fun q => by obtain ⟨K, k1, k2⟩ := hR.soak hb q; exact ⟨K, k2, k1, by omega⟩) (by rw [hF]; exact Nat.zero_add _) (by rw [hF])
set_option maxHeartbeats 4000000 in
set_option maxRecDepth 100000 in
theorem t_let {l : Launch} {w : Wt} {hs : Hs} {n : Option Nat} {k : Nat} {f : Nat → Int32} {x : Int32} {z : Nat → Nat → Int32} (hR : RIs f) (hU : UD f (bN f)) : Cn l w mX4_letHeatEnd 0 0 [.ref (wB w + k)] (TH w hs k f x z) n (TH w hs k (lhe (bN f) 94 f) x z) n none := by
  generalize hF : lhe (bN f) 94 f = F9
  refine Cn.of (d := mX4_letHeatEnd) (by decide +kernel) (Nat.le_of_ble_eq_true rfl) ?_
  intro p e R s m args below meth c CX
  replace CX : Ctx p s m args meth c R w RX4 "letHeatEnd" cX4_letHeatEnd 2 none 4 96 0 0 := CX
  show ZW p l e R s m args below meth c w 2 _ _ 0 0 (MQ below (Qn w _ _ _) args s 0 0 (wA w)) 0 [(0, .ref (wB w + k))] []
  have LP : ∀ (j c9 m9 : Nat) (f1 : Nat → Int32), c9 + j ≤ 94 → RIs f1 → UD f1 (bN f1) → bN f1 = bN f → 94 ≤ j + m9 → (∀ b, b < bN f1 → f1 (24 + 10 * b + 3) = 1 → ∃ K, f1 (24 + 10 * b + 6) = nI K ∧ m9 ≤ K ∧ K ≤ 93) → lhe (bN f) j f1 = F9 → ZW p l e R s m args below meth c w 2 (TH w hs k f1 x z) n 0 0 (MQ below (Qn w (TH w hs k F9 x z) n none) args s 0 0 (wA w)) 2 [(0, .ref (wB w + k)), (1, .int (nI c9))] [] := by
    intro j
    induction j with
    | zero =>
      intro c9 m9 f1 hc hR1 hU1 eb hm hK e1
      refine z_iload_n CX 1 dX4_letHeatEnd_2 rfl rfl ?_
      refine z_sipush CX (v := 1000) dX4_letHeatEnd_3 (by decide) ?_
      refine z_icmp_ge CX 28 dX4_letHeatEnd_6 (by decide) (fun q9 => absurd q9 (nI_ge (b := 1000) (by omega) (by omega))) (fun _ => ?_)
      refine z_aload_n CX 0 dX4_letHeatEnd_9 rfl rfl ?_
      refine z_get CX dX4_letHeatEnd_10 fg_X4_56 to_0 rfl ?_
      refine z_if_eq CX 28 dX4_letHeatEnd_13 (by decide) (fun _ => ?_) (fun q9 => absurd (lhe_end 0 f1 m9 hR1 hU1 hm hK).1 q9)
      rw [← show f1 = F9 from e1]
      exact z_vret CX dX4_letHeatEnd_28 rfl rfl (Or.inl rfl)
    | succ j ih =>
      intro c9 m9 f1 hc hR1 hU1 eb hm hK e1
      by_cases hs9 : f1 150 = 1
      · skip
        refine z_iload_n CX 1 dX4_letHeatEnd_2 rfl rfl ?_
        refine z_sipush CX (v := 1000) dX4_letHeatEnd_3 (by decide) ?_
        refine z_icmp_ge CX 28 dX4_letHeatEnd_6 (by decide) (fun q9 => absurd q9 (nI_ge (b := 1000) (by omega) (by omega))) (fun _ => ?_)
        refine z_aload_n CX 0 dX4_letHeatEnd_9 rfl rfl ?_
        refine z_get CX dX4_letHeatEnd_10 fg_X4_56 to_0 rfl ?_
        refine z_if_eq CX 28 dX4_letHeatEnd_13 (by decide) (fun q9 => absurd q9 (fun q => absurd (hs9.symm.trans q) (by decide))) (fun _ => ?_)
        refine z_aload_n CX 0 dX4_letHeatEnd_16 rfl rfl ?_
        refine z_iconst CX (v := 1) dX4_letHeatEnd_17 (by decide) ?_
        refine z_callV1 CX dX4_letHeatEnd_18 cv_X4_109 (t_pass hR1 hU1 (N9 := 1) (by omega)) to_0 rfl rfl (Nat.le_of_ble_eq_true rfl) ⟨Nat.le_of_ble_eq_true rfl, Nat.le_of_ble_eq_true rfl⟩ ⟨Nat.le_refl _, Nat.le_refl _⟩ ?_
        refine z_pop CX dX4_letHeatEnd_21 rfl ?_
        refine z_iinc CX (v := nI (c9 + 1)) dX4_letHeatEnd_22 rfl (nI_1 c9) (by decide) ?_
        refine z_goto CX 2 dX4_letHeatEnd_25 (by decide) ?_
        refine z_heap (show _ = TH w hs k (gmi f1 (bN f1)).2 x z from rfl) ?_
        have hRg := RI_gmi hR1
        have eg : bN (gmi f1 (bN f1)).2 = bN f1 := hRg.bN
        refine z_loc [(0, .ref (wB w + k)), (1, .int (nI (c9 + 1)))] ⟨rfl, rfl, trivial⟩ ?_
        exact ih (c9 + 1) (m9 + 1) _ (by omega) (RIs.of hRg) (by rw [eg]; exact UD_gmi hR1 hU1) (eg.trans eb) (by omega) (by rw [eg]; exact lhe_st hR1 hK) (by rw [← e1, lhe, if_pos hs9, eb])
      · skip
        refine z_iload_n CX 1 dX4_letHeatEnd_2 rfl rfl ?_
        refine z_sipush CX (v := 1000) dX4_letHeatEnd_3 (by decide) ?_
        refine z_icmp_ge CX 28 dX4_letHeatEnd_6 (by decide) (fun q9 => absurd q9 (nI_ge (b := 1000) (by omega) (by omega))) (fun _ => ?_)
        refine z_aload_n CX 0 dX4_letHeatEnd_9 rfl rfl ?_
        refine z_get CX dX4_letHeatEnd_10 fg_X4_56 to_0 rfl ?_
        refine z_if_eq CX 28 dX4_letHeatEnd_13 (by decide) (fun _ => ?_) (fun q9 => absurd (hU1.u01.elim (fun q => absurd q hs9) id) q9)
        rw [lhe, if_neg hs9] at e1
        rw [← e1]
        exact z_vret CX dX4_letHeatEnd_28 rfl rfl (Or.inl rfl)
  refine z_iconst CX (v := 0) dX4_letHeatEnd_0 (by decide) ?_
  refine z_istore_n CX 1 dX4_letHeatEnd_1 rfl (by decide) ?_
  refine z_loc [(0, .ref (wB w + k)), (1, .int (nI 0))] ⟨rfl, rfl, trivial⟩ ?_
  exact LP 94 0 0 f (by omega) hR hU rfl (by omega) (fun b hb q => by obtain ⟨K, k1, k2⟩ := hR.soak hb q; exact ⟨K, k2, Nat.zero_le _, k1⟩) hF
theorem fltG_i {f : Nat → Int32} {a b c d : Int32} : fltG f a b c d = 0 ↔ ((4 ≤ a ∧ a ≤ 40) ∧ (0 ≤ b ∧ b ≤ 5)) ∧ gN f < 6 ∧ (gN f = 0 ∨ icl f (gN f) c d = true) := by
  unfold fltG
  by_cases h1 : gN f = 0 ∨ icl f (gN f) c d = true
  · rw [if_pos h1]
    by_cases h2 : (4 ≤ a ∧ a ≤ 40) ∧ (0 ≤ b ∧ b ≤ 5)
    · rw [if_pos h2]
      by_cases h3 : gN f < 6
      · rw [if_pos h3]; exact ⟨fun _ => ⟨h2, h3, h1⟩, fun _ => rfl⟩
      · rw [if_neg h3]; exact ⟨fun q => absurd q (by decide), fun q => absurd q.2.1 h3⟩
    · rw [if_neg h2]; exact ⟨fun q => absurd q (by decide), fun q => absurd q.1 h2⟩
  · rw [if_neg h1]; exact ⟨fun q => absurd q (by decide), fun q => absurd q.2.2 h1⟩
theorem fltB_i {f : Nat → Int32} {a b c : Int32} : fltB f a b c = 0 ↔ (0 ≤ c ∧ c ≤ 3) ∧ ((1 ≤ a ∧ a ≤ 9) ∧ (0 ≤ b ∧ b ≤ 3)) ∧ bN f < 10 := by
  unfold fltB
  by_cases h1 : 0 ≤ c ∧ c ≤ 3
  · rw [if_pos h1]
    by_cases h2 : (1 ≤ a ∧ a ≤ 9) ∧ (0 ≤ b ∧ b ≤ 3)
    · rw [if_pos h2]
      by_cases h3 : bN f < 10
      · rw [if_pos h3]; exact ⟨fun _ => ⟨h1, h2, h3⟩, fun _ => rfl⟩
      · rw [if_neg h3]; exact ⟨fun q => absurd q (by decide), fun q => absurd q.2.2 h3⟩
    · rw [if_neg h2]; exact ⟨fun q => absurd q (by decide), fun q => absurd q.2.1 h2⟩
  · rw [if_neg h1]; exact ⟨fun q => absurd q (by decide), fun q => absurd q.1 h1⟩
theorem fltL_i {f : Nat → Int32} {a b : Int32} : fltL f a b = 0 ↔ ((0 ≤ a ∧ a < nI (bN f)) ∧ (0 ≤ b ∧ b < nI (gN f))) ∧ f (24 + 10 * a.toNatClampNeg + 3) = 0 := by
  unfold fltL
  by_cases h1 : (0 ≤ a ∧ a < nI (bN f)) ∧ (0 ≤ b ∧ b < nI (gN f))
  · rw [if_pos h1]
    by_cases h3 : f (24 + 10 * a.toNatClampNeg + 3) = 0
    · rw [if_pos h3]; exact ⟨fun _ => ⟨h1, h3⟩, fun _ => rfl⟩
    · rw [if_neg h3]; exact ⟨fun q => absurd q (by decide), fun q => absurd q.2 h3⟩
  · rw [if_neg h1]; exact ⟨fun q => absurd q (by decide), fun q => absurd q.1 h1⟩
theorem flt_i {P : Prop} {d : Decidable P} {v : Int32} (hv : v ≠ 0) : (if P then (0 : Int32) else v) = 0 ↔ P := by
  by_cases h : P
  · rw [if_pos h]; exact ⟨fun _ => h, fun _ => rfl⟩
  · rw [if_neg h]; exact ⟨fun q => absurd q hv, fun q => absurd q h⟩
theorem fltH_i {f : Nat → Int32} {a b c : Int32} : fltH f a b c = 0 ↔ (0 ≤ a ∧ a ≤ 3) ∧ icl f (gN f) b c = true := flt_i (by decide)
theorem fltC_i {f : Nat → Int32} {a b : Int32} : fltC f a b = 0 ↔ (0 ≤ a ∧ a ≤ 3) ∧ (0 ≤ b ∧ b < nI (bN f)) := flt_i (by decide)
theorem fltM_i {a : Int32} : fltM a = 0 ↔ (1 ≤ a ∧ a ≤ 60) := flt_i (by decide)
theorem fltS_i {a b : Int32} : fltS a b = 0 ↔ isSetP a b := flt_i (by decide)
set_option maxHeartbeats 4000000 in
set_option maxRecDepth 100000 in
theorem t_perf {l : Launch} {w : Wt} {hs : Hs} {n : Option Nat} {k : Nat} {f : Nat → Int32} {x : Int32} {z : Nat → Nat → Int32} (hO : OKr f) (u a b y v : Int32) : Cn l w mX4_perform 0 0 [.ref (wB w + k), .int u, .int a, .int b, .int y, .int v] (TH w hs k f x z) n (TH w hs k (pf f u a b y v).2 x z) n (some (.int (bI (pf f u a b y v).1))) := by
  have hR : RIs f := hO.1
  have h9 := hO.2.2
  have h6 := hO.1.1.2.1
  by_cases h103 : u = 103
  · subst h103
    rw [pf_103]
    by_cases hc : ((4 ≤ a ∧ a ≤ 40) ∧ (0 ≤ b ∧ b ≤ 5)) ∧ gN f < 6 ∧ (gN f = 0 ∨ icl f (gN f) y v = true)
    · have hf := fltG_i.mpr hc
      rw [show pfG f a b y v = (true, adgF f (gN f) a b y v) from if_pos hc]
      refine Cn.of (d := mX4_perform) (by decide +kernel) (Nat.le_of_ble_eq_true rfl) ?_
      intro p e R s m args below meth c CX
      replace CX : Ctx p s m args meth c R w RX4 "perform" cX4_perform 6 (some .boolean) 4 96 0 0 := CX
      show ZW p l e R s m args below meth c w 6 _ _ 0 0 (MQ below (Qn w _ _ _) args s 0 0 (wA w)) 0 [(0, .ref (wB w + k)), (1, .int _), (2, .int _), (3, .int _), (4, .int _), (5, .int _)] []
      refine z_iload_n CX 1 dX4_perform_0 rfl rfl ?_
      refine z_tabIn CX 88 dX4_perform_1 (by decide) (by decide) rfl (by decide) ?_
      refine z_aload_n CX 0 dX4_perform_88 rfl rfl ?_
      refine z_iload_n CX 2 dX4_perform_89 rfl rfl ?_
      refine z_iload_n CX 3 dX4_perform_90 rfl rfl ?_
      refine z_iload CX dX4_perform_91 rfl ?_
      refine z_iload CX dX4_perform_93 rfl ?_
      refine z_callV1 CX dX4_perform_95 cv_X4_85 (t_fltG hR _ _ _ _) to_0 rfl rfl (Nat.le_of_ble_eq_true rfl) ⟨Nat.le_of_ble_eq_true rfl, Nat.le_of_ble_eq_true rfl⟩ ⟨Nat.le_refl _, Nat.le_refl _⟩ ?_
      refine z_if_ne CX 118 dX4_perform_98 (by decide) (fun q9 => absurd q9 (fun q => q hf)) (fun _ => ?_)
      refine z_aload_n CX 0 dX4_perform_101 rfl rfl ?_
      refine z_iload_n CX 2 dX4_perform_102 rfl rfl ?_
      refine z_iload_n CX 3 dX4_perform_103 rfl rfl ?_
      refine z_iload CX dX4_perform_104 rfl ?_
      refine z_iload CX dX4_perform_106 rfl ?_
      refine z_callV1 CX dX4_perform_108 cv_X4_89 (t_addG hR hc.2.1 _ _ _ _) to_0 rfl rfl (Nat.le_of_ble_eq_true rfl) ⟨Nat.le_of_ble_eq_true rfl, Nat.le_of_ble_eq_true rfl⟩ ⟨Nat.le_refl _, Nat.le_refl _⟩ ?_
      refine z_if_lt CX 118 dX4_perform_111 (by decide) (fun q9 => absurd q9 (nI_pos (by omega))) (fun _ => ?_)
      refine z_iconst CX (v := 1) dX4_perform_114 (by decide) ?_
      refine z_goto CX 119 dX4_perform_115 (by decide) ?_
      exact z_zret CX dX4_perform_119 rfl (by first | rfl | exact bI_nar _) rfl rfl (Or.inl rfl)
    · rw [show pfG f a b y v = (false, f) from if_neg hc]
      refine Cn.of (d := mX4_perform) (by decide +kernel) (Nat.le_of_ble_eq_true rfl) ?_
      intro p e R s m args below meth c CX
      replace CX : Ctx p s m args meth c R w RX4 "perform" cX4_perform 6 (some .boolean) 4 96 0 0 := CX
      show ZW p l e R s m args below meth c w 6 _ _ 0 0 (MQ below (Qn w _ _ _) args s 0 0 (wA w)) 0 [(0, .ref (wB w + k)), (1, .int _), (2, .int _), (3, .int _), (4, .int _), (5, .int _)] []
      refine z_iload_n CX 1 dX4_perform_0 rfl rfl ?_
      refine z_tabIn CX 88 dX4_perform_1 (by decide) (by decide) rfl (by decide) ?_
      refine z_aload_n CX 0 dX4_perform_88 rfl rfl ?_
      refine z_iload_n CX 2 dX4_perform_89 rfl rfl ?_
      refine z_iload_n CX 3 dX4_perform_90 rfl rfl ?_
      refine z_iload CX dX4_perform_91 rfl ?_
      refine z_iload CX dX4_perform_93 rfl ?_
      refine z_callV1 CX dX4_perform_95 cv_X4_85 (t_fltG hR _ _ _ _) to_0 rfl rfl (Nat.le_of_ble_eq_true rfl) ⟨Nat.le_of_ble_eq_true rfl, Nat.le_of_ble_eq_true rfl⟩ ⟨Nat.le_refl _, Nat.le_refl _⟩ ?_
      refine z_if_ne CX 118 dX4_perform_98 (by decide) (fun _ => ?_) (fun q9 => absurd q9 (fun q => hc (fltG_i.mp q)))
      refine z_iconst CX (v := 0) dX4_perform_118 (by decide) ?_
      exact z_zret CX dX4_perform_119 rfl (by first | rfl | exact bI_nar _) rfl rfl (Or.inl rfl)
  by_cases h98 : u = 98
  · subst h98
    rw [pf_98]
    by_cases hc : (0 ≤ y ∧ y ≤ 3) ∧ ((1 ≤ a ∧ a ≤ 9) ∧ (0 ≤ b ∧ b ≤ 3)) ∧ bN f < 10
    · have hf := fltB_i.mpr hc
      rw [show pfB f a b y = (true, adbF f (bN f) a b y) from if_pos hc]
      refine Cn.of (d := mX4_perform) (by decide +kernel) (Nat.le_of_ble_eq_true rfl) ?_
      intro p e R s m args below meth c CX
      replace CX : Ctx p s m args meth c R w RX4 "perform" cX4_perform 6 (some .boolean) 4 96 0 0 := CX
      show ZW p l e R s m args below meth c w 6 _ _ 0 0 (MQ below (Qn w _ _ _) args s 0 0 (wA w)) 0 [(0, .ref (wB w + k)), (1, .int _), (2, .int _), (3, .int _), (4, .int _), (5, .int _)] []
      refine z_iload_n CX 1 dX4_perform_0 rfl rfl ?_
      refine z_tabIn CX 120 dX4_perform_1 (by decide) (by decide) rfl (by decide) ?_
      refine z_aload_n CX 0 dX4_perform_120 rfl rfl ?_
      refine z_iload_n CX 2 dX4_perform_121 rfl rfl ?_
      refine z_iload_n CX 3 dX4_perform_122 rfl rfl ?_
      refine z_iload CX dX4_perform_123 rfl ?_
      refine z_callV1 CX dX4_perform_125 cv_X4_92 (t_fltB hR _ _ _) to_0 rfl rfl (Nat.le_of_ble_eq_true rfl) ⟨Nat.le_of_ble_eq_true rfl, Nat.le_of_ble_eq_true rfl⟩ ⟨Nat.le_refl _, Nat.le_refl _⟩ ?_
      refine z_if_ne CX 146 dX4_perform_128 (by decide) (fun q9 => absurd q9 (fun q => q hf)) (fun _ => ?_)
      refine z_aload_n CX 0 dX4_perform_131 rfl rfl ?_
      refine z_iload_n CX 2 dX4_perform_132 rfl rfl ?_
      refine z_iload_n CX 3 dX4_perform_133 rfl rfl ?_
      refine z_iload CX dX4_perform_134 rfl ?_
      refine z_callV1 CX dX4_perform_136 cv_X4_96 (t_addB hR (by omega) _ _ _) to_0 rfl rfl (Nat.le_of_ble_eq_true rfl) ⟨Nat.le_of_ble_eq_true rfl, Nat.le_of_ble_eq_true rfl⟩ ⟨Nat.le_refl _, Nat.le_refl _⟩ ?_
      refine z_if_lt CX 146 dX4_perform_139 (by decide) (fun q9 => absurd q9 (nI_pos (by omega))) (fun _ => ?_)
      refine z_iconst CX (v := 1) dX4_perform_142 (by decide) ?_
      refine z_goto CX 147 dX4_perform_143 (by decide) ?_
      exact z_zret CX dX4_perform_147 rfl (by first | rfl | exact bI_nar _) rfl rfl (Or.inl rfl)
    · rw [show pfB f a b y = (false, f) from if_neg hc]
      refine Cn.of (d := mX4_perform) (by decide +kernel) (Nat.le_of_ble_eq_true rfl) ?_
      intro p e R s m args below meth c CX
      replace CX : Ctx p s m args meth c R w RX4 "perform" cX4_perform 6 (some .boolean) 4 96 0 0 := CX
      show ZW p l e R s m args below meth c w 6 _ _ 0 0 (MQ below (Qn w _ _ _) args s 0 0 (wA w)) 0 [(0, .ref (wB w + k)), (1, .int _), (2, .int _), (3, .int _), (4, .int _), (5, .int _)] []
      refine z_iload_n CX 1 dX4_perform_0 rfl rfl ?_
      refine z_tabIn CX 120 dX4_perform_1 (by decide) (by decide) rfl (by decide) ?_
      refine z_aload_n CX 0 dX4_perform_120 rfl rfl ?_
      refine z_iload_n CX 2 dX4_perform_121 rfl rfl ?_
      refine z_iload_n CX 3 dX4_perform_122 rfl rfl ?_
      refine z_iload CX dX4_perform_123 rfl ?_
      refine z_callV1 CX dX4_perform_125 cv_X4_92 (t_fltB hR _ _ _) to_0 rfl rfl (Nat.le_of_ble_eq_true rfl) ⟨Nat.le_of_ble_eq_true rfl, Nat.le_of_ble_eq_true rfl⟩ ⟨Nat.le_refl _, Nat.le_refl _⟩ ?_
      refine z_if_ne CX 146 dX4_perform_128 (by decide) (fun _ => ?_) (fun q9 => absurd q9 (fun q => hc (fltB_i.mp q)))
      refine z_iconst CX (v := 0) dX4_perform_146 (by decide) ?_
      exact z_zret CX dX4_perform_147 rfl (by first | rfl | exact bI_nar _) rfl rfl (Or.inl rfl)
  by_cases h108 : u = 108
  · subst h108
    rw [pf_108]
    by_cases hc : ((0 ≤ a ∧ a < nI (bN f)) ∧ (0 ≤ b ∧ b < nI (gN f))) ∧ f (24 + 10 * a.toNatClampNeg + 3) = 0
    · have hf := fltL_i.mpr hc
      obtain ⟨i, i1, i2, i3⟩ := nI_box (by omega) hc.1.1
      obtain ⟨g, g1, g2, g3⟩ := nI_box (by omega) hc.1.2
      obtain ⟨m9, m1, m2⟩ := drn_0 hR.1 g1
      have hs0 : f (24 + 10 * i + 3) = 0 := by have := hc.2; rw [i3] at this; exact this
      rw [show pfL f a b = (true, lnF f (bN f) i b) from by unfold pfL; rw [if_pos hc, i3]]
      subst i2
      subst g2
      refine Cn.of (d := mX4_perform) (by decide +kernel) (Nat.le_of_ble_eq_true rfl) ?_
      intro p e R s m args below meth c CX
      replace CX : Ctx p s m args meth c R w RX4 "perform" cX4_perform 6 (some .boolean) 4 96 0 0 := CX
      show ZW p l e R s m args below meth c w 6 _ _ 0 0 (MQ below (Qn w _ _ _) args s 0 0 (wA w)) 0 [(0, .ref (wB w + k)), (1, .int _), (2, .int _), (3, .int _), (4, .int _), (5, .int _)] []
      refine z_iload_n CX 1 dX4_perform_0 rfl rfl ?_
      refine z_tabIn CX 148 dX4_perform_1 (by decide) (by decide) rfl (by decide) ?_
      refine z_aload_n CX 0 dX4_perform_148 rfl rfl ?_
      refine z_iload_n CX 2 dX4_perform_149 rfl rfl ?_
      refine z_iload_n CX 3 dX4_perform_150 rfl rfl ?_
      refine z_callV1 CX dX4_perform_151 cv_X4_99 (t_fltL hR _ _) to_0 rfl rfl (Nat.le_of_ble_eq_true rfl) ⟨Nat.le_of_ble_eq_true rfl, Nat.le_of_ble_eq_true rfl⟩ ⟨Nat.le_refl _, Nat.le_refl _⟩ ?_
      refine z_if_ne CX 170 dX4_perform_154 (by decide) (fun q9 => absurd q9 (fun q => q hf)) (fun _ => ?_)
      refine z_aload_n CX 0 dX4_perform_157 rfl rfl ?_
      refine z_iload_n CX 2 dX4_perform_158 rfl rfl ?_
      refine z_iload_n CX 3 dX4_perform_159 rfl rfl ?_
      refine z_callV1 CX dX4_perform_160 cv_X4_102 (t_launch hR i1 g1 hs0) to_0 rfl rfl (Nat.le_of_ble_eq_true rfl) ⟨Nat.le_of_ble_eq_true rfl, Nat.le_of_ble_eq_true rfl⟩ ⟨Nat.le_refl _, Nat.le_refl _⟩ ?_
      refine z_if_lt CX 170 dX4_perform_163 (by decide) (fun q9 => absurd q9 (by rw [m2]; exact nI_pos (by omega))) (fun _ => ?_)
      refine z_iconst CX (v := 1) dX4_perform_166 (by decide) ?_
      refine z_goto CX 171 dX4_perform_167 (by decide) ?_
      exact z_zret CX dX4_perform_171 rfl (by first | rfl | exact bI_nar _) rfl rfl (Or.inl rfl)
    · rw [show pfL f a b = (false, f) from if_neg hc]
      refine Cn.of (d := mX4_perform) (by decide +kernel) (Nat.le_of_ble_eq_true rfl) ?_
      intro p e R s m args below meth c CX
      replace CX : Ctx p s m args meth c R w RX4 "perform" cX4_perform 6 (some .boolean) 4 96 0 0 := CX
      show ZW p l e R s m args below meth c w 6 _ _ 0 0 (MQ below (Qn w _ _ _) args s 0 0 (wA w)) 0 [(0, .ref (wB w + k)), (1, .int _), (2, .int _), (3, .int _), (4, .int _), (5, .int _)] []
      refine z_iload_n CX 1 dX4_perform_0 rfl rfl ?_
      refine z_tabIn CX 148 dX4_perform_1 (by decide) (by decide) rfl (by decide) ?_
      refine z_aload_n CX 0 dX4_perform_148 rfl rfl ?_
      refine z_iload_n CX 2 dX4_perform_149 rfl rfl ?_
      refine z_iload_n CX 3 dX4_perform_150 rfl rfl ?_
      refine z_callV1 CX dX4_perform_151 cv_X4_99 (t_fltL hR _ _) to_0 rfl rfl (Nat.le_of_ble_eq_true rfl) ⟨Nat.le_of_ble_eq_true rfl, Nat.le_of_ble_eq_true rfl⟩ ⟨Nat.le_refl _, Nat.le_refl _⟩ ?_
      refine z_if_ne CX 170 dX4_perform_154 (by decide) (fun _ => ?_) (fun q9 => absurd q9 (fun q => hc (fltL_i.mp q)))
      refine z_iconst CX (v := 0) dX4_perform_170 (by decide) ?_
      exact z_zret CX dX4_perform_171 rfl (by first | rfl | exact bI_nar _) rfl rfl (Or.inl rfl)
  by_cases h109 : u = 109
  · subst h109
    rw [pf_109]
    by_cases hc : 1 ≤ a ∧ a ≤ 60
    · have hf := fltM_i.mpr hc
      obtain ⟨i, i0, i1, i2, i3⟩ := nI_le9 (a := 1) (b := 60) (by omega) (by omega) hc
      have hle : (gms (bN f) i f).1 ≤ 600 := Nat.le_trans (gms_le i f) (Nat.mul_le_mul i1 h9)
      rw [show pfM f a = (true, (gms (bN f) i f).2) from by unfold pfM; rw [if_pos hc, i3]]
      subst i2
      refine Cn.of (d := mX4_perform) (by decide +kernel) (Nat.le_of_ble_eq_true rfl) ?_
      intro p e R s m args below meth c CX
      replace CX : Ctx p s m args meth c R w RX4 "perform" cX4_perform 6 (some .boolean) 4 96 0 0 := CX
      show ZW p l e R s m args below meth c w 6 _ _ 0 0 (MQ below (Qn w _ _ _) args s 0 0 (wA w)) 0 [(0, .ref (wB w + k)), (1, .int _), (2, .int _), (3, .int _), (4, .int _), (5, .int _)] []
      refine z_iload_n CX 1 dX4_perform_0 rfl rfl ?_
      refine z_tabIn CX 172 dX4_perform_1 (by decide) (by decide) rfl (by decide) ?_
      refine z_aload_n CX 0 dX4_perform_172 rfl rfl ?_
      refine z_iload_n CX 2 dX4_perform_173 rfl rfl ?_
      refine z_callV1 CX dX4_perform_174 cv_X4_105 (t_fltM _) to_0 rfl rfl (Nat.le_of_ble_eq_true rfl) ⟨Nat.le_of_ble_eq_true rfl, Nat.le_of_ble_eq_true rfl⟩ ⟨Nat.le_refl _, Nat.le_refl _⟩ ?_
      refine z_if_ne CX 192 dX4_perform_177 (by decide) (fun q9 => absurd q9 (fun q => q hf)) (fun _ => ?_)
      refine z_aload_n CX 0 dX4_perform_180 rfl rfl ?_
      refine z_iload_n CX 2 dX4_perform_181 rfl rfl ?_
      refine z_callV1 CX dX4_perform_182 cv_X4_109 (t_pass hR hO.2.1 (by omega)) to_0 rfl rfl (Nat.le_of_ble_eq_true rfl) ⟨Nat.le_of_ble_eq_true rfl, Nat.le_of_ble_eq_true rfl⟩ ⟨Nat.le_refl _, Nat.le_refl _⟩ ?_
      refine z_if_lt CX 192 dX4_perform_185 (by decide) (fun q9 => absurd q9 (nI_pos (by omega))) (fun _ => ?_)
      refine z_iconst CX (v := 1) dX4_perform_188 (by decide) ?_
      refine z_goto CX 193 dX4_perform_189 (by decide) ?_
      exact z_zret CX dX4_perform_193 rfl (by first | rfl | exact bI_nar _) rfl rfl (Or.inl rfl)
    · rw [show pfM f a = (false, f) from if_neg hc]
      refine Cn.of (d := mX4_perform) (by decide +kernel) (Nat.le_of_ble_eq_true rfl) ?_
      intro p e R s m args below meth c CX
      replace CX : Ctx p s m args meth c R w RX4 "perform" cX4_perform 6 (some .boolean) 4 96 0 0 := CX
      show ZW p l e R s m args below meth c w 6 _ _ 0 0 (MQ below (Qn w _ _ _) args s 0 0 (wA w)) 0 [(0, .ref (wB w + k)), (1, .int _), (2, .int _), (3, .int _), (4, .int _), (5, .int _)] []
      refine z_iload_n CX 1 dX4_perform_0 rfl rfl ?_
      refine z_tabIn CX 172 dX4_perform_1 (by decide) (by decide) rfl (by decide) ?_
      refine z_aload_n CX 0 dX4_perform_172 rfl rfl ?_
      refine z_iload_n CX 2 dX4_perform_173 rfl rfl ?_
      refine z_callV1 CX dX4_perform_174 cv_X4_105 (t_fltM _) to_0 rfl rfl (Nat.le_of_ble_eq_true rfl) ⟨Nat.le_of_ble_eq_true rfl, Nat.le_of_ble_eq_true rfl⟩ ⟨Nat.le_refl _, Nat.le_refl _⟩ ?_
      refine z_if_ne CX 192 dX4_perform_177 (by decide) (fun _ => ?_) (fun q9 => absurd q9 (fun q => hc (fltM_i.mp q)))
      refine z_iconst CX (v := 0) dX4_perform_192 (by decide) ?_
      exact z_zret CX dX4_perform_193 rfl (by first | rfl | exact bI_nar _) rfl rfl (Or.inl rfl)
  by_cases h104 : u = 104
  · subst h104
    rw [pf_104]
    by_cases hc : (0 ≤ a ∧ a ≤ 3) ∧ icl f (gN f) b y = true
    · have hf := fltH_i.mpr hc
      obtain ⟨o, o0, o1, o2, o3⟩ := nI_le9 (a := 0) (b := 3) (by omega) (by omega) hc.1
      rw [show pfH f a b y = (true, hokF f o b y) from by unfold pfH; rw [if_pos hc, o3]]
      subst o2
      refine Cn.of (d := mX4_perform) (by decide +kernel) (Nat.le_of_ble_eq_true rfl) ?_
      intro p e R s m args below meth c CX
      replace CX : Ctx p s m args meth c R w RX4 "perform" cX4_perform 6 (some .boolean) 4 96 0 0 := CX
      show ZW p l e R s m args below meth c w 6 _ _ 0 0 (MQ below (Qn w _ _ _) args s 0 0 (wA w)) 0 [(0, .ref (wB w + k)), (1, .int _), (2, .int _), (3, .int _), (4, .int _), (5, .int _)] []
      refine z_iload_n CX 1 dX4_perform_0 rfl rfl ?_
      refine z_tabIn CX 194 dX4_perform_1 (by decide) (by decide) rfl (by decide) ?_
      refine z_aload_n CX 0 dX4_perform_194 rfl rfl ?_
      refine z_iload_n CX 2 dX4_perform_195 rfl rfl ?_
      refine z_iload_n CX 3 dX4_perform_196 rfl rfl ?_
      refine z_iload CX dX4_perform_197 rfl ?_
      refine z_callV1 CX dX4_perform_199 cv_X4_112 (t_fltH hR _ _ _) to_0 rfl rfl (Nat.le_of_ble_eq_true rfl) ⟨Nat.le_of_ble_eq_true rfl, Nat.le_of_ble_eq_true rfl⟩ ⟨Nat.le_refl _, Nat.le_refl _⟩ ?_
      refine z_if_eq CX 207 dX4_perform_202 (by decide) (fun _ => ?_) (fun q9 => absurd hf q9)
      refine z_aload_n CX 0 dX4_perform_207 rfl rfl ?_
      refine z_iload_n CX 2 dX4_perform_208 rfl rfl ?_
      refine z_iload_n CX 3 dX4_perform_209 rfl rfl ?_
      refine z_iload CX dX4_perform_210 rfl ?_
      refine z_callV0 CX dX4_perform_212 cv_X4_115 (t_hook hR (by omega) _ _) to_0 rfl rfl (Nat.le_of_ble_eq_true rfl) ⟨Nat.le_of_ble_eq_true rfl, Nat.le_of_ble_eq_true rfl⟩ ⟨Nat.le_refl _, Nat.le_refl _⟩ ?_
      refine z_iconst CX (v := 1) dX4_perform_215 (by decide) ?_
      exact z_zret CX dX4_perform_216 rfl (by first | rfl | exact bI_nar _) rfl rfl (Or.inl rfl)
    · rw [show pfH f a b y = (false, f) from if_neg hc]
      refine Cn.of (d := mX4_perform) (by decide +kernel) (Nat.le_of_ble_eq_true rfl) ?_
      intro p e R s m args below meth c CX
      replace CX : Ctx p s m args meth c R w RX4 "perform" cX4_perform 6 (some .boolean) 4 96 0 0 := CX
      show ZW p l e R s m args below meth c w 6 _ _ 0 0 (MQ below (Qn w _ _ _) args s 0 0 (wA w)) 0 [(0, .ref (wB w + k)), (1, .int _), (2, .int _), (3, .int _), (4, .int _), (5, .int _)] []
      refine z_iload_n CX 1 dX4_perform_0 rfl rfl ?_
      refine z_tabIn CX 194 dX4_perform_1 (by decide) (by decide) rfl (by decide) ?_
      refine z_aload_n CX 0 dX4_perform_194 rfl rfl ?_
      refine z_iload_n CX 2 dX4_perform_195 rfl rfl ?_
      refine z_iload_n CX 3 dX4_perform_196 rfl rfl ?_
      refine z_iload CX dX4_perform_197 rfl ?_
      refine z_callV1 CX dX4_perform_199 cv_X4_112 (t_fltH hR _ _ _) to_0 rfl rfl (Nat.le_of_ble_eq_true rfl) ⟨Nat.le_of_ble_eq_true rfl, Nat.le_of_ble_eq_true rfl⟩ ⟨Nat.le_refl _, Nat.le_refl _⟩ ?_
      refine z_if_eq CX 207 dX4_perform_202 (by decide) (fun q9 => absurd q9 (fun q => hc (fltH_i.mp q))) (fun _ => ?_)
      refine z_iconst CX (v := 0) dX4_perform_205 (by decide) ?_
      exact z_zret CX dX4_perform_206 rfl (by first | rfl | exact bI_nar _) rfl rfl (Or.inl rfl)
  by_cases h115 : u = 115
  · subst h115
    rw [pf_115]
    by_cases hc : isSetP a b
    · have hf := fltS_i.mpr hc
      obtain ⟨i, i1, i2, i3⟩ := isSetP_k hc
      obtain ⟨m9, m1, m2⟩ := hR.set0 i1
      rw [show pfS f a b = (true, upd f (154 + i) b) from by unfold pfS; rw [if_pos hc, i3]]
      subst i2
      refine Cn.of (d := mX4_perform) (by decide +kernel) (Nat.le_of_ble_eq_true rfl) ?_
      intro p e R s m args below meth c CX
      replace CX : Ctx p s m args meth c R w RX4 "perform" cX4_perform 6 (some .boolean) 4 96 0 0 := CX
      show ZW p l e R s m args below meth c w 6 _ _ 0 0 (MQ below (Qn w _ _ _) args s 0 0 (wA w)) 0 [(0, .ref (wB w + k)), (1, .int _), (2, .int _), (3, .int _), (4, .int _), (5, .int _)] []
      refine z_iload_n CX 1 dX4_perform_0 rfl rfl ?_
      refine z_tabIn CX 250 dX4_perform_1 (by decide) (by decide) rfl (by decide) ?_
      refine z_aload_n CX 0 dX4_perform_250 rfl rfl ?_
      refine z_iload_n CX 2 dX4_perform_251 rfl rfl ?_
      refine z_iload_n CX 3 dX4_perform_252 rfl rfl ?_
      refine z_callV1 CX dX4_perform_253 cv_X4_127 (t_fltS _ _) to_0 rfl rfl (Nat.le_of_ble_eq_true rfl) ⟨Nat.le_of_ble_eq_true rfl, Nat.le_of_ble_eq_true rfl⟩ ⟨Nat.le_refl _, Nat.le_refl _⟩ ?_
      refine z_if_ne CX 272 dX4_perform_256 (by decide) (fun q9 => absurd q9 (fun q => q hf)) (fun _ => ?_)
      refine z_aload_n CX 0 dX4_perform_259 rfl rfl ?_
      refine z_iload_n CX 2 dX4_perform_260 rfl rfl ?_
      refine z_iload_n CX 3 dX4_perform_261 rfl rfl ?_
      refine z_callV1 CX dX4_perform_262 cv_X4_130 (t_chS hR i1 _) to_0 rfl rfl (Nat.le_of_ble_eq_true rfl) ⟨Nat.le_of_ble_eq_true rfl, Nat.le_of_ble_eq_true rfl⟩ ⟨Nat.le_refl _, Nat.le_refl _⟩ ?_
      refine z_if_lt CX 272 dX4_perform_265 (by decide) (fun q9 => absurd q9 (by rw [m2]; exact nI_pos (by omega))) (fun _ => ?_)
      refine z_iconst CX (v := 1) dX4_perform_268 (by decide) ?_
      refine z_goto CX 273 dX4_perform_269 (by decide) ?_
      exact z_zret CX dX4_perform_273 rfl (by first | rfl | exact bI_nar _) rfl rfl (Or.inl rfl)
    · rw [show pfS f a b = (false, f) from if_neg hc]
      refine Cn.of (d := mX4_perform) (by decide +kernel) (Nat.le_of_ble_eq_true rfl) ?_
      intro p e R s m args below meth c CX
      replace CX : Ctx p s m args meth c R w RX4 "perform" cX4_perform 6 (some .boolean) 4 96 0 0 := CX
      show ZW p l e R s m args below meth c w 6 _ _ 0 0 (MQ below (Qn w _ _ _) args s 0 0 (wA w)) 0 [(0, .ref (wB w + k)), (1, .int _), (2, .int _), (3, .int _), (4, .int _), (5, .int _)] []
      refine z_iload_n CX 1 dX4_perform_0 rfl rfl ?_
      refine z_tabIn CX 250 dX4_perform_1 (by decide) (by decide) rfl (by decide) ?_
      refine z_aload_n CX 0 dX4_perform_250 rfl rfl ?_
      refine z_iload_n CX 2 dX4_perform_251 rfl rfl ?_
      refine z_iload_n CX 3 dX4_perform_252 rfl rfl ?_
      refine z_callV1 CX dX4_perform_253 cv_X4_127 (t_fltS _ _) to_0 rfl rfl (Nat.le_of_ble_eq_true rfl) ⟨Nat.le_of_ble_eq_true rfl, Nat.le_of_ble_eq_true rfl⟩ ⟨Nat.le_refl _, Nat.le_refl _⟩ ?_
      refine z_if_ne CX 272 dX4_perform_256 (by decide) (fun _ => ?_) (fun q9 => absurd q9 (fun q => hc (fltS_i.mp q)))
      refine z_iconst CX (v := 0) dX4_perform_272 (by decide) ?_
      exact z_zret CX dX4_perform_273 rfl (by first | rfl | exact bI_nar _) rfl rfl (Or.inl rfl)
  by_cases h99 : u = 99
  · subst h99
    rw [pf_99]
    by_cases hc : (0 ≤ a ∧ a ≤ 3) ∧ (0 ≤ b ∧ b < nI (bN f))
    · have hf := fltC_i.mpr hc
      obtain ⟨o, o0, o1, o2, o3⟩ := nI_le9 (a := 0) (b := 3) (by omega) (by omega) hc.1
      obtain ⟨i, i1, i2, i3⟩ := nI_box (by omega) hc.2
      by_cases hw : whyF f o i = 0
      · rw [show pfC f a b = (true, clmF f o i) by unfold pfC; rw [o3, i3, if_pos ⟨hc, hw⟩]]
        obtain ⟨F9, W9, O9, S9, K9, q1, q2, q3, q4, q5, q6, b0, -⟩ := hR.2.2.2.1 i i1
        subst o2
        subst i2
        refine Cn.of (d := mX4_perform) (by decide +kernel) (Nat.le_of_ble_eq_true rfl) ?_
        intro p e R s m args below meth c CX
        replace CX : Ctx p s m args meth c R w RX4 "perform" cX4_perform 6 (some .boolean) 4 96 0 0 := CX
        show ZW p l e R s m args below meth c w 6 _ _ 0 0 (MQ below (Qn w _ _ _) args s 0 0 (wA w)) 0 [(0, .ref (wB w + k)), (1, .int _), (2, .int _), (3, .int _), (4, .int _), (5, .int _)] []
        refine z_iload_n CX 1 dX4_perform_0 rfl rfl ?_
        refine z_tabIn CX 217 dX4_perform_1 (by decide) (by decide) rfl (by decide) ?_
        refine z_aload_n CX 0 dX4_perform_217 rfl rfl ?_
        refine z_iload_n CX 2 dX4_perform_218 rfl rfl ?_
        refine z_iload_n CX 3 dX4_perform_219 rfl rfl ?_
        refine z_callV1 CX dX4_perform_220 cv_X4_118 (t_fltC _ _) to_0 rfl rfl (Nat.le_of_ble_eq_true rfl) ⟨Nat.le_of_ble_eq_true rfl, Nat.le_of_ble_eq_true rfl⟩ ⟨Nat.le_refl _, Nat.le_refl _⟩ ?_
        refine z_if_ne CX 248 dX4_perform_223 (by decide) (fun q9 => absurd q9 (fun q => q hf)) (fun _ => ?_)
        refine z_aload_n CX 0 dX4_perform_226 rfl rfl ?_
        refine z_iload_n CX 2 dX4_perform_227 rfl rfl ?_
        refine z_iload_n CX 3 dX4_perform_228 rfl rfl ?_
        refine z_callV1 CX dX4_perform_229 cv_X4_121 (t_why hR (by omega) i1) to_0 rfl rfl (Nat.le_of_ble_eq_true rfl) ⟨Nat.le_of_ble_eq_true rfl, Nat.le_of_ble_eq_true rfl⟩ ⟨Nat.le_refl _, Nat.le_refl _⟩ ?_
        refine z_if_ne CX 248 dX4_perform_232 (by decide) (fun q9 => absurd q9 (fun q => q hw)) (fun _ => ?_)
        refine z_aload_n CX 0 dX4_perform_235 rfl rfl ?_
        refine z_iload_n CX 2 dX4_perform_236 rfl rfl ?_
        refine z_iload_n CX 3 dX4_perform_237 rfl rfl ?_
        refine z_callV1 CX dX4_perform_238 cv_X4_124 (t_tkW hR (by omega) i1 hw) to_0 rfl rfl (Nat.le_of_ble_eq_true rfl) ⟨Nat.le_of_ble_eq_true rfl, Nat.le_of_ble_eq_true rfl⟩ ⟨Nat.le_refl _, Nat.le_refl _⟩ ?_
        refine z_if_lt CX 248 dX4_perform_241 (by decide) (fun q9 => absurd q9 (by rw [b0]; exact nI_pos (by omega))) (fun _ => ?_)
        refine z_iconst CX (v := 1) dX4_perform_244 (by decide) ?_
        refine z_goto CX 249 dX4_perform_245 (by decide) ?_
        exact z_zret CX dX4_perform_249 rfl (by first | rfl | exact bI_nar _) rfl rfl (Or.inl rfl)
      · rw [show pfC f a b = (false, f) by unfold pfC; rw [o3, i3, if_neg (fun q => hw q.2)]]
        subst o2
        subst i2
        refine Cn.of (d := mX4_perform) (by decide +kernel) (Nat.le_of_ble_eq_true rfl) ?_
        intro p e R s m args below meth c CX
        replace CX : Ctx p s m args meth c R w RX4 "perform" cX4_perform 6 (some .boolean) 4 96 0 0 := CX
        show ZW p l e R s m args below meth c w 6 _ _ 0 0 (MQ below (Qn w _ _ _) args s 0 0 (wA w)) 0 [(0, .ref (wB w + k)), (1, .int _), (2, .int _), (3, .int _), (4, .int _), (5, .int _)] []
        refine z_iload_n CX 1 dX4_perform_0 rfl rfl ?_
        refine z_tabIn CX 217 dX4_perform_1 (by decide) (by decide) rfl (by decide) ?_
        refine z_aload_n CX 0 dX4_perform_217 rfl rfl ?_
        refine z_iload_n CX 2 dX4_perform_218 rfl rfl ?_
        refine z_iload_n CX 3 dX4_perform_219 rfl rfl ?_
        refine z_callV1 CX dX4_perform_220 cv_X4_118 (t_fltC _ _) to_0 rfl rfl (Nat.le_of_ble_eq_true rfl) ⟨Nat.le_of_ble_eq_true rfl, Nat.le_of_ble_eq_true rfl⟩ ⟨Nat.le_refl _, Nat.le_refl _⟩ ?_
        refine z_if_ne CX 248 dX4_perform_223 (by decide) (fun q9 => absurd q9 (fun q => q hf)) (fun _ => ?_)
        refine z_aload_n CX 0 dX4_perform_226 rfl rfl ?_
        refine z_iload_n CX 2 dX4_perform_227 rfl rfl ?_
        refine z_iload_n CX 3 dX4_perform_228 rfl rfl ?_
        refine z_callV1 CX dX4_perform_229 cv_X4_121 (t_why hR (by omega) i1) to_0 rfl rfl (Nat.le_of_ble_eq_true rfl) ⟨Nat.le_of_ble_eq_true rfl, Nat.le_of_ble_eq_true rfl⟩ ⟨Nat.le_refl _, Nat.le_refl _⟩ ?_
        refine z_if_ne CX 248 dX4_perform_232 (by decide) (fun _ => ?_) (fun q9 => absurd q9 hw)
        refine z_iconst CX (v := 0) dX4_perform_248 (by decide) ?_
        exact z_zret CX dX4_perform_249 rfl (by first | rfl | exact bI_nar _) rfl rfl (Or.inl rfl)
    · rw [show pfC f a b = (false, f) by unfold pfC; rw [if_neg (fun q => hc q.1)]]
      refine Cn.of (d := mX4_perform) (by decide +kernel) (Nat.le_of_ble_eq_true rfl) ?_
      intro p e R s m args below meth c CX
      replace CX : Ctx p s m args meth c R w RX4 "perform" cX4_perform 6 (some .boolean) 4 96 0 0 := CX
      show ZW p l e R s m args below meth c w 6 _ _ 0 0 (MQ below (Qn w _ _ _) args s 0 0 (wA w)) 0 [(0, .ref (wB w + k)), (1, .int _), (2, .int _), (3, .int _), (4, .int _), (5, .int _)] []
      refine z_iload_n CX 1 dX4_perform_0 rfl rfl ?_
      refine z_tabIn CX 217 dX4_perform_1 (by decide) (by decide) rfl (by decide) ?_
      refine z_aload_n CX 0 dX4_perform_217 rfl rfl ?_
      refine z_iload_n CX 2 dX4_perform_218 rfl rfl ?_
      refine z_iload_n CX 3 dX4_perform_219 rfl rfl ?_
      refine z_callV1 CX dX4_perform_220 cv_X4_118 (t_fltC _ _) to_0 rfl rfl (Nat.le_of_ble_eq_true rfl) ⟨Nat.le_of_ble_eq_true rfl, Nat.le_of_ble_eq_true rfl⟩ ⟨Nat.le_refl _, Nat.le_refl _⟩ ?_
      refine z_if_ne CX 248 dX4_perform_223 (by decide) (fun _ => ?_) (fun q9 => absurd q9 (fun q => hc (fltC_i.mp q)))
      refine z_iconst CX (v := 0) dX4_perform_248 (by decide) ?_
      exact z_zret CX dX4_perform_249 rfl (by first | rfl | exact bI_nar _) rfl rfl (Or.inl rfl)
  rw [show pf f u a b y v = (false, f) by unfold pf; rw [if_neg h103, if_neg h98, if_neg h108, if_neg h109, if_neg h104, if_neg h99, if_neg h115]]
  by_cases hz : 98 ≤ u ∧ u ≤ 115
  · obtain ⟨i, i0, i1, i2, i3⟩ := nI_le9 (a := 98) (b := 115) (by omega) (by omega) hz
    obtain ⟨q, rfl⟩ : ∃ q, i = 98 + q := ⟨i - 98, by omega⟩
    subst i2
    match q, i1 with
    | 0, _ =>
      exact absurd rfl h98
    | 1, _ =>
      exact absurd rfl h99
    | 2, _ =>
      refine Cn.of (d := mX4_perform) (by decide +kernel) (Nat.le_of_ble_eq_true rfl) ?_
      intro p e R s m args below meth c CX
      replace CX : Ctx p s m args meth c R w RX4 "perform" cX4_perform 6 (some .boolean) 4 96 0 0 := CX
      show ZW p l e R s m args below meth c w 6 _ _ 0 0 (MQ below (Qn w _ _ _) args s 0 0 (wA w)) 0 [(0, .ref (wB w + k)), (1, .int _), (2, .int _), (3, .int _), (4, .int _), (5, .int _)] []
      refine z_iload_n CX 1 dX4_perform_0 rfl rfl ?_
      refine z_tabIn CX 274 dX4_perform_1 (by decide) (by decide) rfl (by decide) ?_
      refine z_iconst CX (v := 0) dX4_perform_274 (by decide) ?_
      exact z_zret CX dX4_perform_275 rfl (by first | rfl | exact bI_nar _) rfl rfl (Or.inl rfl)
    | 3, _ =>
      refine Cn.of (d := mX4_perform) (by decide +kernel) (Nat.le_of_ble_eq_true rfl) ?_
      intro p e R s m args below meth c CX
      replace CX : Ctx p s m args meth c R w RX4 "perform" cX4_perform 6 (some .boolean) 4 96 0 0 := CX
      show ZW p l e R s m args below meth c w 6 _ _ 0 0 (MQ below (Qn w _ _ _) args s 0 0 (wA w)) 0 [(0, .ref (wB w + k)), (1, .int _), (2, .int _), (3, .int _), (4, .int _), (5, .int _)] []
      refine z_iload_n CX 1 dX4_perform_0 rfl rfl ?_
      refine z_tabIn CX 274 dX4_perform_1 (by decide) (by decide) rfl (by decide) ?_
      refine z_iconst CX (v := 0) dX4_perform_274 (by decide) ?_
      exact z_zret CX dX4_perform_275 rfl (by first | rfl | exact bI_nar _) rfl rfl (Or.inl rfl)
    | 4, _ =>
      refine Cn.of (d := mX4_perform) (by decide +kernel) (Nat.le_of_ble_eq_true rfl) ?_
      intro p e R s m args below meth c CX
      replace CX : Ctx p s m args meth c R w RX4 "perform" cX4_perform 6 (some .boolean) 4 96 0 0 := CX
      show ZW p l e R s m args below meth c w 6 _ _ 0 0 (MQ below (Qn w _ _ _) args s 0 0 (wA w)) 0 [(0, .ref (wB w + k)), (1, .int _), (2, .int _), (3, .int _), (4, .int _), (5, .int _)] []
      refine z_iload_n CX 1 dX4_perform_0 rfl rfl ?_
      refine z_tabIn CX 274 dX4_perform_1 (by decide) (by decide) rfl (by decide) ?_
      refine z_iconst CX (v := 0) dX4_perform_274 (by decide) ?_
      exact z_zret CX dX4_perform_275 rfl (by first | rfl | exact bI_nar _) rfl rfl (Or.inl rfl)
    | 5, _ =>
      exact absurd rfl h103
    | 6, _ =>
      exact absurd rfl h104
    | 7, _ =>
      refine Cn.of (d := mX4_perform) (by decide +kernel) (Nat.le_of_ble_eq_true rfl) ?_
      intro p e R s m args below meth c CX
      replace CX : Ctx p s m args meth c R w RX4 "perform" cX4_perform 6 (some .boolean) 4 96 0 0 := CX
      show ZW p l e R s m args below meth c w 6 _ _ 0 0 (MQ below (Qn w _ _ _) args s 0 0 (wA w)) 0 [(0, .ref (wB w + k)), (1, .int _), (2, .int _), (3, .int _), (4, .int _), (5, .int _)] []
      refine z_iload_n CX 1 dX4_perform_0 rfl rfl ?_
      refine z_tabIn CX 274 dX4_perform_1 (by decide) (by decide) rfl (by decide) ?_
      refine z_iconst CX (v := 0) dX4_perform_274 (by decide) ?_
      exact z_zret CX dX4_perform_275 rfl (by first | rfl | exact bI_nar _) rfl rfl (Or.inl rfl)
    | 8, _ =>
      refine Cn.of (d := mX4_perform) (by decide +kernel) (Nat.le_of_ble_eq_true rfl) ?_
      intro p e R s m args below meth c CX
      replace CX : Ctx p s m args meth c R w RX4 "perform" cX4_perform 6 (some .boolean) 4 96 0 0 := CX
      show ZW p l e R s m args below meth c w 6 _ _ 0 0 (MQ below (Qn w _ _ _) args s 0 0 (wA w)) 0 [(0, .ref (wB w + k)), (1, .int _), (2, .int _), (3, .int _), (4, .int _), (5, .int _)] []
      refine z_iload_n CX 1 dX4_perform_0 rfl rfl ?_
      refine z_tabIn CX 274 dX4_perform_1 (by decide) (by decide) rfl (by decide) ?_
      refine z_iconst CX (v := 0) dX4_perform_274 (by decide) ?_
      exact z_zret CX dX4_perform_275 rfl (by first | rfl | exact bI_nar _) rfl rfl (Or.inl rfl)
    | 9, _ =>
      refine Cn.of (d := mX4_perform) (by decide +kernel) (Nat.le_of_ble_eq_true rfl) ?_
      intro p e R s m args below meth c CX
      replace CX : Ctx p s m args meth c R w RX4 "perform" cX4_perform 6 (some .boolean) 4 96 0 0 := CX
      show ZW p l e R s m args below meth c w 6 _ _ 0 0 (MQ below (Qn w _ _ _) args s 0 0 (wA w)) 0 [(0, .ref (wB w + k)), (1, .int _), (2, .int _), (3, .int _), (4, .int _), (5, .int _)] []
      refine z_iload_n CX 1 dX4_perform_0 rfl rfl ?_
      refine z_tabIn CX 274 dX4_perform_1 (by decide) (by decide) rfl (by decide) ?_
      refine z_iconst CX (v := 0) dX4_perform_274 (by decide) ?_
      exact z_zret CX dX4_perform_275 rfl (by first | rfl | exact bI_nar _) rfl rfl (Or.inl rfl)
    | 10, _ =>
      exact absurd rfl h108
    | 11, _ =>
      exact absurd rfl h109
    | 12, _ =>
      refine Cn.of (d := mX4_perform) (by decide +kernel) (Nat.le_of_ble_eq_true rfl) ?_
      intro p e R s m args below meth c CX
      replace CX : Ctx p s m args meth c R w RX4 "perform" cX4_perform 6 (some .boolean) 4 96 0 0 := CX
      show ZW p l e R s m args below meth c w 6 _ _ 0 0 (MQ below (Qn w _ _ _) args s 0 0 (wA w)) 0 [(0, .ref (wB w + k)), (1, .int _), (2, .int _), (3, .int _), (4, .int _), (5, .int _)] []
      refine z_iload_n CX 1 dX4_perform_0 rfl rfl ?_
      refine z_tabIn CX 274 dX4_perform_1 (by decide) (by decide) rfl (by decide) ?_
      refine z_iconst CX (v := 0) dX4_perform_274 (by decide) ?_
      exact z_zret CX dX4_perform_275 rfl (by first | rfl | exact bI_nar _) rfl rfl (Or.inl rfl)
    | 13, _ =>
      refine Cn.of (d := mX4_perform) (by decide +kernel) (Nat.le_of_ble_eq_true rfl) ?_
      intro p e R s m args below meth c CX
      replace CX : Ctx p s m args meth c R w RX4 "perform" cX4_perform 6 (some .boolean) 4 96 0 0 := CX
      show ZW p l e R s m args below meth c w 6 _ _ 0 0 (MQ below (Qn w _ _ _) args s 0 0 (wA w)) 0 [(0, .ref (wB w + k)), (1, .int _), (2, .int _), (3, .int _), (4, .int _), (5, .int _)] []
      refine z_iload_n CX 1 dX4_perform_0 rfl rfl ?_
      refine z_tabIn CX 274 dX4_perform_1 (by decide) (by decide) rfl (by decide) ?_
      refine z_iconst CX (v := 0) dX4_perform_274 (by decide) ?_
      exact z_zret CX dX4_perform_275 rfl (by first | rfl | exact bI_nar _) rfl rfl (Or.inl rfl)
    | 14, _ =>
      refine Cn.of (d := mX4_perform) (by decide +kernel) (Nat.le_of_ble_eq_true rfl) ?_
      intro p e R s m args below meth c CX
      replace CX : Ctx p s m args meth c R w RX4 "perform" cX4_perform 6 (some .boolean) 4 96 0 0 := CX
      show ZW p l e R s m args below meth c w 6 _ _ 0 0 (MQ below (Qn w _ _ _) args s 0 0 (wA w)) 0 [(0, .ref (wB w + k)), (1, .int _), (2, .int _), (3, .int _), (4, .int _), (5, .int _)] []
      refine z_iload_n CX 1 dX4_perform_0 rfl rfl ?_
      refine z_tabIn CX 274 dX4_perform_1 (by decide) (by decide) rfl (by decide) ?_
      refine z_iconst CX (v := 0) dX4_perform_274 (by decide) ?_
      exact z_zret CX dX4_perform_275 rfl (by first | rfl | exact bI_nar _) rfl rfl (Or.inl rfl)
    | 15, _ =>
      refine Cn.of (d := mX4_perform) (by decide +kernel) (Nat.le_of_ble_eq_true rfl) ?_
      intro p e R s m args below meth c CX
      replace CX : Ctx p s m args meth c R w RX4 "perform" cX4_perform 6 (some .boolean) 4 96 0 0 := CX
      show ZW p l e R s m args below meth c w 6 _ _ 0 0 (MQ below (Qn w _ _ _) args s 0 0 (wA w)) 0 [(0, .ref (wB w + k)), (1, .int _), (2, .int _), (3, .int _), (4, .int _), (5, .int _)] []
      refine z_iload_n CX 1 dX4_perform_0 rfl rfl ?_
      refine z_tabIn CX 274 dX4_perform_1 (by decide) (by decide) rfl (by decide) ?_
      refine z_iconst CX (v := 0) dX4_perform_274 (by decide) ?_
      exact z_zret CX dX4_perform_275 rfl (by first | rfl | exact bI_nar _) rfl rfl (Or.inl rfl)
    | 16, _ =>
      refine Cn.of (d := mX4_perform) (by decide +kernel) (Nat.le_of_ble_eq_true rfl) ?_
      intro p e R s m args below meth c CX
      replace CX : Ctx p s m args meth c R w RX4 "perform" cX4_perform 6 (some .boolean) 4 96 0 0 := CX
      show ZW p l e R s m args below meth c w 6 _ _ 0 0 (MQ below (Qn w _ _ _) args s 0 0 (wA w)) 0 [(0, .ref (wB w + k)), (1, .int _), (2, .int _), (3, .int _), (4, .int _), (5, .int _)] []
      refine z_iload_n CX 1 dX4_perform_0 rfl rfl ?_
      refine z_tabIn CX 274 dX4_perform_1 (by decide) (by decide) rfl (by decide) ?_
      refine z_iconst CX (v := 0) dX4_perform_274 (by decide) ?_
      exact z_zret CX dX4_perform_275 rfl (by first | rfl | exact bI_nar _) rfl rfl (Or.inl rfl)
    | 17, _ =>
      exact absurd rfl h115
    | q + 18, h => omega
  · have hz2 : u.toInt < 98 ∨ 115 < u.toInt := by
      rcases Int.lt_or_le u.toInt 98 with q | q
      · exact Or.inl q
      · rcases Int.lt_or_le 115 u.toInt with q2 | q2
        · exact Or.inr q2
        · exact absurd ⟨(le_i 98 u).mpr q, (le_i u 115).mpr q2⟩ hz
    refine Cn.of (d := mX4_perform) (by decide +kernel) (Nat.le_of_ble_eq_true rfl) ?_
    intro p e R s m args below meth c CX
    replace CX : Ctx p s m args meth c R w RX4 "perform" cX4_perform 6 (some .boolean) 4 96 0 0 := CX
    show ZW p l e R s m args below meth c w 6 _ _ 0 0 (MQ below (Qn w _ _ _) args s 0 0 (wA w)) 0 [(0, .ref (wB w + k)), (1, .int _), (2, .int _), (3, .int _), (4, .int _), (5, .int _)] []
    refine z_iload_n CX 1 dX4_perform_0 rfl rfl ?_
    refine z_tabOut CX 274 dX4_perform_1 hz2 (by decide) ?_
    refine z_iconst CX (v := 0) dX4_perform_274 (by decide) ?_
    exact z_zret CX dX4_perform_275 rfl (by first | rfl | exact bI_nar _) rfl rfl (Or.inl rfl)
