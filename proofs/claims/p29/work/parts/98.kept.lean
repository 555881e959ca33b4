/-! boats are where they can be; ways go on by 1; points, boats and cells add up -/
theorem lcE {a b : Nat} (ha : a < 2 ^ 31) (hb : b < 2 ^ 31) : lg_cmp (lN a) (lN b) = 0 ↔ a = b := by rw [lg_cmp_eq]; exact lN_eq ha hb
theorem lcGe {a b : Nat} (ha : a < 2 ^ 31) (hb : b < 2 ^ 31) : 0 ≤ lg_cmp (lN a) (lN b) ↔ b ≤ a := by rw [lg_cmp_ge]; exact lN_le hb ha
theorem lcGt {a b : Nat} (ha : a < 2 ^ 31) (hb : b < 2 ^ 31) : 0 < lg_cmp (lN a) (lN b) ↔ b < a := by rw [lg_cmp_gt]; exact lN_lt hb ha
theorem lcLt {a b : Nat} (ha : a < 2 ^ 31) (hb : b < 2 ^ 31) : lg_cmp (lN a) (lN b) < 0 ↔ a < b := by rw [lg_cmp_lt]; exact lN_lt ha hb
theorem lcN {a : Nat} (ha : a < 2 ^ 31) : lg_cmp (lN a) (-1) ≠ 0 := by
  rw [Ne, lg_cmp_eq, ← Int64.toInt_inj, lN_toInt ha, show (-1 : Int64).toInt = -1 by decide]
  omega
theorem inL {v a b : Nat} (h1 : a ≤ v) (h2 : v ≤ b) (hb : b < 2 ^ 31) : ¬ bI (decide (lN a ≤ lN v ∧ lN v ≤ lN b)) = 0 := by
  rw [bI_1 ⟨(lN_le (by omega) (by omega)).mpr h1, (lN_le (by omega) hb).mpr h2⟩]; decide
theorem inM {v a b : Nat} (h1 : a ≤ v) (h2 : v + 1 ≤ b) (hb : b < 2 ^ 31) : ¬ bI (decide (lN a ≤ lN v ∧ lN v ≤ lN b - 1)) = 0 := by
  rw [show (1 : Int64) = lN 1 from rfl, lN_sub (by omega)]
  exact inL h1 (by omega) (by omega)
theorem nI_3 (a : Nat) : nI a + 3 = nI (a + 3) := nI_add a 3
theorem l2m {x : Int32} (h : x = -1) : x.toInt64 = -1 := by rw [h]; decide
theorem l2l {x : Int32} {n : Nat} (h : x = nI n) (hn : n < 2 ^ 31) : x.toInt64 = lN n := by rw [h]; exact nI_l hn
theorem lN_32 {n : Nat} : (lN n).toInt32 = nI n := lN_i n
theorem m1_32 : (-1 : Int64).toInt32 = -1 := by decide
section
variable {l : Launch} {w : Wt} {hs : Hs} {n : Option Nat}
set_option maxHeartbeats 4000000 in
set_option maxRecDepth 100000 in
theorem c_in9 (x a b : Int64) : Cn l w mL_in 0 0 [.long x, .long a, .long b] hs n hs n (some (.int (bI (decide (a ≤ x ∧ x ≤ b))))) := by
  refine Cn.of (d := mL_in) (by decide +kernel) (Nat.le_of_ble_eq_true rfl) ?_
  intro p e R s m args below meth c CX
  replace CX : Ctx p s m args meth c R w RL "in" cL_in 6 (some .boolean) 0 0 0 0 := CX
  show ZW p l e R s m args below meth c w 6 _ _ 0 0 (MQ below (Qn w _ _ _) args s 0 0 (wA w)) 0 [(0, .long _), (2, .long _), (4, .long _)] []
  refine z_lload_n CX 0 dL_in_0 rfl rfl ?_
  refine z_lload_n CX 2 dL_in_1 rfl rfl ?_
  refine z_lcmp CX dL_in_2 ?_
  refine z_if_lt CX 17 dL_in_3 (by decide) (fun c_3 => ?_) (fun c_3 => ?_)
  · skip
    refine z_iconst CX (v := 0) dL_in_17 (by decide) ?_
    exact z_zret CX dL_in_18 rfl rfl (congrArg Value.int (by rw [decide_eq_false (fun h => absurd ((lg_cmp_lt x a).mp c_3) (Int64.not_lt.mpr h.1))]; rfl)) rfl (Or.inl rfl)
  · skip
    refine z_lload_n CX 0 dL_in_6 rfl rfl ?_
    refine z_lload CX dL_in_7 rfl ?_
    refine z_lcmp CX dL_in_9 ?_
    refine z_if_gt CX 17 dL_in_10 (by decide) (fun c_10 => ?_) (fun c_10 => ?_)
    · skip
      refine z_iconst CX (v := 0) dL_in_17 (by decide) ?_
      exact z_zret CX dL_in_18 rfl rfl (congrArg Value.int (by rw [decide_eq_false (fun h => absurd ((lg_cmp_gt x b).mp c_10) (Int64.not_lt.mpr h.2))]; rfl)) rfl (Or.inl rfl)
    · skip
      refine z_iconst CX (v := 1) dL_in_13 (by decide) ?_
      refine z_goto CX 18 dL_in_14 (by decide) ?_
      exact z_zret CX dL_in_18 rfl rfl (congrArg Value.int (by rw [decide_eq_true ⟨Int64.not_lt.mp (fun h => c_3 ((lg_cmp_lt x a).mpr h)), Int64.not_lt.mp (fun h => c_10 ((lg_cmp_gt x b).mpr h))⟩]; rfl)) rfl (Or.inl rfl)
end
section
variable {l : Launch} {w : Wt} {hs0 : Hs} {k M : Nat} {σ : ZS} {H : Hs}
theorem smN_mono {v : Nat → Nat} : ∀ (n i : Nat), i < n → smN v i + v i ≤ smN v n
  | 0, i, h => absurd h (Nat.not_lt_zero i)
  | n + 1, i, h => by
    show _ ≤ smN v n + v n
    by_cases e : i = n
    · subst e; omega
    · have := smN_mono (v := v) n i (by omega); omega
set_option maxHeartbeats 4000000 in
set_option maxRecDepth 100000 in
theorem c_kept (hI : IS w hs0 k σ H) (hσ : OKs M σ) (hM : M ≤ 20000) : Cp l w mL_kept 0 0 [.ref (wB w + k)] H (fun h v => h = H ∧ v = .int 1) := by
  refine Cp.of (d := mL_kept) (by decide +kernel) (Nat.le_of_ble_eq_true rfl) ?_
  intro p e R s m args below meth c CX hN
  replace CX : Ctx p s m args meth c R w RL "kept" cL_kept 18 (some .boolean) 9 160 0 0 := CX
  show ZW p l e R s m args below meth c w 18 H none 0 0 (MQ below (QP w (fun h v => h = H ∧ v = .int 1)) args s 0 0 (wA w)) 0 [(0, .ref (wB w + k))] []
  have hR : RI (zsF σ) (gN (zsF σ)) (bN (zsF σ)) := hσ.2.1.1.1
  have hU : UD (zsF σ) (bN (zsF σ)) := hσ.2.1.1.2.1
  have hGG := hR.1
  have e146 : zsF σ 146 = nI (gN (zsF σ)) := hR.1.1
  have e147 : zsF σ 147 = nI (bN (zsF σ)) := hR.2.1
  have h6 : gN (zsF σ) ≤ 6 := hR.1.2.1
  have h9 : bN (zsF σ) ≤ 10 := hσ.2.1.1.2.2
  obtain ⟨m9, k9, dr, wn, pt, ⟨a1, a2⟩, ⟨b1, b2⟩, c1, d1, e1, e2, e3⟩ := hσ.2.1.2
  have hdr : smN dr (bN (zsF σ)) ≤ bN (zsF σ) * (8 * m9) := smN_le _ (fun j hj => (c1 j hj).2.1)
  have hdr2 : bN (zsF σ) * (8 * m9) ≤ 10 * (8 * m9) := Nat.mul_le_mul_right _ h9
  have hw9 : smN wn (bN (zsF σ)) ≤ k9 := by omega
  have qa0 := q_about (l := l) (i := 0) hI hσ (by omega)
  rw [l2l (show abV (zsF σ) 0 = nI (gN (zsF σ)) from e146) (by omega)] at qa0
  have qa1 := q_about (l := l) (i := 1) hI hσ (by omega)
  rw [l2l (show abV (zsF σ) 1 = nI (bN (zsF σ)) from e147) (by omega)] at qa1
  have cle : ∀ x : Int32, cntS (zsF σ) (bN (zsF σ)) x ≤ bN (zsF σ) := fun x => cntN_le _ _
  have cc1 := cle 1
  have cc2 := cle 2
  have cc3 := cle 3
  have cc0 := cle 0
  have cc4 := cle 4
  have hfive := five (f := zsF σ) (bN (zsF σ)) (fun b9 hb9 => (by
    obtain ⟨F9, W9, O9, S9, K9, -, -, -, -, q5, -, -, -, -, q9, -⟩ := hR.2.2.2.1 b9 hb9
    exact ⟨S9, q5, q9⟩))
  have hf5 : cntS (zsF σ) (bN (zsF σ)) 0 + cntS (zsF σ) (bN (zsF σ)) 1 + cntS (zsF σ) (bN (zsF σ)) 2 + cntS (zsF σ) (bN (zsF σ)) 3 + cntS (zsF σ) (bN (zsF σ)) 4 = bN (zsF σ) := hfive
  have hmine : smN (fun o9 => bofF (zsF σ) (bN (zsF σ)) (nI o9)) 4 = bN (zsF σ) := mine4 _ hR.own
  have qa2 := q_about (l := l) (i := 2) hI hσ (by omega)
  rw [l2l (show abV (zsF σ) 2 = nI (cntS (zsF σ) (bN (zsF σ)) 0) from rfl) (by omega)] at qa2
  have qa3 := q_about (l := l) (i := 3) hI hσ (by omega)
  rw [l2l (show abV (zsF σ) 3 = nI (cntS (zsF σ) (bN (zsF σ)) 1) from rfl) (by omega)] at qa3
  have qa4 := q_about (l := l) (i := 4) hI hσ (by omega)
  rw [l2l (show abV (zsF σ) 4 = nI (cntS (zsF σ) (bN (zsF σ)) 2) from rfl) (by omega)] at qa4
  have qa5 := q_about (l := l) (i := 5) hI hσ (by omega)
  rw [l2l (show abV (zsF σ) 5 = nI (cntS (zsF σ) (bN (zsF σ)) 3) from rfl) (by omega)] at qa5
  have qa6 := q_about (l := l) (i := 6) hI hσ (by omega)
  rw [l2l (show abV (zsF σ) 6 = nI (cntS (zsF σ) (bN (zsF σ)) 4) from rfl) (by omega)] at qa6
  have qa8 := q_about (l := l) (i := 8) hI hσ (by omega)
  rw [l2l (show abV (zsF σ) 8 = nI k9 from b1) (by omega)] at qa8
  have qa10 := q_about (l := l) (i := 10) hI hσ (by omega)
  rw [l2l (show abV (zsF σ) 10 = nI (smN wn (bN (zsF σ))) from (hR.2.2.2.2.2.2.2 : zsF σ 151 = _).trans (bxs_n _ (fun j hj => (c1 j hj).2.2))) (by omega)] at qa10
  have qa12 := q_about (l := l) (i := 12) hI hσ (by omega)
  rw [l2l (show abV (zsF σ) 12 = nI (smN pt 4) from bxs_n 4 (fun j hj => d1 j hj)) (by omega)] at qa12
  have qa13 := q_about (l := l) (i := 13) hI hσ (by omega)
  rw [l2l (show abV (zsF σ) 13 = nI (smN dr (bN (zsF σ))) from bxs_n _ (fun j hj => (c1 j hj).1)) (by omega)] at qa13
  have K638 : ZW p l e R s m args below meth c w 18 H none 0 0 (MQ below (QP w (fun h v => h = H ∧ v = .int 1)) args s 0 0 (wA w)) 638 [(0, .ref (wB w + k)), (1, .int 1), (2, .long (lN (smN dr (bN (zsF σ))))), (4, .long (lN (smN wn (bN (zsF σ))))), (6, .int (nI (cntS (zsF σ) (bN (zsF σ)) 1))), (7, .int (nI (cntS (zsF σ) (bN (zsF σ)) 2))), (8, .int (nI (cntS (zsF σ) (bN (zsF σ)) 3))), (9, .long (lN (smN (fun o9 => bofF (zsF σ) (bN (zsF σ)) (nI o9)) 4))), (11, .long (lN (smN pt 4))), (13, .int (nI 4))] [] := by
    rcases hU with ⟨u1, u2⟩ | ⟨u1, u2, u3⟩
    · skip
      have qa9 := q_about (l := l) (i := 9) hI hσ (by omega)
      rw [l2l (show abV (zsF σ) 9 = nI 1 from u1) (by omega)] at qa9
      refine z_iload_n CX 1 dL_kept_638 rfl rfl ?_
      refine z_if_eq CX 820 dL_kept_639 (by decide) (fun q9 => absurd q9 (by decide)) (fun _ => ?_)
      refine z_aload_n CX 0 dL_kept_642 rfl rfl ?_
      refine z_bipush CX (v := 13) dL_kept_643 (by decide) ?_
      refine z_callSw CX hN dL_kept_645 csw_103 qa13 rfl rfl (Nat.le_of_ble_eq_true rfl) ⟨Nat.le_of_ble_eq_true rfl, Nat.le_of_ble_eq_true rfl⟩ ⟨Nat.le_of_ble_eq_true rfl, Nat.le_of_ble_eq_true rfl⟩ ?_
      refine z_lload_n CX 2 dL_kept_648 rfl rfl ?_
      refine z_lcmp CX dL_kept_649 ?_
      refine z_if_ne CX 820 dL_kept_650 (by decide) (fun q9 => absurd q9 (fun z9 => z9 ((lcE (by omega) (by omega)).mpr rfl))) (fun _ => ?_)
      refine z_aload_n CX 0 dL_kept_653 rfl rfl ?_
      refine z_bipush CX (v := 10) dL_kept_654 (by decide) ?_
      refine z_callSw CX hN dL_kept_656 csw_103 qa10 rfl rfl (Nat.le_of_ble_eq_true rfl) ⟨Nat.le_of_ble_eq_true rfl, Nat.le_of_ble_eq_true rfl⟩ ⟨Nat.le_of_ble_eq_true rfl, Nat.le_of_ble_eq_true rfl⟩ ?_
      refine z_lload CX dL_kept_659 rfl ?_
      refine z_lcmp CX dL_kept_661 ?_
      refine z_if_ne CX 820 dL_kept_662 (by decide) (fun q9 => absurd q9 (fun z9 => z9 ((lcE (by omega) (by omega)).mpr rfl))) (fun _ => ?_)
      refine z_lload CX dL_kept_665 rfl ?_
      refine z_aload_n CX 0 dL_kept_667 rfl rfl ?_
      refine z_bipush CX (v := 8) dL_kept_668 (by decide) ?_
      refine z_callSw CX hN dL_kept_670 csw_103 qa8 rfl rfl (Nat.le_of_ble_eq_true rfl) ⟨Nat.le_of_ble_eq_true rfl, Nat.le_of_ble_eq_true rfl⟩ ⟨Nat.le_of_ble_eq_true rfl, Nat.le_of_ble_eq_true rfl⟩ ?_
      refine z_lcmp CX dL_kept_673 ?_
      refine z_if_gt CX 820 dL_kept_674 (by decide) (fun q9 => absurd q9 (fun z9 => absurd ((lcGt (by omega) (by omega)).mp z9) (by omega))) (fun _ => ?_)
      refine z_aload_n CX 0 dL_kept_677 rfl rfl ?_
      refine z_iconst CX (v := 3) dL_kept_678 (by decide) ?_
      refine z_callSw CX hN dL_kept_679 csw_103 qa3 rfl rfl (Nat.le_of_ble_eq_true rfl) ⟨Nat.le_of_ble_eq_true rfl, Nat.le_of_ble_eq_true rfl⟩ ⟨Nat.le_of_ble_eq_true rfl, Nat.le_of_ble_eq_true rfl⟩ ?_
      refine z_iload CX dL_kept_682 rfl ?_
      refine z_i2l CX dL_kept_684 (nI_l (by omega)) ?_
      refine z_lcmp CX dL_kept_685 ?_
      refine z_if_ne CX 820 dL_kept_686 (by decide) (fun q9 => absurd q9 (fun z9 => z9 ((lcE (by omega) (by omega)).mpr rfl))) (fun _ => ?_)
      refine z_aload_n CX 0 dL_kept_689 rfl rfl ?_
      refine z_iconst CX (v := 4) dL_kept_690 (by decide) ?_
      refine z_callSw CX hN dL_kept_691 csw_103 qa4 rfl rfl (Nat.le_of_ble_eq_true rfl) ⟨Nat.le_of_ble_eq_true rfl, Nat.le_of_ble_eq_true rfl⟩ ⟨Nat.le_of_ble_eq_true rfl, Nat.le_of_ble_eq_true rfl⟩ ?_
      refine z_iload CX dL_kept_694 rfl ?_
      refine z_i2l CX dL_kept_696 (nI_l (by omega)) ?_
      refine z_lcmp CX dL_kept_697 ?_
      refine z_if_ne CX 820 dL_kept_698 (by decide) (fun q9 => absurd q9 (fun z9 => z9 ((lcE (by omega) (by omega)).mpr rfl))) (fun _ => ?_)
      refine z_aload_n CX 0 dL_kept_701 rfl rfl ?_
      refine z_iconst CX (v := 5) dL_kept_702 (by decide) ?_
      refine z_callSw CX hN dL_kept_703 csw_103 qa5 rfl rfl (Nat.le_of_ble_eq_true rfl) ⟨Nat.le_of_ble_eq_true rfl, Nat.le_of_ble_eq_true rfl⟩ ⟨Nat.le_of_ble_eq_true rfl, Nat.le_of_ble_eq_true rfl⟩ ?_
      refine z_iload CX dL_kept_706 rfl ?_
      refine z_i2l CX dL_kept_708 (nI_l (by omega)) ?_
      refine z_lcmp CX dL_kept_709 ?_
      refine z_if_ne CX 820 dL_kept_710 (by decide) (fun q9 => absurd q9 (fun z9 => z9 ((lcE (by omega) (by omega)).mpr rfl))) (fun _ => ?_)
      refine z_aload_n CX 0 dL_kept_713 rfl rfl ?_
      refine z_iconst CX (v := 2) dL_kept_714 (by decide) ?_
      refine z_callSw CX hN dL_kept_715 csw_103 qa2 rfl rfl (Nat.le_of_ble_eq_true rfl) ⟨Nat.le_of_ble_eq_true rfl, Nat.le_of_ble_eq_true rfl⟩ ⟨Nat.le_of_ble_eq_true rfl, Nat.le_of_ble_eq_true rfl⟩ ?_
      refine z_aload_n CX 0 dL_kept_718 rfl rfl ?_
      refine z_iconst CX (v := 3) dL_kept_719 (by decide) ?_
      refine z_callSw CX hN dL_kept_720 csw_103 qa3 rfl rfl (Nat.le_of_ble_eq_true rfl) ⟨Nat.le_of_ble_eq_true rfl, Nat.le_of_ble_eq_true rfl⟩ ⟨Nat.le_of_ble_eq_true rfl, Nat.le_of_ble_eq_true rfl⟩ ?_
      refine z_ladd CX dL_kept_723 ?_
      refine z_aload_n CX 0 dL_kept_724 rfl rfl ?_
      refine z_iconst CX (v := 4) dL_kept_725 (by decide) ?_
      refine z_callSw CX hN dL_kept_726 csw_103 qa4 rfl rfl (Nat.le_of_ble_eq_true rfl) ⟨Nat.le_of_ble_eq_true rfl, Nat.le_of_ble_eq_true rfl⟩ ⟨Nat.le_of_ble_eq_true rfl, Nat.le_of_ble_eq_true rfl⟩ ?_
      refine z_ladd CX dL_kept_729 ?_
      refine z_aload_n CX 0 dL_kept_730 rfl rfl ?_
      refine z_iconst CX (v := 5) dL_kept_731 (by decide) ?_
      refine z_callSw CX hN dL_kept_732 csw_103 qa5 rfl rfl (Nat.le_of_ble_eq_true rfl) ⟨Nat.le_of_ble_eq_true rfl, Nat.le_of_ble_eq_true rfl⟩ ⟨Nat.le_of_ble_eq_true rfl, Nat.le_of_ble_eq_true rfl⟩ ?_
      refine z_ladd CX dL_kept_735 ?_
      refine z_aload_n CX 0 dL_kept_736 rfl rfl ?_
      refine z_bipush CX (v := 6) dL_kept_737 (by decide) ?_
      refine z_callSw CX hN dL_kept_739 csw_103 qa6 rfl rfl (Nat.le_of_ble_eq_true rfl) ⟨Nat.le_of_ble_eq_true rfl, Nat.le_of_ble_eq_true rfl⟩ ⟨Nat.le_of_ble_eq_true rfl, Nat.le_of_ble_eq_true rfl⟩ ?_
      refine z_ladd CX dL_kept_742 ?_
      refine z_aload_n CX 0 dL_kept_743 rfl rfl ?_
      refine z_iconst CX (v := 1) dL_kept_744 (by decide) ?_
      refine z_callSw CX hN dL_kept_745 csw_103 qa1 rfl rfl (Nat.le_of_ble_eq_true rfl) ⟨Nat.le_of_ble_eq_true rfl, Nat.le_of_ble_eq_true rfl⟩ ⟨Nat.le_of_ble_eq_true rfl, Nat.le_of_ble_eq_true rfl⟩ ?_
      refine z_lcmp CX dL_kept_748 ?_
      refine z_if_ne CX 820 dL_kept_749 (by decide) (fun q9 => absurd q9 (fun z9 => z9 ((lg_cmp_eq _ _).mpr (by rw [lN_add, lN_add, lN_add, lN_add]; exact congrArg lN hf5)))) (fun _ => ?_)
      refine z_lload CX dL_kept_752 rfl ?_
      refine z_aload_n CX 0 dL_kept_754 rfl rfl ?_
      refine z_iconst CX (v := 1) dL_kept_755 (by decide) ?_
      refine z_callSw CX hN dL_kept_756 csw_103 qa1 rfl rfl (Nat.le_of_ble_eq_true rfl) ⟨Nat.le_of_ble_eq_true rfl, Nat.le_of_ble_eq_true rfl⟩ ⟨Nat.le_of_ble_eq_true rfl, Nat.le_of_ble_eq_true rfl⟩ ?_
      refine z_lcmp CX dL_kept_759 ?_
      refine z_if_ne CX 820 dL_kept_760 (by decide) (fun q9 => absurd q9 (fun z9 => z9 ((lcE (by omega) (by omega)).mpr hmine))) (fun _ => ?_)
      refine z_lload CX dL_kept_763 rfl ?_
      refine z_aload_n CX 0 dL_kept_765 rfl rfl ?_
      refine z_bipush CX (v := 12) dL_kept_766 (by decide) ?_
      refine z_callSw CX hN dL_kept_768 csw_103 qa12 rfl rfl (Nat.le_of_ble_eq_true rfl) ⟨Nat.le_of_ble_eq_true rfl, Nat.le_of_ble_eq_true rfl⟩ ⟨Nat.le_of_ble_eq_true rfl, Nat.le_of_ble_eq_true rfl⟩ ?_
      refine z_lcmp CX dL_kept_771 ?_
      refine z_if_ne CX 820 dL_kept_772 (by decide) (fun q9 => absurd q9 (fun z9 => z9 ((lcE (by omega) (by omega)).mpr rfl))) (fun _ => ?_)
      refine z_lload CX dL_kept_775 rfl ?_
      refine z_ldc2 CX (v := 3) dL_kept_777 (wa_mem 775 (by decide +kernel) rfl) ?_
      refine z_lload CX dL_kept_780 rfl ?_
      refine z_lmul CX dL_kept_782 ?_
      refine z_lcmp CX dL_kept_783 ?_
      refine z_if_lt CX 820 dL_kept_784 (by decide) (fun q9 => absurd q9 (fun z9 => absurd ((lcLt (a := smN pt 4) (b := 3 * smN wn (bN (zsF σ))) (by omega) (by omega)).mp (by rw [← lN_mul]; exact z9)) (by omega))) (fun _ => ?_)
      refine z_iload CX dL_kept_787 rfl ?_
      refine z_if_le CX 796 dL_kept_789 (by decide) (fun q9 => absurd q9 (fun z9 => absurd (show nI (cntS (zsF σ) (bN (zsF σ)) 1) ≤ nI 0 from z9) (nI_ge (by omega) (by omega)))) (fun _ => ?_)
      refine z_iconst CX (v := 1) dL_kept_792 (by decide) ?_
      refine z_goto CX 797 dL_kept_793 (by decide) ?_
      refine z_aload_n CX 0 dL_kept_797 rfl rfl ?_
      refine z_bipush CX (v := 9) dL_kept_798 (by decide) ?_
      refine z_callSw CX hN dL_kept_800 csw_103 qa9 rfl rfl (Nat.le_of_ble_eq_true rfl) ⟨Nat.le_of_ble_eq_true rfl, Nat.le_of_ble_eq_true rfl⟩ ⟨Nat.le_of_ble_eq_true rfl, Nat.le_of_ble_eq_true rfl⟩ ?_
      refine z_lconst CX (v := 1) dL_kept_803 (by decide) ?_
      refine z_lcmp CX dL_kept_804 ?_
      refine z_if_ne CX 812 dL_kept_805 (by decide) (fun q9 => absurd q9 (fun z9 => z9 ((lcE (a := 1) (b := 1) (by omega) (by omega)).mpr rfl))) (fun _ => ?_)
      refine z_iconst CX (v := 1) dL_kept_808 (by decide) ?_
      refine z_goto CX 813 dL_kept_809 (by decide) ?_
      refine z_icmp_ne CX 820 dL_kept_813 (by decide) (fun q9 => absurd q9 (fun z9 => z9 rfl)) (fun _ => ?_)
      refine z_iconst CX (v := 1) dL_kept_816 (by decide) ?_
      refine z_goto CX 821 dL_kept_817 (by decide) ?_
      exact z_zretP CX dL_kept_821 rfl rfl ⟨rfl, rfl⟩ (Nat.le_refl _) (Nat.le_refl _)
    · skip
      have qa9 := q_about (l := l) (i := 9) hI hσ (by omega)
      rw [l2l (show abV (zsF σ) 9 = nI 0 from u1) (by omega)] at qa9
      refine z_iload_n CX 1 dL_kept_638 rfl rfl ?_
      refine z_if_eq CX 820 dL_kept_639 (by decide) (fun q9 => absurd q9 (by decide)) (fun _ => ?_)
      refine z_aload_n CX 0 dL_kept_642 rfl rfl ?_
      refine z_bipush CX (v := 13) dL_kept_643 (by decide) ?_
      refine z_callSw CX hN dL_kept_645 csw_103 qa13 rfl rfl (Nat.le_of_ble_eq_true rfl) ⟨Nat.le_of_ble_eq_true rfl, Nat.le_of_ble_eq_true rfl⟩ ⟨Nat.le_of_ble_eq_true rfl, Nat.le_of_ble_eq_true rfl⟩ ?_
      refine z_lload_n CX 2 dL_kept_648 rfl rfl ?_
      refine z_lcmp CX dL_kept_649 ?_
      refine z_if_ne CX 820 dL_kept_650 (by decide) (fun q9 => absurd q9 (fun z9 => z9 ((lcE (by omega) (by omega)).mpr rfl))) (fun _ => ?_)
      refine z_aload_n CX 0 dL_kept_653 rfl rfl ?_
      refine z_bipush CX (v := 10) dL_kept_654 (by decide) ?_
      refine z_callSw CX hN dL_kept_656 csw_103 qa10 rfl rfl (Nat.le_of_ble_eq_true rfl) ⟨Nat.le_of_ble_eq_true rfl, Nat.le_of_ble_eq_true rfl⟩ ⟨Nat.le_of_ble_eq_true rfl, Nat.le_of_ble_eq_true rfl⟩ ?_
      refine z_lload CX dL_kept_659 rfl ?_
      refine z_lcmp CX dL_kept_661 ?_
      refine z_if_ne CX 820 dL_kept_662 (by decide) (fun q9 => absurd q9 (fun z9 => z9 ((lcE (by omega) (by omega)).mpr rfl))) (fun _ => ?_)
      refine z_lload CX dL_kept_665 rfl ?_
      refine z_aload_n CX 0 dL_kept_667 rfl rfl ?_
      refine z_bipush CX (v := 8) dL_kept_668 (by decide) ?_
      refine z_callSw CX hN dL_kept_670 csw_103 qa8 rfl rfl (Nat.le_of_ble_eq_true rfl) ⟨Nat.le_of_ble_eq_true rfl, Nat.le_of_ble_eq_true rfl⟩ ⟨Nat.le_of_ble_eq_true rfl, Nat.le_of_ble_eq_true rfl⟩ ?_
      refine z_lcmp CX dL_kept_673 ?_
      refine z_if_gt CX 820 dL_kept_674 (by decide) (fun q9 => absurd q9 (fun z9 => absurd ((lcGt (by omega) (by omega)).mp z9) (by omega))) (fun _ => ?_)
      refine z_aload_n CX 0 dL_kept_677 rfl rfl ?_
      refine z_iconst CX (v := 3) dL_kept_678 (by decide) ?_
      refine z_callSw CX hN dL_kept_679 csw_103 qa3 rfl rfl (Nat.le_of_ble_eq_true rfl) ⟨Nat.le_of_ble_eq_true rfl, Nat.le_of_ble_eq_true rfl⟩ ⟨Nat.le_of_ble_eq_true rfl, Nat.le_of_ble_eq_true rfl⟩ ?_
      refine z_iload CX dL_kept_682 rfl ?_
      refine z_i2l CX dL_kept_684 (nI_l (by omega)) ?_
      refine z_lcmp CX dL_kept_685 ?_
      refine z_if_ne CX 820 dL_kept_686 (by decide) (fun q9 => absurd q9 (fun z9 => z9 ((lcE (by omega) (by omega)).mpr rfl))) (fun _ => ?_)
      refine z_aload_n CX 0 dL_kept_689 rfl rfl ?_
      refine z_iconst CX (v := 4) dL_kept_690 (by decide) ?_
      refine z_callSw CX hN dL_kept_691 csw_103 qa4 rfl rfl (Nat.le_of_ble_eq_true rfl) ⟨Nat.le_of_ble_eq_true rfl, Nat.le_of_ble_eq_true rfl⟩ ⟨Nat.le_of_ble_eq_true rfl, Nat.le_of_ble_eq_true rfl⟩ ?_
      refine z_iload CX dL_kept_694 rfl ?_
      refine z_i2l CX dL_kept_696 (nI_l (by omega)) ?_
      refine z_lcmp CX dL_kept_697 ?_
      refine z_if_ne CX 820 dL_kept_698 (by decide) (fun q9 => absurd q9 (fun z9 => z9 ((lcE (by omega) (by omega)).mpr rfl))) (fun _ => ?_)
      refine z_aload_n CX 0 dL_kept_701 rfl rfl ?_
      refine z_iconst CX (v := 5) dL_kept_702 (by decide) ?_
      refine z_callSw CX hN dL_kept_703 csw_103 qa5 rfl rfl (Nat.le_of_ble_eq_true rfl) ⟨Nat.le_of_ble_eq_true rfl, Nat.le_of_ble_eq_true rfl⟩ ⟨Nat.le_of_ble_eq_true rfl, Nat.le_of_ble_eq_true rfl⟩ ?_
      refine z_iload CX dL_kept_706 rfl ?_
      refine z_i2l CX dL_kept_708 (nI_l (by omega)) ?_
      refine z_lcmp CX dL_kept_709 ?_
      refine z_if_ne CX 820 dL_kept_710 (by decide) (fun q9 => absurd q9 (fun z9 => z9 ((lcE (by omega) (by omega)).mpr rfl))) (fun _ => ?_)
      refine z_aload_n CX 0 dL_kept_713 rfl rfl ?_
      refine z_iconst CX (v := 2) dL_kept_714 (by decide) ?_
      refine z_callSw CX hN dL_kept_715 csw_103 qa2 rfl rfl (Nat.le_of_ble_eq_true rfl) ⟨Nat.le_of_ble_eq_true rfl, Nat.le_of_ble_eq_true rfl⟩ ⟨Nat.le_of_ble_eq_true rfl, Nat.le_of_ble_eq_true rfl⟩ ?_
      refine z_aload_n CX 0 dL_kept_718 rfl rfl ?_
      refine z_iconst CX (v := 3) dL_kept_719 (by decide) ?_
      refine z_callSw CX hN dL_kept_720 csw_103 qa3 rfl rfl (Nat.le_of_ble_eq_true rfl) ⟨Nat.le_of_ble_eq_true rfl, Nat.le_of_ble_eq_true rfl⟩ ⟨Nat.le_of_ble_eq_true rfl, Nat.le_of_ble_eq_true rfl⟩ ?_
      refine z_ladd CX dL_kept_723 ?_
      refine z_aload_n CX 0 dL_kept_724 rfl rfl ?_
      refine z_iconst CX (v := 4) dL_kept_725 (by decide) ?_
      refine z_callSw CX hN dL_kept_726 csw_103 qa4 rfl rfl (Nat.le_of_ble_eq_true rfl) ⟨Nat.le_of_ble_eq_true rfl, Nat.le_of_ble_eq_true rfl⟩ ⟨Nat.le_of_ble_eq_true rfl, Nat.le_of_ble_eq_true rfl⟩ ?_
      refine z_ladd CX dL_kept_729 ?_
      refine z_aload_n CX 0 dL_kept_730 rfl rfl ?_
      refine z_iconst CX (v := 5) dL_kept_731 (by decide) ?_
      refine z_callSw CX hN dL_kept_732 csw_103 qa5 rfl rfl (Nat.le_of_ble_eq_true rfl) ⟨Nat.le_of_ble_eq_true rfl, Nat.le_of_ble_eq_true rfl⟩ ⟨Nat.le_of_ble_eq_true rfl, Nat.le_of_ble_eq_true rfl⟩ ?_
      refine z_ladd CX dL_kept_735 ?_
      refine z_aload_n CX 0 dL_kept_736 rfl rfl ?_
      refine z_bipush CX (v := 6) dL_kept_737 (by decide) ?_
      refine z_callSw CX hN dL_kept_739 csw_103 qa6 rfl rfl (Nat.le_of_ble_eq_true rfl) ⟨Nat.le_of_ble_eq_true rfl, Nat.le_of_ble_eq_true rfl⟩ ⟨Nat.le_of_ble_eq_true rfl, Nat.le_of_ble_eq_true rfl⟩ ?_
      refine z_ladd CX dL_kept_742 ?_
      refine z_aload_n CX 0 dL_kept_743 rfl rfl ?_
      refine z_iconst CX (v := 1) dL_kept_744 (by decide) ?_
      refine z_callSw CX hN dL_kept_745 csw_103 qa1 rfl rfl (Nat.le_of_ble_eq_true rfl) ⟨Nat.le_of_ble_eq_true rfl, Nat.le_of_ble_eq_true rfl⟩ ⟨Nat.le_of_ble_eq_true rfl, Nat.le_of_ble_eq_true rfl⟩ ?_
      refine z_lcmp CX dL_kept_748 ?_
      refine z_if_ne CX 820 dL_kept_749 (by decide) (fun q9 => absurd q9 (fun z9 => z9 ((lg_cmp_eq _ _).mpr (by rw [lN_add, lN_add, lN_add, lN_add]; exact congrArg lN hf5)))) (fun _ => ?_)
      refine z_lload CX dL_kept_752 rfl ?_
      refine z_aload_n CX 0 dL_kept_754 rfl rfl ?_
      refine z_iconst CX (v := 1) dL_kept_755 (by decide) ?_
      refine z_callSw CX hN dL_kept_756 csw_103 qa1 rfl rfl (Nat.le_of_ble_eq_true rfl) ⟨Nat.le_of_ble_eq_true rfl, Nat.le_of_ble_eq_true rfl⟩ ⟨Nat.le_of_ble_eq_true rfl, Nat.le_of_ble_eq_true rfl⟩ ?_
      refine z_lcmp CX dL_kept_759 ?_
      refine z_if_ne CX 820 dL_kept_760 (by decide) (fun q9 => absurd q9 (fun z9 => z9 ((lcE (by omega) (by omega)).mpr hmine))) (fun _ => ?_)
      refine z_lload CX dL_kept_763 rfl ?_
      refine z_aload_n CX 0 dL_kept_765 rfl rfl ?_
      refine z_bipush CX (v := 12) dL_kept_766 (by decide) ?_
      refine z_callSw CX hN dL_kept_768 csw_103 qa12 rfl rfl (Nat.le_of_ble_eq_true rfl) ⟨Nat.le_of_ble_eq_true rfl, Nat.le_of_ble_eq_true rfl⟩ ⟨Nat.le_of_ble_eq_true rfl, Nat.le_of_ble_eq_true rfl⟩ ?_
      refine z_lcmp CX dL_kept_771 ?_
      refine z_if_ne CX 820 dL_kept_772 (by decide) (fun q9 => absurd q9 (fun z9 => z9 ((lcE (by omega) (by omega)).mpr rfl))) (fun _ => ?_)
      refine z_lload CX dL_kept_775 rfl ?_
      refine z_ldc2 CX (v := 3) dL_kept_777 (wa_mem 775 (by decide +kernel) rfl) ?_
      refine z_lload CX dL_kept_780 rfl ?_
      refine z_lmul CX dL_kept_782 ?_
      refine z_lcmp CX dL_kept_783 ?_
      refine z_if_lt CX 820 dL_kept_784 (by decide) (fun q9 => absurd q9 (fun z9 => absurd ((lcLt (a := smN pt 4) (b := 3 * smN wn (bN (zsF σ))) (by omega) (by omega)).mp (by rw [← lN_mul]; exact z9)) (by omega))) (fun _ => ?_)
      refine z_iload CX dL_kept_787 rfl ?_
      refine z_if_le CX 796 dL_kept_789 (by decide) (fun _ => ?_) (fun q9 => absurd (show nI (cntS (zsF σ) (bN (zsF σ)) 1) ≤ nI 0 from nI_le (by omega) (by omega)) q9)
      refine z_iconst CX (v := 0) dL_kept_796 (by decide) ?_
      refine z_aload_n CX 0 dL_kept_797 rfl rfl ?_
      refine z_bipush CX (v := 9) dL_kept_798 (by decide) ?_
      refine z_callSw CX hN dL_kept_800 csw_103 qa9 rfl rfl (Nat.le_of_ble_eq_true rfl) ⟨Nat.le_of_ble_eq_true rfl, Nat.le_of_ble_eq_true rfl⟩ ⟨Nat.le_of_ble_eq_true rfl, Nat.le_of_ble_eq_true rfl⟩ ?_
      refine z_lconst CX (v := 1) dL_kept_803 (by decide) ?_
      refine z_lcmp CX dL_kept_804 ?_
      refine z_if_ne CX 812 dL_kept_805 (by decide) (fun _ => ?_) (fun q9 => absurd q9 (fun z9 => absurd ((lcE (a := 0) (b := 1) (by omega) (by omega)).mp z9) (by omega)))
      refine z_iconst CX (v := 0) dL_kept_812 (by decide) ?_
      refine z_icmp_ne CX 820 dL_kept_813 (by decide) (fun q9 => absurd q9 (fun z9 => z9 rfl)) (fun _ => ?_)
      refine z_iconst CX (v := 1) dL_kept_816 (by decide) ?_
      refine z_goto CX 821 dL_kept_817 (by decide) ?_
      exact z_zretP CX dL_kept_821 rfl rfl ⟨rfl, rfl⟩ (Nat.le_refl _) (Nat.le_refl _)
  have LO : ∀ j o, o + j = 4 → ZW p l e R s m args below meth c w 18 H none 0 0 (MQ below (QP w (fun h v => h = H ∧ v = .int 1)) args s 0 0 (wA w)) 535 [(0, .ref (wB w + k)), (1, .int 1), (2, .long (lN (smN dr (bN (zsF σ))))), (4, .long (lN (smN wn (bN (zsF σ))))), (6, .int (nI (cntS (zsF σ) (bN (zsF σ)) 1))), (7, .int (nI (cntS (zsF σ) (bN (zsF σ)) 2))), (8, .int (nI (cntS (zsF σ) (bN (zsF σ)) 3))), (9, .long (lN (smN (fun o9 => bofF (zsF σ) (bN (zsF σ)) (nI o9)) o))), (11, .long (lN (smN pt o))), (13, .int (nI o))] [] := by
    intro j
    induction j with
    | zero =>
      intro o ho
      obtain rfl : o = 4 := by omega
      refine z_iload CX dL_kept_535 rfl ?_
      refine z_iconst CX (v := 4) dL_kept_537 (by decide) ?_
      refine z_icmp_ge CX 638 dL_kept_538 (by decide) (fun _ => ?_) (fun q9 => absurd (by decide) q9)
      refine z_loc [(0, .ref (wB w + k)), (1, .int 1), (2, .long (lN (smN dr (bN (zsF σ))))), (4, .long (lN (smN wn (bN (zsF σ))))), (6, .int (nI (cntS (zsF σ) (bN (zsF σ)) 1))), (7, .int (nI (cntS (zsF σ) (bN (zsF σ)) 2))), (8, .int (nI (cntS (zsF σ) (bN (zsF σ)) 3))), (9, .long (lN (smN (fun o9 => bofF (zsF σ) (bN (zsF σ)) (nI o9)) 4))), (11, .long (lN (smN pt 4))), (13, .int (nI 4))] ⟨rfl, rfl, rfl, rfl, rfl, rfl, rfl, rfl, rfl, rfl, trivial⟩ ?_
      exact K638
    | succ j ih =>
      intro o ho
      have hq0 : smN pt o ≤ smN pt 4 := by
        rcases (show o = 0 ∨ o = 1 ∨ o = 2 ∨ o = 3 by omega) with q | q | q | q <;> subst q <;> simp only [smN] <;> omega
      have hp0 : pt o ≤ smN pt 4 := by
        rcases (show o = 0 ∨ o = 1 ∨ o = 2 ∨ o = 3 by omega) with q | q | q | q <;> subst q <;> simp only [smN] <;> omega
      have hbo : bofF (zsF σ) (bN (zsF σ)) (nI o) ≤ bN (zsF σ) := cntN_le _ _
      have hcl : clbF (zsF σ) (bN (zsF σ)) o ≤ cntS (zsF σ) (bN (zsF σ)) 3 := clb_le
      have qo0 := q_ownerOf (l := l) (j := o) (i := 0) hI hσ (by omega) (by omega)
      rw [l2l (show owV (zsF σ) o 0 = nI (pt o) from d1 o (by omega)) (by omega)] at qo0
      have qo1 := q_ownerOf (l := l) (j := o) (i := 1) hI hσ (by omega) (by omega)
      rw [l2l (show owV (zsF σ) o 1 = nI (bofF (zsF σ) (bN (zsF σ)) (nI o)) from rfl) (by omega)] at qo1
      have qo4 := q_ownerOf (l := l) (j := o) (i := 4) hI hσ (by omega) (by omega)
      rw [l2l (show owV (zsF σ) o 4 = nI (clbF (zsF σ) (bN (zsF σ)) o) from rfl) (by omega)] at qo4
      have qo2 := q_ownerOf (l := l) (j := o) (i := 2) hI hσ (by omega) (by omega)
      have qo3 := q_ownerOf (l := l) (j := o) (i := 3) hI hσ (by omega) (by omega)
      have w2 : owV (zsF σ) o 2 = zsF σ (134 + 3 * o + 1) := rfl
      have w3 : owV (zsF σ) o 3 = zsF σ (134 + 3 * o + 2) := rfl
      have s9 : lN (smN (fun o9 => bofF (zsF σ) (bN (zsF σ)) (nI o9)) o) + lN (bofF (zsF σ) (bN (zsF σ)) (nI o)) = lN (smN (fun o9 => bofF (zsF σ) (bN (zsF σ)) (nI o9)) (o + 1)) := lN_add _ _
      have s11 : lN (smN pt o) + lN (pt o) = lN (smN pt (o + 1)) := lN_add _ _
      rcases hR.2.2.2.2.2.1 o (by omega) with ⟨x1, x2⟩ | ⟨g9, c9, L9, g1, x1, x2, g4, g5, g6⟩
      · skip
        rw [l2m (w2.trans x1)] at qo2
        rw [l2m (w3.trans x2)] at qo3
        refine z_iload CX dL_kept_535 rfl ?_
        refine z_iconst CX (v := 4) dL_kept_537 (by decide) ?_
        refine z_icmp_ge CX 638 dL_kept_538 (by decide) (fun q9 => absurd q9 (nI_ge (a := o) (b := 4) (by omega) (by omega))) (fun _ => ?_)
        refine z_lload CX dL_kept_541 rfl ?_
        refine z_aload_n CX 0 dL_kept_543 rfl rfl ?_
        refine z_iload CX dL_kept_544 rfl ?_
        refine z_iconst CX (v := 0) dL_kept_546 (by decide) ?_
        refine z_callSw CX hN dL_kept_547 csw_117 qo0 rfl rfl (Nat.le_of_ble_eq_true rfl) ⟨Nat.le_of_ble_eq_true rfl, Nat.le_of_ble_eq_true rfl⟩ ⟨Nat.le_of_ble_eq_true rfl, Nat.le_of_ble_eq_true rfl⟩ ?_
        refine z_ladd CX dL_kept_550 ?_
        refine z_stk (congrArg (fun q9 => [Value.long q9]) s11) ?_
        refine z_lstore CX dL_kept_551 (by decide) ?_
        refine z_lload CX dL_kept_553 rfl ?_
        refine z_aload_n CX 0 dL_kept_555 rfl rfl ?_
        refine z_iload CX dL_kept_556 rfl ?_
        refine z_iconst CX (v := 1) dL_kept_558 (by decide) ?_
        refine z_callSw CX hN dL_kept_559 csw_117 qo1 rfl rfl (Nat.le_of_ble_eq_true rfl) ⟨Nat.le_of_ble_eq_true rfl, Nat.le_of_ble_eq_true rfl⟩ ⟨Nat.le_of_ble_eq_true rfl, Nat.le_of_ble_eq_true rfl⟩ ?_
        refine z_ladd CX dL_kept_562 ?_
        refine z_stk (congrArg (fun q9 => [Value.long q9]) s9) ?_
        refine z_lstore CX dL_kept_563 (by decide) ?_
        refine z_iload_n CX 1 dL_kept_565 rfl rfl ?_
        refine z_if_eq CX 630 dL_kept_566 (by decide) (fun q9 => absurd q9 (by decide)) (fun _ => ?_)
        refine z_aload_n CX 0 dL_kept_569 rfl rfl ?_
        refine z_iload CX dL_kept_570 rfl ?_
        refine z_iconst CX (v := 2) dL_kept_572 (by decide) ?_
        refine z_callSw CX hN dL_kept_573 csw_117 qo2 rfl rfl (Nat.le_of_ble_eq_true rfl) ⟨Nat.le_of_ble_eq_true rfl, Nat.le_of_ble_eq_true rfl⟩ ⟨Nat.le_of_ble_eq_true rfl, Nat.le_of_ble_eq_true rfl⟩ ?_
        refine z_ldc2 CX (v := -1) dL_kept_576 (wa_mem 774 (by decide +kernel) rfl) ?_
        refine z_lcmp CX dL_kept_579 ?_
        refine z_if_ne CX 587 dL_kept_580 (by decide) (fun q9 => absurd q9 (fun z9 => z9 ((lg_cmp_eq _ _).mpr rfl))) (fun _ => ?_)
        refine z_iconst CX (v := 1) dL_kept_583 (by decide) ?_
        refine z_goto CX 588 dL_kept_584 (by decide) ?_
        refine z_aload_n CX 0 dL_kept_588 rfl rfl ?_
        refine z_iload CX dL_kept_589 rfl ?_
        refine z_iconst CX (v := 3) dL_kept_591 (by decide) ?_
        refine z_callSw CX hN dL_kept_592 csw_117 qo3 rfl rfl (Nat.le_of_ble_eq_true rfl) ⟨Nat.le_of_ble_eq_true rfl, Nat.le_of_ble_eq_true rfl⟩ ⟨Nat.le_of_ble_eq_true rfl, Nat.le_of_ble_eq_true rfl⟩ ?_
        refine z_ldc2 CX (v := -1) dL_kept_595 (wa_mem 774 (by decide +kernel) rfl) ?_
        refine z_lcmp CX dL_kept_598 ?_
        refine z_if_ne CX 606 dL_kept_599 (by decide) (fun q9 => absurd q9 (fun z9 => z9 ((lg_cmp_eq _ _).mpr rfl))) (fun _ => ?_)
        refine z_iconst CX (v := 1) dL_kept_602 (by decide) ?_
        refine z_goto CX 607 dL_kept_603 (by decide) ?_
        refine z_icmp_ne CX 630 dL_kept_607 (by decide) (fun q9 => absurd q9 (fun z9 => z9 rfl)) (fun _ => ?_)
        refine z_aload_n CX 0 dL_kept_610 rfl rfl ?_
        refine z_iload CX dL_kept_611 rfl ?_
        refine z_iconst CX (v := 4) dL_kept_613 (by decide) ?_
        refine z_callSw CX hN dL_kept_614 csw_117 qo4 rfl rfl (Nat.le_of_ble_eq_true rfl) ⟨Nat.le_of_ble_eq_true rfl, Nat.le_of_ble_eq_true rfl⟩ ⟨Nat.le_of_ble_eq_true rfl, Nat.le_of_ble_eq_true rfl⟩ ?_
        refine z_aload_n CX 0 dL_kept_617 rfl rfl ?_
        refine z_iconst CX (v := 5) dL_kept_618 (by decide) ?_
        refine z_callSw CX hN dL_kept_619 csw_103 qa5 rfl rfl (Nat.le_of_ble_eq_true rfl) ⟨Nat.le_of_ble_eq_true rfl, Nat.le_of_ble_eq_true rfl⟩ ⟨Nat.le_of_ble_eq_true rfl, Nat.le_of_ble_eq_true rfl⟩ ?_
        refine z_lcmp CX dL_kept_622 ?_
        refine z_if_gt CX 630 dL_kept_623 (by decide) (fun q9 => absurd q9 (fun z9 => absurd ((lcGt (by omega) (by omega)).mp z9) (by omega))) (fun _ => ?_)
        refine z_iconst CX (v := 1) dL_kept_626 (by decide) ?_
        refine z_goto CX 631 dL_kept_627 (by decide) ?_
        refine z_istore_n CX 1 dL_kept_631 rfl (by decide) ?_
        refine z_iinc CX (v := (nI (o + 1))) dL_kept_632 rfl (nI_1 _) (by decide) ?_
        refine z_goto CX 535 dL_kept_635 (by decide) ?_
        refine z_loc [(0, .ref (wB w + k)), (1, .int 1), (2, .long (lN (smN dr (bN (zsF σ))))), (4, .long (lN (smN wn (bN (zsF σ))))), (6, .int (nI (cntS (zsF σ) (bN (zsF σ)) 1))), (7, .int (nI (cntS (zsF σ) (bN (zsF σ)) 2))), (8, .int (nI (cntS (zsF σ) (bN (zsF σ)) 3))), (9, .long (lN (smN (fun o9 => bofF (zsF σ) (bN (zsF σ)) (nI o9)) (o + 1)))), (11, .long (lN (smN pt (o + 1)))), (13, .int (nI (o + 1)))] ⟨rfl, rfl, rfl, rfl, rfl, rfl, rfl, rfl, rfl, rfl, trivial⟩ ?_
        exact (ih (o + 1) (by omega))
      · skip
        rw [l2l (w2.trans x1) (by omega)] at qo2
        rw [l2l (w3.trans x2) (by omega)] at qo3
        refine z_iload CX dL_kept_535 rfl ?_
        refine z_iconst CX (v := 4) dL_kept_537 (by decide) ?_
        refine z_icmp_ge CX 638 dL_kept_538 (by decide) (fun q9 => absurd q9 (nI_ge (a := o) (b := 4) (by omega) (by omega))) (fun _ => ?_)
        refine z_lload CX dL_kept_541 rfl ?_
        refine z_aload_n CX 0 dL_kept_543 rfl rfl ?_
        refine z_iload CX dL_kept_544 rfl ?_
        refine z_iconst CX (v := 0) dL_kept_546 (by decide) ?_
        refine z_callSw CX hN dL_kept_547 csw_117 qo0 rfl rfl (Nat.le_of_ble_eq_true rfl) ⟨Nat.le_of_ble_eq_true rfl, Nat.le_of_ble_eq_true rfl⟩ ⟨Nat.le_of_ble_eq_true rfl, Nat.le_of_ble_eq_true rfl⟩ ?_
        refine z_ladd CX dL_kept_550 ?_
        refine z_stk (congrArg (fun q9 => [Value.long q9]) s11) ?_
        refine z_lstore CX dL_kept_551 (by decide) ?_
        refine z_lload CX dL_kept_553 rfl ?_
        refine z_aload_n CX 0 dL_kept_555 rfl rfl ?_
        refine z_iload CX dL_kept_556 rfl ?_
        refine z_iconst CX (v := 1) dL_kept_558 (by decide) ?_
        refine z_callSw CX hN dL_kept_559 csw_117 qo1 rfl rfl (Nat.le_of_ble_eq_true rfl) ⟨Nat.le_of_ble_eq_true rfl, Nat.le_of_ble_eq_true rfl⟩ ⟨Nat.le_of_ble_eq_true rfl, Nat.le_of_ble_eq_true rfl⟩ ?_
        refine z_ladd CX dL_kept_562 ?_
        refine z_stk (congrArg (fun q9 => [Value.long q9]) s9) ?_
        refine z_lstore CX dL_kept_563 (by decide) ?_
        refine z_iload_n CX 1 dL_kept_565 rfl rfl ?_
        refine z_if_eq CX 630 dL_kept_566 (by decide) (fun q9 => absurd q9 (by decide)) (fun _ => ?_)
        refine z_aload_n CX 0 dL_kept_569 rfl rfl ?_
        refine z_iload CX dL_kept_570 rfl ?_
        refine z_iconst CX (v := 2) dL_kept_572 (by decide) ?_
        refine z_callSw CX hN dL_kept_573 csw_117 qo2 rfl rfl (Nat.le_of_ble_eq_true rfl) ⟨Nat.le_of_ble_eq_true rfl, Nat.le_of_ble_eq_true rfl⟩ ⟨Nat.le_of_ble_eq_true rfl, Nat.le_of_ble_eq_true rfl⟩ ?_
        refine z_ldc2 CX (v := -1) dL_kept_576 (wa_mem 774 (by decide +kernel) rfl) ?_
        refine z_lcmp CX dL_kept_579 ?_
        refine z_if_ne CX 587 dL_kept_580 (by decide) (fun _ => ?_) (fun q9 => absurd q9 (lcN (by omega)))
        refine z_iconst CX (v := 0) dL_kept_587 (by decide) ?_
        refine z_aload_n CX 0 dL_kept_588 rfl rfl ?_
        refine z_iload CX dL_kept_589 rfl ?_
        refine z_iconst CX (v := 3) dL_kept_591 (by decide) ?_
        refine z_callSw CX hN dL_kept_592 csw_117 qo3 rfl rfl (Nat.le_of_ble_eq_true rfl) ⟨Nat.le_of_ble_eq_true rfl, Nat.le_of_ble_eq_true rfl⟩ ⟨Nat.le_of_ble_eq_true rfl, Nat.le_of_ble_eq_true rfl⟩ ?_
        refine z_ldc2 CX (v := -1) dL_kept_595 (wa_mem 774 (by decide +kernel) rfl) ?_
        refine z_lcmp CX dL_kept_598 ?_
        refine z_if_ne CX 606 dL_kept_599 (by decide) (fun _ => ?_) (fun q9 => absurd q9 (lcN (by omega)))
        refine z_iconst CX (v := 0) dL_kept_606 (by decide) ?_
        refine z_icmp_ne CX 630 dL_kept_607 (by decide) (fun q9 => absurd q9 (fun z9 => z9 rfl)) (fun _ => ?_)
        refine z_aload_n CX 0 dL_kept_610 rfl rfl ?_
        refine z_iload CX dL_kept_611 rfl ?_
        refine z_iconst CX (v := 4) dL_kept_613 (by decide) ?_
        refine z_callSw CX hN dL_kept_614 csw_117 qo4 rfl rfl (Nat.le_of_ble_eq_true rfl) ⟨Nat.le_of_ble_eq_true rfl, Nat.le_of_ble_eq_true rfl⟩ ⟨Nat.le_of_ble_eq_true rfl, Nat.le_of_ble_eq_true rfl⟩ ?_
        refine z_aload_n CX 0 dL_kept_617 rfl rfl ?_
        refine z_iconst CX (v := 5) dL_kept_618 (by decide) ?_
        refine z_callSw CX hN dL_kept_619 csw_103 qa5 rfl rfl (Nat.le_of_ble_eq_true rfl) ⟨Nat.le_of_ble_eq_true rfl, Nat.le_of_ble_eq_true rfl⟩ ⟨Nat.le_of_ble_eq_true rfl, Nat.le_of_ble_eq_true rfl⟩ ?_
        refine z_lcmp CX dL_kept_622 ?_
        refine z_if_gt CX 630 dL_kept_623 (by decide) (fun q9 => absurd q9 (fun z9 => absurd ((lcGt (by omega) (by omega)).mp z9) (by omega))) (fun _ => ?_)
        refine z_iconst CX (v := 1) dL_kept_626 (by decide) ?_
        refine z_goto CX 631 dL_kept_627 (by decide) ?_
        refine z_istore_n CX 1 dL_kept_631 rfl (by decide) ?_
        refine z_iinc CX (v := (nI (o + 1))) dL_kept_632 rfl (nI_1 _) (by decide) ?_
        refine z_goto CX 535 dL_kept_635 (by decide) ?_
        refine z_loc [(0, .ref (wB w + k)), (1, .int 1), (2, .long (lN (smN dr (bN (zsF σ))))), (4, .long (lN (smN wn (bN (zsF σ))))), (6, .int (nI (cntS (zsF σ) (bN (zsF σ)) 1))), (7, .int (nI (cntS (zsF σ) (bN (zsF σ)) 2))), (8, .int (nI (cntS (zsF σ) (bN (zsF σ)) 3))), (9, .long (lN (smN (fun o9 => bofF (zsF σ) (bN (zsF σ)) (nI o9)) (o + 1)))), (11, .long (lN (smN pt (o + 1)))), (13, .int (nI (o + 1)))] ⟨rfl, rfl, rfl, rfl, rfl, rfl, rfl, rfl, rfl, rfl, trivial⟩ ?_
        exact (ih (o + 1) (by omega))
  have K532 : ZW p l e R s m args below meth c w 18 H none 0 0 (MQ below (QP w (fun h v => h = H ∧ v = .int 1)) args s 0 0 (wA w)) 532 [(0, .ref (wB w + k)), (1, .int 1), (2, .long (lN (smN dr (bN (zsF σ))))), (4, .long (lN (smN wn (bN (zsF σ))))), (6, .int (nI (cntS (zsF σ) (bN (zsF σ)) 1))), (7, .int (nI (cntS (zsF σ) (bN (zsF σ)) 2))), (8, .int (nI (cntS (zsF σ) (bN (zsF σ)) 3))), (9, .long (lN 0)), (11, .long (lN 0)), (13, .int (nI (bN (zsF σ))))] [] := by
    refine z_iconst CX (v := 0) dL_kept_532 (by decide) ?_
    refine z_istore CX dL_kept_533 (by decide) ?_
    refine z_loc [(0, .ref (wB w + k)), (1, .int 1), (2, .long (lN (smN dr (bN (zsF σ))))), (4, .long (lN (smN wn (bN (zsF σ))))), (6, .int (nI (cntS (zsF σ) (bN (zsF σ)) 1))), (7, .int (nI (cntS (zsF σ) (bN (zsF σ)) 2))), (8, .int (nI (cntS (zsF σ) (bN (zsF σ)) 3))), (9, .long (lN (smN (fun o9 => bofF (zsF σ) (bN (zsF σ)) (nI o9)) 0))), (11, .long (lN (smN pt 0))), (13, .int (nI 0))] ⟨rfl, rfl, rfl, rfl, rfl, rfl, rfl, rfl, rfl, rfl, trivial⟩ ?_
    exact (LO 4 0 rfl)
  have LB : ∀ j n9, n9 + j = bN (zsF σ) → ZW p l e R s m args below meth c w 18 H none 0 0 (MQ below (QP w (fun h v => h = H ∧ v = .int 1)) args s 0 0 (wA w)) 243 [(0, .ref (wB w + k)), (1, .int 1), (2, .long (lN (smN dr n9))), (4, .long (lN (smN wn n9))), (6, .int (nI (cntS (zsF σ) n9 1))), (7, .int (nI (cntS (zsF σ) n9 2))), (8, .int (nI (cntS (zsF σ) n9 3))), (9, .long (lN 0)), (11, .long (lN 0)), (13, .int (nI n9))] [] := by
    intro j
    induction j with
    | zero =>
      intro n9 hn9
      obtain rfl : n9 = bN (zsF σ) := by omega
      skip
      refine z_iload CX dL_kept_243 rfl ?_
      refine z_i2l CX dL_kept_245 (nI_l (by omega)) ?_
      refine z_aload_n CX 0 dL_kept_246 rfl rfl ?_
      refine z_iconst CX (v := 1) dL_kept_247 (by decide) ?_
      refine z_callSw CX hN dL_kept_248 csw_103 qa1 rfl rfl (Nat.le_of_ble_eq_true rfl) ⟨Nat.le_of_ble_eq_true rfl, Nat.le_of_ble_eq_true rfl⟩ ⟨Nat.le_of_ble_eq_true rfl, Nat.le_of_ble_eq_true rfl⟩ ?_
      refine z_lcmp CX dL_kept_251 ?_
      refine z_if_ge CX 532 dL_kept_252 (by decide) (fun _ => ?_) (fun q9 => absurd ((lcGe (by omega) (by omega)).mpr (Nat.le_refl _)) q9)
      refine z_loc [(0, .ref (wB w + k)), (1, .int 1), (2, .long (lN (smN dr (bN (zsF σ))))), (4, .long (lN (smN wn (bN (zsF σ))))), (6, .int (nI (cntS (zsF σ) (bN (zsF σ)) 1))), (7, .int (nI (cntS (zsF σ) (bN (zsF σ)) 2))), (8, .int (nI (cntS (zsF σ) (bN (zsF σ)) 3))), (9, .long (lN 0)), (11, .long (lN 0)), (13, .int (nI (bN (zsF σ))))] ⟨rfl, rfl, rfl, rfl, rfl, rfl, rfl, rfl, rfl, rfl, trivial⟩ ?_
      exact K532
    | succ j ih =>
      intro n9 hn9
      obtain ⟨S, hS4, hS3, hin, hout, hpl, hnp, hud⟩ := boat_f hR hU (show n9 < bN (zsF σ) by omega)
      obtain ⟨k1, k2, k3⟩ := c1 n9 (by omega)
      have mdr : smN dr n9 + dr n9 ≤ smN dr (bN (zsF σ)) := smN_mono (v := dr) (bN (zsF σ)) n9 (by omega)
      have mwn : smN wn n9 + wn n9 ≤ smN wn (bN (zsF σ)) := smN_mono (v := wn) (bN (zsF σ)) n9 (by omega)
      have qb3 := q_boatOf (l := l) (j := n9) (i := 3) hI hσ (by omega) (by omega)
      rw [l2l (show boV (zsF σ) n9 3 = nI S from hS3) (by omega)] at qb3
      have qb9 := q_boatOf (l := l) (j := n9) (i := 9) hI hσ (by omega) (by omega)
      rw [l2l (show boV (zsF σ) n9 9 = nI (dr n9) from k1) (by omega)] at qb9
      have qb8 := q_boatOf (l := l) (j := n9) (i := 8) hI hσ (by omega) (by omega)
      rw [l2l (show boV (zsF σ) n9 8 = nI (wn n9) from k3) (by omega)] at qb8
      have qb4 := q_boatOf (l := l) (j := n9) (i := 4) hI hσ (by omega) (by omega)
      have qb5 := q_boatOf (l := l) (j := n9) (i := 5) hI hσ (by omega) (by omega)
      have qb7 := q_boatOf (l := l) (j := n9) (i := 7) hI hσ (by omega) (by omega)
      have s2 : lN (smN dr n9) + lN (dr n9) = lN (smN dr (n9 + 1)) := lN_add _ _
      have s4 : lN (smN wn n9) + lN (wn n9) = lN (smN wn (n9 + 1)) := lN_add _ _
      have cS : ∀ x : Nat, x < 100 → nI (cntS (zsF σ) n9 (nI x)) + nI (if S = x then 1 else 0) = nI (cntS (zsF σ) (n9 + 1) (nI x)) := fun x hx => by rw [nI_add, cntS_1, hS3, nI_if (by omega) hx]
      rcases (show S = 0 ∨ S = 1 ∨ S = 2 ∨ S = 3 ∨ S = 4 by omega) with q | q | q | q | q
      · subst q
        obtain ⟨g3, g4⟩ := hout (by omega)
        rw [l2m g3] at qb4
        rw [l2m g4] at qb5
        rw [l2m (hnp (by omega))] at qb7
        refine z_iload CX dL_kept_243 rfl ?_
        refine z_i2l CX dL_kept_245 (nI_l (by omega)) ?_
        refine z_aload_n CX 0 dL_kept_246 rfl rfl ?_
        refine z_iconst CX (v := 1) dL_kept_247 (by decide) ?_
        refine z_callSw CX hN dL_kept_248 csw_103 qa1 rfl rfl (Nat.le_of_ble_eq_true rfl) ⟨Nat.le_of_ble_eq_true rfl, Nat.le_of_ble_eq_true rfl⟩ ⟨Nat.le_of_ble_eq_true rfl, Nat.le_of_ble_eq_true rfl⟩ ?_
        refine z_lcmp CX dL_kept_251 ?_
        refine z_if_ge CX 532 dL_kept_252 (by decide) (fun q9 => absurd q9 (fun z9 => absurd ((lcGe (by omega) (by omega)).mp z9) (by omega))) (fun _ => ?_)
        refine z_iload_n CX 1 dL_kept_255 rfl rfl ?_
        refine z_if_eq CX 532 dL_kept_256 (by decide) (fun q9 => absurd q9 (by decide)) (fun _ => ?_)
        refine z_aload_n CX 0 dL_kept_259 rfl rfl ?_
        refine z_iload CX dL_kept_260 rfl ?_
        refine z_iconst CX (v := 3) dL_kept_262 (by decide) ?_
        refine z_callSw CX hN dL_kept_263 csw_115 qb3 rfl rfl (Nat.le_of_ble_eq_true rfl) ⟨Nat.le_of_ble_eq_true rfl, Nat.le_of_ble_eq_true rfl⟩ ⟨Nat.le_of_ble_eq_true rfl, Nat.le_of_ble_eq_true rfl⟩ ?_
        refine z_lstore CX dL_kept_266 (by decide) ?_
        refine z_lload CX dL_kept_268 rfl ?_
        refine z_lconst CX (v := 1) dL_kept_270 (by decide) ?_
        refine z_lcmp CX dL_kept_271 ?_
        refine z_if_eq CX 284 dL_kept_272 (by decide) (fun q9 => absurd q9 (fun z9 => absurd ((lcE (a := 0) (b := 1) (by omega) (by omega)).mp z9) (by omega))) (fun _ => ?_)
        refine z_lload CX dL_kept_275 rfl ?_
        refine z_ldc2 CX (v := 3) dL_kept_277 (wa_mem 775 (by decide +kernel) rfl) ?_
        refine z_lcmp CX dL_kept_280 ?_
        refine z_if_ne CX 288 dL_kept_281 (by decide) (fun _ => ?_) (fun q9 => absurd q9 (fun z9 => absurd ((lcE (a := 0) (b := 3) (by omega) (by omega)).mp z9) (by omega)))
        refine z_iconst CX (v := 0) dL_kept_288 (by decide) ?_
        refine z_istore CX dL_kept_289 (by decide) ?_
        refine z_aload_n CX 0 dL_kept_291 rfl rfl ?_
        refine z_iload CX dL_kept_292 rfl ?_
        refine z_iconst CX (v := 4) dL_kept_294 (by decide) ?_
        refine z_callSw CX hN dL_kept_295 csw_115 qb4 rfl rfl (Nat.le_of_ble_eq_true rfl) ⟨Nat.le_of_ble_eq_true rfl, Nat.le_of_ble_eq_true rfl⟩ ⟨Nat.le_of_ble_eq_true rfl, Nat.le_of_ble_eq_true rfl⟩ ?_
        refine z_l2i CX dL_kept_298 (m1_32) ?_
        refine z_istore CX dL_kept_299 (by decide) ?_
        refine z_lload CX dL_kept_301 rfl ?_
        refine z_lconst CX (v := 0) dL_kept_303 (by decide) ?_
        refine z_ldc2 CX (v := 4) dL_kept_304 (wa_mem 776 (by decide +kernel) rfl) ?_
        refine z_callS1 CX dL_kept_307 cs_L_168 (c_in9 _ _ _) rfl rfl (Nat.le_of_ble_eq_true rfl) ⟨Nat.le_of_ble_eq_true rfl, Nat.le_of_ble_eq_true rfl⟩ ⟨Nat.le_refl _, Nat.le_refl _⟩ ?_
        refine z_if_eq CX 445 dL_kept_310 (by decide) (fun q9 => absurd q9 (inL (v := 0) (a := 0) (b := 4) (by omega) (by omega) (by omega))) (fun _ => ?_)
        refine z_iload CX dL_kept_313 rfl ?_
        refine z_if_eq CX 361 dL_kept_315 (by decide) (fun _ => ?_) (fun q9 => absurd rfl q9)
        refine z_iload CX dL_kept_361 rfl ?_
        refine z_iconst CX (v := (-1 : Int32)) dL_kept_363 (by decide) ?_
        refine z_icmp_ne CX 445 dL_kept_364 (by decide) (fun q9 => absurd q9 (fun z9 => z9 rfl)) (fun _ => ?_)
        refine z_aload_n CX 0 dL_kept_367 rfl rfl ?_
        refine z_iload CX dL_kept_368 rfl ?_
        refine z_iconst CX (v := 5) dL_kept_370 (by decide) ?_
        refine z_callSw CX hN dL_kept_371 csw_115 qb5 rfl rfl (Nat.le_of_ble_eq_true rfl) ⟨Nat.le_of_ble_eq_true rfl, Nat.le_of_ble_eq_true rfl⟩ ⟨Nat.le_of_ble_eq_true rfl, Nat.le_of_ble_eq_true rfl⟩ ?_
        refine z_ldc2 CX (v := -1) dL_kept_374 (wa_mem 774 (by decide +kernel) rfl) ?_
        refine z_lcmp CX dL_kept_377 ?_
        refine z_if_ne CX 445 dL_kept_378 (by decide) (fun q9 => absurd q9 (fun z9 => z9 ((lg_cmp_eq _ _).mpr rfl))) (fun _ => ?_)
        refine z_lload CX dL_kept_381 rfl ?_
        refine z_ldc2 CX (v := 2) dL_kept_383 (wa_mem 780 (by decide +kernel) rfl) ?_
        refine z_lcmp CX dL_kept_386 ?_
        refine z_if_ne CX 406 dL_kept_387 (by decide) (fun _ => ?_) (fun q9 => absurd q9 (fun z9 => absurd ((lcE (a := 0) (b := 2) (by omega) (by omega)).mp z9) (by omega)))
        refine z_aload_n CX 0 dL_kept_406 rfl rfl ?_
        refine z_iload CX dL_kept_407 rfl ?_
        refine z_bipush CX (v := 7) dL_kept_409 (by decide) ?_
        refine z_callSw CX hN dL_kept_411 csw_115 qb7 rfl rfl (Nat.le_of_ble_eq_true rfl) ⟨Nat.le_of_ble_eq_true rfl, Nat.le_of_ble_eq_true rfl⟩ ⟨Nat.le_of_ble_eq_true rfl, Nat.le_of_ble_eq_true rfl⟩ ?_
        refine z_ldc2 CX (v := -1) dL_kept_414 (wa_mem 774 (by decide +kernel) rfl) ?_
        refine z_lcmp CX dL_kept_417 ?_
        refine z_if_ne CX 445 dL_kept_418 (by decide) (fun q9 => absurd q9 (fun z9 => z9 ((lg_cmp_eq _ _).mpr rfl))) (fun _ => ?_)
        refine z_lload CX dL_kept_421 rfl ?_
        refine z_ldc2 CX (v := 2) dL_kept_423 (wa_mem 780 (by decide +kernel) rfl) ?_
        refine z_lcmp CX dL_kept_426 ?_
        refine z_if_ne CX 441 dL_kept_427 (by decide) (fun _ => ?_) (fun q9 => absurd q9 (fun z9 => absurd ((lcE (a := 0) (b := 2) (by omega) (by omega)).mp z9) (by omega)))
        refine z_iconst CX (v := 1) dL_kept_441 (by decide) ?_
        refine z_goto CX 446 dL_kept_442 (by decide) ?_
        refine z_istore_n CX 1 dL_kept_446 rfl (by decide) ?_
        refine z_lload_n CX 2 dL_kept_447 rfl rfl ?_
        refine z_aload_n CX 0 dL_kept_448 rfl rfl ?_
        refine z_iload CX dL_kept_449 rfl ?_
        refine z_bipush CX (v := 9) dL_kept_451 (by decide) ?_
        refine z_callSw CX hN dL_kept_453 csw_115 qb9 rfl rfl (Nat.le_of_ble_eq_true rfl) ⟨Nat.le_of_ble_eq_true rfl, Nat.le_of_ble_eq_true rfl⟩ ⟨Nat.le_of_ble_eq_true rfl, Nat.le_of_ble_eq_true rfl⟩ ?_
        refine z_ladd CX dL_kept_456 ?_
        refine z_stk (congrArg (fun q9 => [Value.long q9]) s2) ?_
        refine z_lstore_n CX 2 dL_kept_457 rfl (by decide) ?_
        refine z_lload CX dL_kept_458 rfl ?_
        refine z_aload_n CX 0 dL_kept_460 rfl rfl ?_
        refine z_iload CX dL_kept_461 rfl ?_
        refine z_bipush CX (v := 8) dL_kept_463 (by decide) ?_
        refine z_callSw CX hN dL_kept_465 csw_115 qb8 rfl rfl (Nat.le_of_ble_eq_true rfl) ⟨Nat.le_of_ble_eq_true rfl, Nat.le_of_ble_eq_true rfl⟩ ⟨Nat.le_of_ble_eq_true rfl, Nat.le_of_ble_eq_true rfl⟩ ?_
        refine z_ladd CX dL_kept_468 ?_
        refine z_stk (congrArg (fun q9 => [Value.long q9]) s4) ?_
        refine z_lstore CX dL_kept_469 (by decide) ?_
        refine z_iload CX dL_kept_471 rfl ?_
        refine z_lload CX dL_kept_473 rfl ?_
        refine z_lconst CX (v := 1) dL_kept_475 (by decide) ?_
        refine z_lcmp CX dL_kept_476 ?_
        refine z_if_ne CX 484 dL_kept_477 (by decide) (fun _ => ?_) (fun q9 => absurd q9 (fun z9 => absurd ((lcE (a := 0) (b := 1) (by omega) (by omega)).mp z9) (by omega)))
        refine z_iconst CX (v := 0) dL_kept_484 (by decide) ?_
        refine z_iadd CX dL_kept_485 ?_
        refine z_stk (congrArg (fun q9 => [Value.int q9]) (cS 1 (by omega))) ?_
        refine z_istore CX dL_kept_486 (by decide) ?_
        refine z_iload CX dL_kept_488 rfl ?_
        refine z_lload CX dL_kept_490 rfl ?_
        refine z_ldc2 CX (v := 2) dL_kept_492 (wa_mem 780 (by decide +kernel) rfl) ?_
        refine z_lcmp CX dL_kept_495 ?_
        refine z_if_ne CX 503 dL_kept_496 (by decide) (fun _ => ?_) (fun q9 => absurd q9 (fun z9 => absurd ((lcE (a := 0) (b := 2) (by omega) (by omega)).mp z9) (by omega)))
        refine z_iconst CX (v := 0) dL_kept_503 (by decide) ?_
        refine z_iadd CX dL_kept_504 ?_
        refine z_stk (congrArg (fun q9 => [Value.int q9]) (cS 2 (by omega))) ?_
        refine z_istore CX dL_kept_505 (by decide) ?_
        refine z_iload CX dL_kept_507 rfl ?_
        refine z_lload CX dL_kept_509 rfl ?_
        refine z_ldc2 CX (v := 3) dL_kept_511 (wa_mem 775 (by decide +kernel) rfl) ?_
        refine z_lcmp CX dL_kept_514 ?_
        refine z_if_ne CX 522 dL_kept_515 (by decide) (fun _ => ?_) (fun q9 => absurd q9 (fun z9 => absurd ((lcE (a := 0) (b := 3) (by omega) (by omega)).mp z9) (by omega)))
        refine z_iconst CX (v := 0) dL_kept_522 (by decide) ?_
        refine z_iadd CX dL_kept_523 ?_
        refine z_stk (congrArg (fun q9 => [Value.int q9]) (cS 3 (by omega))) ?_
        refine z_istore CX dL_kept_524 (by decide) ?_
        refine z_iinc CX (v := (nI (n9 + 1))) dL_kept_526 rfl (nI_1 _) (by decide) ?_
        refine z_goto CX 243 dL_kept_529 (by decide) ?_
        refine z_loc [(0, .ref (wB w + k)), (1, .int 1), (2, .long (lN (smN dr (n9 + 1)))), (4, .long (lN (smN wn (n9 + 1)))), (6, .int (nI (cntS (zsF σ) (n9 + 1) 1))), (7, .int (nI (cntS (zsF σ) (n9 + 1) 2))), (8, .int (nI (cntS (zsF σ) (n9 + 1) 3))), (9, .long (lN 0)), (11, .long (lN 0)), (13, .int (nI (n9 + 1)))] ⟨rfl, rfl, rfl, rfl, rfl, rfl, rfl, rfl, rfl, rfl, trivial⟩ ?_
        exact (ih (n9 + 1) (by omega))
      · subst q
        obtain ⟨g, cc, g1, g2, g3, g4⟩ := hin (by omega)
        have hgL := gLN_e hGG g1
        rw [l2l g3 (by omega)] at qb4
        rw [l2l g4 (by omega)] at qb5
        have qg0 := q_gutterOf (l := l) (j := g) (i := 0) hI hσ g1 (by omega)
        rw [l2l (show gtV (zsF σ) g 0 = nI (gLN (zsF σ) g) from hgL.1) (by omega)] at qg0
        rw [l2m (hnp (by omega))] at qb7
        refine z_iload CX dL_kept_243 rfl ?_
        refine z_i2l CX dL_kept_245 (nI_l (by omega)) ?_
        refine z_aload_n CX 0 dL_kept_246 rfl rfl ?_
        refine z_iconst CX (v := 1) dL_kept_247 (by decide) ?_
        refine z_callSw CX hN dL_kept_248 csw_103 qa1 rfl rfl (Nat.le_of_ble_eq_true rfl) ⟨Nat.le_of_ble_eq_true rfl, Nat.le_of_ble_eq_true rfl⟩ ⟨Nat.le_of_ble_eq_true rfl, Nat.le_of_ble_eq_true rfl⟩ ?_
        refine z_lcmp CX dL_kept_251 ?_
        refine z_if_ge CX 532 dL_kept_252 (by decide) (fun q9 => absurd q9 (fun z9 => absurd ((lcGe (by omega) (by omega)).mp z9) (by omega))) (fun _ => ?_)
        refine z_iload_n CX 1 dL_kept_255 rfl rfl ?_
        refine z_if_eq CX 532 dL_kept_256 (by decide) (fun q9 => absurd q9 (by decide)) (fun _ => ?_)
        refine z_aload_n CX 0 dL_kept_259 rfl rfl ?_
        refine z_iload CX dL_kept_260 rfl ?_
        refine z_iconst CX (v := 3) dL_kept_262 (by decide) ?_
        refine z_callSw CX hN dL_kept_263 csw_115 qb3 rfl rfl (Nat.le_of_ble_eq_true rfl) ⟨Nat.le_of_ble_eq_true rfl, Nat.le_of_ble_eq_true rfl⟩ ⟨Nat.le_of_ble_eq_true rfl, Nat.le_of_ble_eq_true rfl⟩ ?_
        refine z_lstore CX dL_kept_266 (by decide) ?_
        refine z_lload CX dL_kept_268 rfl ?_
        refine z_lconst CX (v := 1) dL_kept_270 (by decide) ?_
        refine z_lcmp CX dL_kept_271 ?_
        refine z_if_eq CX 284 dL_kept_272 (by decide) (fun _ => ?_) (fun q9 => absurd ((lcE (a := 1) (b := 1) (by omega) (by omega)).mpr rfl) q9)
        refine z_iconst CX (v := 1) dL_kept_284 (by decide) ?_
        refine z_goto CX 289 dL_kept_285 (by decide) ?_
        refine z_istore CX dL_kept_289 (by decide) ?_
        refine z_aload_n CX 0 dL_kept_291 rfl rfl ?_
        refine z_iload CX dL_kept_292 rfl ?_
        refine z_iconst CX (v := 4) dL_kept_294 (by decide) ?_
        refine z_callSw CX hN dL_kept_295 csw_115 qb4 rfl rfl (Nat.le_of_ble_eq_true rfl) ⟨Nat.le_of_ble_eq_true rfl, Nat.le_of_ble_eq_true rfl⟩ ⟨Nat.le_of_ble_eq_true rfl, Nat.le_of_ble_eq_true rfl⟩ ?_
        refine z_l2i CX dL_kept_298 (lN_32) ?_
        refine z_istore CX dL_kept_299 (by decide) ?_
        refine z_lload CX dL_kept_301 rfl ?_
        refine z_lconst CX (v := 0) dL_kept_303 (by decide) ?_
        refine z_ldc2 CX (v := 4) dL_kept_304 (wa_mem 776 (by decide +kernel) rfl) ?_
        refine z_callS1 CX dL_kept_307 cs_L_168 (c_in9 _ _ _) rfl rfl (Nat.le_of_ble_eq_true rfl) ⟨Nat.le_of_ble_eq_true rfl, Nat.le_of_ble_eq_true rfl⟩ ⟨Nat.le_refl _, Nat.le_refl _⟩ ?_
        refine z_if_eq CX 445 dL_kept_310 (by decide) (fun q9 => absurd q9 (inL (v := 1) (a := 0) (b := 4) (by omega) (by omega) (by omega))) (fun _ => ?_)
        refine z_iload CX dL_kept_313 rfl ?_
        refine z_if_eq CX 361 dL_kept_315 (by decide) (fun q9 => absurd q9 (by decide)) (fun _ => ?_)
        refine z_iload CX dL_kept_318 rfl ?_
        refine z_i2l CX dL_kept_320 (nI_l (by omega)) ?_
        refine z_lconst CX (v := 0) dL_kept_321 (by decide) ?_
        refine z_aload_n CX 0 dL_kept_322 rfl rfl ?_
        refine z_iconst CX (v := 0) dL_kept_323 (by decide) ?_
        refine z_callSw CX hN dL_kept_324 csw_103 qa0 rfl rfl (Nat.le_of_ble_eq_true rfl) ⟨Nat.le_of_ble_eq_true rfl, Nat.le_of_ble_eq_true rfl⟩ ⟨Nat.le_of_ble_eq_true rfl, Nat.le_of_ble_eq_true rfl⟩ ?_
        refine z_lconst CX (v := 1) dL_kept_327 (by decide) ?_
        refine z_lsub CX dL_kept_328 ?_
        refine z_callS1 CX dL_kept_329 cs_L_168 (c_in9 _ _ _) rfl rfl (Nat.le_of_ble_eq_true rfl) ⟨Nat.le_of_ble_eq_true rfl, Nat.le_of_ble_eq_true rfl⟩ ⟨Nat.le_refl _, Nat.le_refl _⟩ ?_
        refine z_if_eq CX 445 dL_kept_332 (by decide) (fun q9 => absurd q9 (inM (a := 0) (by omega) (by omega) (by omega))) (fun _ => ?_)
        refine z_aload_n CX 0 dL_kept_335 rfl rfl ?_
        refine z_iload CX dL_kept_336 rfl ?_
        refine z_iconst CX (v := 5) dL_kept_338 (by decide) ?_
        refine z_callSw CX hN dL_kept_339 csw_115 qb5 rfl rfl (Nat.le_of_ble_eq_true rfl) ⟨Nat.le_of_ble_eq_true rfl, Nat.le_of_ble_eq_true rfl⟩ ⟨Nat.le_of_ble_eq_true rfl, Nat.le_of_ble_eq_true rfl⟩ ?_
        refine z_lconst CX (v := 0) dL_kept_342 (by decide) ?_
        refine z_aload_n CX 0 dL_kept_343 rfl rfl ?_
        refine z_iload CX dL_kept_344 rfl ?_
        refine z_iconst CX (v := 0) dL_kept_346 (by decide) ?_
        refine z_callSw CX hN dL_kept_347 csw_112 qg0 rfl rfl (Nat.le_of_ble_eq_true rfl) ⟨Nat.le_of_ble_eq_true rfl, Nat.le_of_ble_eq_true rfl⟩ ⟨Nat.le_of_ble_eq_true rfl, Nat.le_of_ble_eq_true rfl⟩ ?_
        refine z_lconst CX (v := 1) dL_kept_350 (by decide) ?_
        refine z_lsub CX dL_kept_351 ?_
        refine z_callS1 CX dL_kept_352 cs_L_168 (c_in9 _ _ _) rfl rfl (Nat.le_of_ble_eq_true rfl) ⟨Nat.le_of_ble_eq_true rfl, Nat.le_of_ble_eq_true rfl⟩ ⟨Nat.le_refl _, Nat.le_refl _⟩ ?_
        refine z_if_eq CX 445 dL_kept_355 (by decide) (fun q9 => absurd q9 (inM (a := 0) (by omega) (by omega) (by omega))) (fun _ => ?_)
        refine z_goto CX 381 dL_kept_358 (by decide) ?_
        refine z_lload CX dL_kept_381 rfl ?_
        refine z_ldc2 CX (v := 2) dL_kept_383 (wa_mem 780 (by decide +kernel) rfl) ?_
        refine z_lcmp CX dL_kept_386 ?_
        refine z_if_ne CX 406 dL_kept_387 (by decide) (fun _ => ?_) (fun q9 => absurd q9 (fun z9 => absurd ((lcE (a := 1) (b := 2) (by omega) (by omega)).mp z9) (by omega)))
        refine z_aload_n CX 0 dL_kept_406 rfl rfl ?_
        refine z_iload CX dL_kept_407 rfl ?_
        refine z_bipush CX (v := 7) dL_kept_409 (by decide) ?_
        refine z_callSw CX hN dL_kept_411 csw_115 qb7 rfl rfl (Nat.le_of_ble_eq_true rfl) ⟨Nat.le_of_ble_eq_true rfl, Nat.le_of_ble_eq_true rfl⟩ ⟨Nat.le_of_ble_eq_true rfl, Nat.le_of_ble_eq_true rfl⟩ ?_
        refine z_ldc2 CX (v := -1) dL_kept_414 (wa_mem 774 (by decide +kernel) rfl) ?_
        refine z_lcmp CX dL_kept_417 ?_
        refine z_if_ne CX 445 dL_kept_418 (by decide) (fun q9 => absurd q9 (fun z9 => z9 ((lg_cmp_eq _ _).mpr rfl))) (fun _ => ?_)
        refine z_lload CX dL_kept_421 rfl ?_
        refine z_ldc2 CX (v := 2) dL_kept_423 (wa_mem 780 (by decide +kernel) rfl) ?_
        refine z_lcmp CX dL_kept_426 ?_
        refine z_if_ne CX 441 dL_kept_427 (by decide) (fun _ => ?_) (fun q9 => absurd q9 (fun z9 => absurd ((lcE (a := 1) (b := 2) (by omega) (by omega)).mp z9) (by omega)))
        refine z_iconst CX (v := 1) dL_kept_441 (by decide) ?_
        refine z_goto CX 446 dL_kept_442 (by decide) ?_
        refine z_istore_n CX 1 dL_kept_446 rfl (by decide) ?_
        refine z_lload_n CX 2 dL_kept_447 rfl rfl ?_
        refine z_aload_n CX 0 dL_kept_448 rfl rfl ?_
        refine z_iload CX dL_kept_449 rfl ?_
        refine z_bipush CX (v := 9) dL_kept_451 (by decide) ?_
        refine z_callSw CX hN dL_kept_453 csw_115 qb9 rfl rfl (Nat.le_of_ble_eq_true rfl) ⟨Nat.le_of_ble_eq_true rfl, Nat.le_of_ble_eq_true rfl⟩ ⟨Nat.le_of_ble_eq_true rfl, Nat.le_of_ble_eq_true rfl⟩ ?_
        refine z_ladd CX dL_kept_456 ?_
        refine z_stk (congrArg (fun q9 => [Value.long q9]) s2) ?_
        refine z_lstore_n CX 2 dL_kept_457 rfl (by decide) ?_
        refine z_lload CX dL_kept_458 rfl ?_
        refine z_aload_n CX 0 dL_kept_460 rfl rfl ?_
        refine z_iload CX dL_kept_461 rfl ?_
        refine z_bipush CX (v := 8) dL_kept_463 (by decide) ?_
        refine z_callSw CX hN dL_kept_465 csw_115 qb8 rfl rfl (Nat.le_of_ble_eq_true rfl) ⟨Nat.le_of_ble_eq_true rfl, Nat.le_of_ble_eq_true rfl⟩ ⟨Nat.le_of_ble_eq_true rfl, Nat.le_of_ble_eq_true rfl⟩ ?_
        refine z_ladd CX dL_kept_468 ?_
        refine z_stk (congrArg (fun q9 => [Value.long q9]) s4) ?_
        refine z_lstore CX dL_kept_469 (by decide) ?_
        refine z_iload CX dL_kept_471 rfl ?_
        refine z_lload CX dL_kept_473 rfl ?_
        refine z_lconst CX (v := 1) dL_kept_475 (by decide) ?_
        refine z_lcmp CX dL_kept_476 ?_
        refine z_if_ne CX 484 dL_kept_477 (by decide) (fun q9 => absurd q9 (fun z9 => z9 ((lcE (a := 1) (b := 1) (by omega) (by omega)).mpr rfl))) (fun _ => ?_)
        refine z_iconst CX (v := 1) dL_kept_480 (by decide) ?_
        refine z_goto CX 485 dL_kept_481 (by decide) ?_
        refine z_iadd CX dL_kept_485 ?_
        refine z_stk (congrArg (fun q9 => [Value.int q9]) (cS 1 (by omega))) ?_
        refine z_istore CX dL_kept_486 (by decide) ?_
        refine z_iload CX dL_kept_488 rfl ?_
        refine z_lload CX dL_kept_490 rfl ?_
        refine z_ldc2 CX (v := 2) dL_kept_492 (wa_mem 780 (by decide +kernel) rfl) ?_
        refine z_lcmp CX dL_kept_495 ?_
        refine z_if_ne CX 503 dL_kept_496 (by decide) (fun _ => ?_) (fun q9 => absurd q9 (fun z9 => absurd ((lcE (a := 1) (b := 2) (by omega) (by omega)).mp z9) (by omega)))
        refine z_iconst CX (v := 0) dL_kept_503 (by decide) ?_
        refine z_iadd CX dL_kept_504 ?_
        refine z_stk (congrArg (fun q9 => [Value.int q9]) (cS 2 (by omega))) ?_
        refine z_istore CX dL_kept_505 (by decide) ?_
        refine z_iload CX dL_kept_507 rfl ?_
        refine z_lload CX dL_kept_509 rfl ?_
        refine z_ldc2 CX (v := 3) dL_kept_511 (wa_mem 775 (by decide +kernel) rfl) ?_
        refine z_lcmp CX dL_kept_514 ?_
        refine z_if_ne CX 522 dL_kept_515 (by decide) (fun _ => ?_) (fun q9 => absurd q9 (fun z9 => absurd ((lcE (a := 1) (b := 3) (by omega) (by omega)).mp z9) (by omega)))
        refine z_iconst CX (v := 0) dL_kept_522 (by decide) ?_
        refine z_iadd CX dL_kept_523 ?_
        refine z_stk (congrArg (fun q9 => [Value.int q9]) (cS 3 (by omega))) ?_
        refine z_istore CX dL_kept_524 (by decide) ?_
        refine z_iinc CX (v := (nI (n9 + 1))) dL_kept_526 rfl (nI_1 _) (by decide) ?_
        refine z_goto CX 243 dL_kept_529 (by decide) ?_
        refine z_loc [(0, .ref (wB w + k)), (1, .int 1), (2, .long (lN (smN dr (n9 + 1)))), (4, .long (lN (smN wn (n9 + 1)))), (6, .int (nI (cntS (zsF σ) (n9 + 1) 1))), (7, .int (nI (cntS (zsF σ) (n9 + 1) 2))), (8, .int (nI (cntS (zsF σ) (n9 + 1) 3))), (9, .long (lN 0)), (11, .long (lN 0)), (13, .int (nI (n9 + 1)))] ⟨rfl, rfl, rfl, rfl, rfl, rfl, rfl, rfl, rfl, rfl, trivial⟩ ?_
        exact (ih (n9 + 1) (by omega))
      · subst q
        obtain ⟨g3, g4⟩ := hout (by omega)
        rw [l2m g3] at qb4
        rw [l2m g4] at qb5
        obtain ⟨x7, y1, y2, y3⟩ := hpl rfl
        rw [l2l y3 (by omega)] at qb7
        have qa9 := q_about (l := l) (i := 9) hI hσ (by omega)
        rw [l2l (show abV (zsF σ) 9 = nI 1 from hud rfl) (by omega)] at qa9
        refine z_iload CX dL_kept_243 rfl ?_
        refine z_i2l CX dL_kept_245 (nI_l (by omega)) ?_
        refine z_aload_n CX 0 dL_kept_246 rfl rfl ?_
        refine z_iconst CX (v := 1) dL_kept_247 (by decide) ?_
        refine z_callSw CX hN dL_kept_248 csw_103 qa1 rfl rfl (Nat.le_of_ble_eq_true rfl) ⟨Nat.le_of_ble_eq_true rfl, Nat.le_of_ble_eq_true rfl⟩ ⟨Nat.le_of_ble_eq_true rfl, Nat.le_of_ble_eq_true rfl⟩ ?_
        refine z_lcmp CX dL_kept_251 ?_
        refine z_if_ge CX 532 dL_kept_252 (by decide) (fun q9 => absurd q9 (fun z9 => absurd ((lcGe (by omega) (by omega)).mp z9) (by omega))) (fun _ => ?_)
        refine z_iload_n CX 1 dL_kept_255 rfl rfl ?_
        refine z_if_eq CX 532 dL_kept_256 (by decide) (fun q9 => absurd q9 (by decide)) (fun _ => ?_)
        refine z_aload_n CX 0 dL_kept_259 rfl rfl ?_
        refine z_iload CX dL_kept_260 rfl ?_
        refine z_iconst CX (v := 3) dL_kept_262 (by decide) ?_
        refine z_callSw CX hN dL_kept_263 csw_115 qb3 rfl rfl (Nat.le_of_ble_eq_true rfl) ⟨Nat.le_of_ble_eq_true rfl, Nat.le_of_ble_eq_true rfl⟩ ⟨Nat.le_of_ble_eq_true rfl, Nat.le_of_ble_eq_true rfl⟩ ?_
        refine z_lstore CX dL_kept_266 (by decide) ?_
        refine z_lload CX dL_kept_268 rfl ?_
        refine z_lconst CX (v := 1) dL_kept_270 (by decide) ?_
        refine z_lcmp CX dL_kept_271 ?_
        refine z_if_eq CX 284 dL_kept_272 (by decide) (fun q9 => absurd q9 (fun z9 => absurd ((lcE (a := 2) (b := 1) (by omega) (by omega)).mp z9) (by omega))) (fun _ => ?_)
        refine z_lload CX dL_kept_275 rfl ?_
        refine z_ldc2 CX (v := 3) dL_kept_277 (wa_mem 775 (by decide +kernel) rfl) ?_
        refine z_lcmp CX dL_kept_280 ?_
        refine z_if_ne CX 288 dL_kept_281 (by decide) (fun _ => ?_) (fun q9 => absurd q9 (fun z9 => absurd ((lcE (a := 2) (b := 3) (by omega) (by omega)).mp z9) (by omega)))
        refine z_iconst CX (v := 0) dL_kept_288 (by decide) ?_
        refine z_istore CX dL_kept_289 (by decide) ?_
        refine z_aload_n CX 0 dL_kept_291 rfl rfl ?_
        refine z_iload CX dL_kept_292 rfl ?_
        refine z_iconst CX (v := 4) dL_kept_294 (by decide) ?_
        refine z_callSw CX hN dL_kept_295 csw_115 qb4 rfl rfl (Nat.le_of_ble_eq_true rfl) ⟨Nat.le_of_ble_eq_true rfl, Nat.le_of_ble_eq_true rfl⟩ ⟨Nat.le_of_ble_eq_true rfl, Nat.le_of_ble_eq_true rfl⟩ ?_
        refine z_l2i CX dL_kept_298 (m1_32) ?_
        refine z_istore CX dL_kept_299 (by decide) ?_
        refine z_lload CX dL_kept_301 rfl ?_
        refine z_lconst CX (v := 0) dL_kept_303 (by decide) ?_
        refine z_ldc2 CX (v := 4) dL_kept_304 (wa_mem 776 (by decide +kernel) rfl) ?_
        refine z_callS1 CX dL_kept_307 cs_L_168 (c_in9 _ _ _) rfl rfl (Nat.le_of_ble_eq_true rfl) ⟨Nat.le_of_ble_eq_true rfl, Nat.le_of_ble_eq_true rfl⟩ ⟨Nat.le_refl _, Nat.le_refl _⟩ ?_
        refine z_if_eq CX 445 dL_kept_310 (by decide) (fun q9 => absurd q9 (inL (v := 2) (a := 0) (b := 4) (by omega) (by omega) (by omega))) (fun _ => ?_)
        refine z_iload CX dL_kept_313 rfl ?_
        refine z_if_eq CX 361 dL_kept_315 (by decide) (fun _ => ?_) (fun q9 => absurd rfl q9)
        refine z_iload CX dL_kept_361 rfl ?_
        refine z_iconst CX (v := (-1 : Int32)) dL_kept_363 (by decide) ?_
        refine z_icmp_ne CX 445 dL_kept_364 (by decide) (fun q9 => absurd q9 (fun z9 => z9 rfl)) (fun _ => ?_)
        refine z_aload_n CX 0 dL_kept_367 rfl rfl ?_
        refine z_iload CX dL_kept_368 rfl ?_
        refine z_iconst CX (v := 5) dL_kept_370 (by decide) ?_
        refine z_callSw CX hN dL_kept_371 csw_115 qb5 rfl rfl (Nat.le_of_ble_eq_true rfl) ⟨Nat.le_of_ble_eq_true rfl, Nat.le_of_ble_eq_true rfl⟩ ⟨Nat.le_of_ble_eq_true rfl, Nat.le_of_ble_eq_true rfl⟩ ?_
        refine z_ldc2 CX (v := -1) dL_kept_374 (wa_mem 774 (by decide +kernel) rfl) ?_
        refine z_lcmp CX dL_kept_377 ?_
        refine z_if_ne CX 445 dL_kept_378 (by decide) (fun q9 => absurd q9 (fun z9 => z9 ((lg_cmp_eq _ _).mpr rfl))) (fun _ => ?_)
        refine z_lload CX dL_kept_381 rfl ?_
        refine z_ldc2 CX (v := 2) dL_kept_383 (wa_mem 780 (by decide +kernel) rfl) ?_
        refine z_lcmp CX dL_kept_386 ?_
        refine z_if_ne CX 406 dL_kept_387 (by decide) (fun q9 => absurd q9 (fun z9 => z9 ((lcE (a := 2) (b := 2) (by omega) (by omega)).mpr rfl))) (fun _ => ?_)
        refine z_aload_n CX 0 dL_kept_390 rfl rfl ?_
        refine z_iload CX dL_kept_391 rfl ?_
        refine z_bipush CX (v := 7) dL_kept_393 (by decide) ?_
        refine z_callSw CX hN dL_kept_395 csw_115 qb7 rfl rfl (Nat.le_of_ble_eq_true rfl) ⟨Nat.le_of_ble_eq_true rfl, Nat.le_of_ble_eq_true rfl⟩ ⟨Nat.le_of_ble_eq_true rfl, Nat.le_of_ble_eq_true rfl⟩ ?_
        refine z_lconst CX (v := 1) dL_kept_398 (by decide) ?_
        refine z_lcmp CX dL_kept_399 ?_
        refine z_if_lt CX 445 dL_kept_400 (by decide) (fun q9 => absurd q9 (fun z9 => absurd ((lcLt (a := x7) (b := 1) (by omega) (by omega)).mp z9) (by omega))) (fun _ => ?_)
        refine z_goto CX 421 dL_kept_403 (by decide) ?_
        refine z_lload CX dL_kept_421 rfl ?_
        refine z_ldc2 CX (v := 2) dL_kept_423 (wa_mem 780 (by decide +kernel) rfl) ?_
        refine z_lcmp CX dL_kept_426 ?_
        refine z_if_ne CX 441 dL_kept_427 (by decide) (fun q9 => absurd q9 (fun z9 => z9 ((lcE (a := 2) (b := 2) (by omega) (by omega)).mpr rfl))) (fun _ => ?_)
        refine z_aload_n CX 0 dL_kept_430 rfl rfl ?_
        refine z_bipush CX (v := 9) dL_kept_431 (by decide) ?_
        refine z_callSw CX hN dL_kept_433 csw_103 qa9 rfl rfl (Nat.le_of_ble_eq_true rfl) ⟨Nat.le_of_ble_eq_true rfl, Nat.le_of_ble_eq_true rfl⟩ ⟨Nat.le_of_ble_eq_true rfl, Nat.le_of_ble_eq_true rfl⟩ ?_
        refine z_lconst CX (v := 1) dL_kept_436 (by decide) ?_
        refine z_lcmp CX dL_kept_437 ?_
        refine z_if_ne CX 445 dL_kept_438 (by decide) (fun q9 => absurd q9 (fun z9 => z9 ((lcE (a := 1) (b := 1) (by omega) (by omega)).mpr rfl))) (fun _ => ?_)
        refine z_iconst CX (v := 1) dL_kept_441 (by decide) ?_
        refine z_goto CX 446 dL_kept_442 (by decide) ?_
        refine z_istore_n CX 1 dL_kept_446 rfl (by decide) ?_
        refine z_lload_n CX 2 dL_kept_447 rfl rfl ?_
        refine z_aload_n CX 0 dL_kept_448 rfl rfl ?_
        refine z_iload CX dL_kept_449 rfl ?_
        refine z_bipush CX (v := 9) dL_kept_451 (by decide) ?_
        refine z_callSw CX hN dL_kept_453 csw_115 qb9 rfl rfl (Nat.le_of_ble_eq_true rfl) ⟨Nat.le_of_ble_eq_true rfl, Nat.le_of_ble_eq_true rfl⟩ ⟨Nat.le_of_ble_eq_true rfl, Nat.le_of_ble_eq_true rfl⟩ ?_
        refine z_ladd CX dL_kept_456 ?_
        refine z_stk (congrArg (fun q9 => [Value.long q9]) s2) ?_
        refine z_lstore_n CX 2 dL_kept_457 rfl (by decide) ?_
        refine z_lload CX dL_kept_458 rfl ?_
        refine z_aload_n CX 0 dL_kept_460 rfl rfl ?_
        refine z_iload CX dL_kept_461 rfl ?_
        refine z_bipush CX (v := 8) dL_kept_463 (by decide) ?_
        refine z_callSw CX hN dL_kept_465 csw_115 qb8 rfl rfl (Nat.le_of_ble_eq_true rfl) ⟨Nat.le_of_ble_eq_true rfl, Nat.le_of_ble_eq_true rfl⟩ ⟨Nat.le_of_ble_eq_true rfl, Nat.le_of_ble_eq_true rfl⟩ ?_
        refine z_ladd CX dL_kept_468 ?_
        refine z_stk (congrArg (fun q9 => [Value.long q9]) s4) ?_
        refine z_lstore CX dL_kept_469 (by decide) ?_
        refine z_iload CX dL_kept_471 rfl ?_
        refine z_lload CX dL_kept_473 rfl ?_
        refine z_lconst CX (v := 1) dL_kept_475 (by decide) ?_
        refine z_lcmp CX dL_kept_476 ?_
        refine z_if_ne CX 484 dL_kept_477 (by decide) (fun _ => ?_) (fun q9 => absurd q9 (fun z9 => absurd ((lcE (a := 2) (b := 1) (by omega) (by omega)).mp z9) (by omega)))
        refine z_iconst CX (v := 0) dL_kept_484 (by decide) ?_
        refine z_iadd CX dL_kept_485 ?_
        refine z_stk (congrArg (fun q9 => [Value.int q9]) (cS 1 (by omega))) ?_
        refine z_istore CX dL_kept_486 (by decide) ?_
        refine z_iload CX dL_kept_488 rfl ?_
        refine z_lload CX dL_kept_490 rfl ?_
        refine z_ldc2 CX (v := 2) dL_kept_492 (wa_mem 780 (by decide +kernel) rfl) ?_
        refine z_lcmp CX dL_kept_495 ?_
        refine z_if_ne CX 503 dL_kept_496 (by decide) (fun q9 => absurd q9 (fun z9 => z9 ((lcE (a := 2) (b := 2) (by omega) (by omega)).mpr rfl))) (fun _ => ?_)
        refine z_iconst CX (v := 1) dL_kept_499 (by decide) ?_
        refine z_goto CX 504 dL_kept_500 (by decide) ?_
        refine z_iadd CX dL_kept_504 ?_
        refine z_stk (congrArg (fun q9 => [Value.int q9]) (cS 2 (by omega))) ?_
        refine z_istore CX dL_kept_505 (by decide) ?_
        refine z_iload CX dL_kept_507 rfl ?_
        refine z_lload CX dL_kept_509 rfl ?_
        refine z_ldc2 CX (v := 3) dL_kept_511 (wa_mem 775 (by decide +kernel) rfl) ?_
        refine z_lcmp CX dL_kept_514 ?_
        refine z_if_ne CX 522 dL_kept_515 (by decide) (fun _ => ?_) (fun q9 => absurd q9 (fun z9 => absurd ((lcE (a := 2) (b := 3) (by omega) (by omega)).mp z9) (by omega)))
        refine z_iconst CX (v := 0) dL_kept_522 (by decide) ?_
        refine z_iadd CX dL_kept_523 ?_
        refine z_stk (congrArg (fun q9 => [Value.int q9]) (cS 3 (by omega))) ?_
        refine z_istore CX dL_kept_524 (by decide) ?_
        refine z_iinc CX (v := (nI (n9 + 1))) dL_kept_526 rfl (nI_1 _) (by decide) ?_
        refine z_goto CX 243 dL_kept_529 (by decide) ?_
        refine z_loc [(0, .ref (wB w + k)), (1, .int 1), (2, .long (lN (smN dr (n9 + 1)))), (4, .long (lN (smN wn (n9 + 1)))), (6, .int (nI (cntS (zsF σ) (n9 + 1) 1))), (7, .int (nI (cntS (zsF σ) (n9 + 1) 2))), (8, .int (nI (cntS (zsF σ) (n9 + 1) 3))), (9, .long (lN 0)), (11, .long (lN 0)), (13, .int (nI (n9 + 1)))] ⟨rfl, rfl, rfl, rfl, rfl, rfl, rfl, rfl, rfl, rfl, trivial⟩ ?_
        exact (ih (n9 + 1) (by omega))
      · subst q
        obtain ⟨g, cc, g1, g2, g3, g4⟩ := hin (by omega)
        have hgL := gLN_e hGG g1
        rw [l2l g3 (by omega)] at qb4
        rw [l2l g4 (by omega)] at qb5
        have qg0 := q_gutterOf (l := l) (j := g) (i := 0) hI hσ g1 (by omega)
        rw [l2l (show gtV (zsF σ) g 0 = nI (gLN (zsF σ) g) from hgL.1) (by omega)] at qg0
        rw [l2m (hnp (by omega))] at qb7
        refine z_iload CX dL_kept_243 rfl ?_
        refine z_i2l CX dL_kept_245 (nI_l (by omega)) ?_
        refine z_aload_n CX 0 dL_kept_246 rfl rfl ?_
        refine z_iconst CX (v := 1) dL_kept_247 (by decide) ?_
        refine z_callSw CX hN dL_kept_248 csw_103 qa1 rfl rfl (Nat.le_of_ble_eq_true rfl) ⟨Nat.le_of_ble_eq_true rfl, Nat.le_of_ble_eq_true rfl⟩ ⟨Nat.le_of_ble_eq_true rfl, Nat.le_of_ble_eq_true rfl⟩ ?_
        refine z_lcmp CX dL_kept_251 ?_
        refine z_if_ge CX 532 dL_kept_252 (by decide) (fun q9 => absurd q9 (fun z9 => absurd ((lcGe (by omega) (by omega)).mp z9) (by omega))) (fun _ => ?_)
        refine z_iload_n CX 1 dL_kept_255 rfl rfl ?_
        refine z_if_eq CX 532 dL_kept_256 (by decide) (fun q9 => absurd q9 (by decide)) (fun _ => ?_)
        refine z_aload_n CX 0 dL_kept_259 rfl rfl ?_
        refine z_iload CX dL_kept_260 rfl ?_
        refine z_iconst CX (v := 3) dL_kept_262 (by decide) ?_
        refine z_callSw CX hN dL_kept_263 csw_115 qb3 rfl rfl (Nat.le_of_ble_eq_true rfl) ⟨Nat.le_of_ble_eq_true rfl, Nat.le_of_ble_eq_true rfl⟩ ⟨Nat.le_of_ble_eq_true rfl, Nat.le_of_ble_eq_true rfl⟩ ?_
        refine z_lstore CX dL_kept_266 (by decide) ?_
        refine z_lload CX dL_kept_268 rfl ?_
        refine z_lconst CX (v := 1) dL_kept_270 (by decide) ?_
        refine z_lcmp CX dL_kept_271 ?_
        refine z_if_eq CX 284 dL_kept_272 (by decide) (fun q9 => absurd q9 (fun z9 => absurd ((lcE (a := 3) (b := 1) (by omega) (by omega)).mp z9) (by omega))) (fun _ => ?_)
        refine z_lload CX dL_kept_275 rfl ?_
        refine z_ldc2 CX (v := 3) dL_kept_277 (wa_mem 775 (by decide +kernel) rfl) ?_
        refine z_lcmp CX dL_kept_280 ?_
        refine z_if_ne CX 288 dL_kept_281 (by decide) (fun q9 => absurd q9 (fun z9 => z9 ((lcE (a := 3) (b := 3) (by omega) (by omega)).mpr rfl))) (fun _ => ?_)
        refine z_iconst CX (v := 1) dL_kept_284 (by decide) ?_
        refine z_goto CX 289 dL_kept_285 (by decide) ?_
        refine z_istore CX dL_kept_289 (by decide) ?_
        refine z_aload_n CX 0 dL_kept_291 rfl rfl ?_
        refine z_iload CX dL_kept_292 rfl ?_
        refine z_iconst CX (v := 4) dL_kept_294 (by decide) ?_
        refine z_callSw CX hN dL_kept_295 csw_115 qb4 rfl rfl (Nat.le_of_ble_eq_true rfl) ⟨Nat.le_of_ble_eq_true rfl, Nat.le_of_ble_eq_true rfl⟩ ⟨Nat.le_of_ble_eq_true rfl, Nat.le_of_ble_eq_true rfl⟩ ?_
        refine z_l2i CX dL_kept_298 (lN_32) ?_
        refine z_istore CX dL_kept_299 (by decide) ?_
        refine z_lload CX dL_kept_301 rfl ?_
        refine z_lconst CX (v := 0) dL_kept_303 (by decide) ?_
        refine z_ldc2 CX (v := 4) dL_kept_304 (wa_mem 776 (by decide +kernel) rfl) ?_
        refine z_callS1 CX dL_kept_307 cs_L_168 (c_in9 _ _ _) rfl rfl (Nat.le_of_ble_eq_true rfl) ⟨Nat.le_of_ble_eq_true rfl, Nat.le_of_ble_eq_true rfl⟩ ⟨Nat.le_refl _, Nat.le_refl _⟩ ?_
        refine z_if_eq CX 445 dL_kept_310 (by decide) (fun q9 => absurd q9 (inL (v := 3) (a := 0) (b := 4) (by omega) (by omega) (by omega))) (fun _ => ?_)
        refine z_iload CX dL_kept_313 rfl ?_
        refine z_if_eq CX 361 dL_kept_315 (by decide) (fun q9 => absurd q9 (by decide)) (fun _ => ?_)
        refine z_iload CX dL_kept_318 rfl ?_
        refine z_i2l CX dL_kept_320 (nI_l (by omega)) ?_
        refine z_lconst CX (v := 0) dL_kept_321 (by decide) ?_
        refine z_aload_n CX 0 dL_kept_322 rfl rfl ?_
        refine z_iconst CX (v := 0) dL_kept_323 (by decide) ?_
        refine z_callSw CX hN dL_kept_324 csw_103 qa0 rfl rfl (Nat.le_of_ble_eq_true rfl) ⟨Nat.le_of_ble_eq_true rfl, Nat.le_of_ble_eq_true rfl⟩ ⟨Nat.le_of_ble_eq_true rfl, Nat.le_of_ble_eq_true rfl⟩ ?_
        refine z_lconst CX (v := 1) dL_kept_327 (by decide) ?_
        refine z_lsub CX dL_kept_328 ?_
        refine z_callS1 CX dL_kept_329 cs_L_168 (c_in9 _ _ _) rfl rfl (Nat.le_of_ble_eq_true rfl) ⟨Nat.le_of_ble_eq_true rfl, Nat.le_of_ble_eq_true rfl⟩ ⟨Nat.le_refl _, Nat.le_refl _⟩ ?_
        refine z_if_eq CX 445 dL_kept_332 (by decide) (fun q9 => absurd q9 (inM (a := 0) (by omega) (by omega) (by omega))) (fun _ => ?_)
        refine z_aload_n CX 0 dL_kept_335 rfl rfl ?_
        refine z_iload CX dL_kept_336 rfl ?_
        refine z_iconst CX (v := 5) dL_kept_338 (by decide) ?_
        refine z_callSw CX hN dL_kept_339 csw_115 qb5 rfl rfl (Nat.le_of_ble_eq_true rfl) ⟨Nat.le_of_ble_eq_true rfl, Nat.le_of_ble_eq_true rfl⟩ ⟨Nat.le_of_ble_eq_true rfl, Nat.le_of_ble_eq_true rfl⟩ ?_
        refine z_lconst CX (v := 0) dL_kept_342 (by decide) ?_
        refine z_aload_n CX 0 dL_kept_343 rfl rfl ?_
        refine z_iload CX dL_kept_344 rfl ?_
        refine z_iconst CX (v := 0) dL_kept_346 (by decide) ?_
        refine z_callSw CX hN dL_kept_347 csw_112 qg0 rfl rfl (Nat.le_of_ble_eq_true rfl) ⟨Nat.le_of_ble_eq_true rfl, Nat.le_of_ble_eq_true rfl⟩ ⟨Nat.le_of_ble_eq_true rfl, Nat.le_of_ble_eq_true rfl⟩ ?_
        refine z_lconst CX (v := 1) dL_kept_350 (by decide) ?_
        refine z_lsub CX dL_kept_351 ?_
        refine z_callS1 CX dL_kept_352 cs_L_168 (c_in9 _ _ _) rfl rfl (Nat.le_of_ble_eq_true rfl) ⟨Nat.le_of_ble_eq_true rfl, Nat.le_of_ble_eq_true rfl⟩ ⟨Nat.le_refl _, Nat.le_refl _⟩ ?_
        refine z_if_eq CX 445 dL_kept_355 (by decide) (fun q9 => absurd q9 (inM (a := 0) (by omega) (by omega) (by omega))) (fun _ => ?_)
        refine z_goto CX 381 dL_kept_358 (by decide) ?_
        refine z_lload CX dL_kept_381 rfl ?_
        refine z_ldc2 CX (v := 2) dL_kept_383 (wa_mem 780 (by decide +kernel) rfl) ?_
        refine z_lcmp CX dL_kept_386 ?_
        refine z_if_ne CX 406 dL_kept_387 (by decide) (fun _ => ?_) (fun q9 => absurd q9 (fun z9 => absurd ((lcE (a := 3) (b := 2) (by omega) (by omega)).mp z9) (by omega)))
        refine z_aload_n CX 0 dL_kept_406 rfl rfl ?_
        refine z_iload CX dL_kept_407 rfl ?_
        refine z_bipush CX (v := 7) dL_kept_409 (by decide) ?_
        refine z_callSw CX hN dL_kept_411 csw_115 qb7 rfl rfl (Nat.le_of_ble_eq_true rfl) ⟨Nat.le_of_ble_eq_true rfl, Nat.le_of_ble_eq_true rfl⟩ ⟨Nat.le_of_ble_eq_true rfl, Nat.le_of_ble_eq_true rfl⟩ ?_
        refine z_ldc2 CX (v := -1) dL_kept_414 (wa_mem 774 (by decide +kernel) rfl) ?_
        refine z_lcmp CX dL_kept_417 ?_
        refine z_if_ne CX 445 dL_kept_418 (by decide) (fun q9 => absurd q9 (fun z9 => z9 ((lg_cmp_eq _ _).mpr rfl))) (fun _ => ?_)
        refine z_lload CX dL_kept_421 rfl ?_
        refine z_ldc2 CX (v := 2) dL_kept_423 (wa_mem 780 (by decide +kernel) rfl) ?_
        refine z_lcmp CX dL_kept_426 ?_
        refine z_if_ne CX 441 dL_kept_427 (by decide) (fun _ => ?_) (fun q9 => absurd q9 (fun z9 => absurd ((lcE (a := 3) (b := 2) (by omega) (by omega)).mp z9) (by omega)))
        refine z_iconst CX (v := 1) dL_kept_441 (by decide) ?_
        refine z_goto CX 446 dL_kept_442 (by decide) ?_
        refine z_istore_n CX 1 dL_kept_446 rfl (by decide) ?_
        refine z_lload_n CX 2 dL_kept_447 rfl rfl ?_
        refine z_aload_n CX 0 dL_kept_448 rfl rfl ?_
        refine z_iload CX dL_kept_449 rfl ?_
        refine z_bipush CX (v := 9) dL_kept_451 (by decide) ?_
        refine z_callSw CX hN dL_kept_453 csw_115 qb9 rfl rfl (Nat.le_of_ble_eq_true rfl) ⟨Nat.le_of_ble_eq_true rfl, Nat.le_of_ble_eq_true rfl⟩ ⟨Nat.le_of_ble_eq_true rfl, Nat.le_of_ble_eq_true rfl⟩ ?_
        refine z_ladd CX dL_kept_456 ?_
        refine z_stk (congrArg (fun q9 => [Value.long q9]) s2) ?_
        refine z_lstore_n CX 2 dL_kept_457 rfl (by decide) ?_
        refine z_lload CX dL_kept_458 rfl ?_
        refine z_aload_n CX 0 dL_kept_460 rfl rfl ?_
        refine z_iload CX dL_kept_461 rfl ?_
        refine z_bipush CX (v := 8) dL_kept_463 (by decide) ?_
        refine z_callSw CX hN dL_kept_465 csw_115 qb8 rfl rfl (Nat.le_of_ble_eq_true rfl) ⟨Nat.le_of_ble_eq_true rfl, Nat.le_of_ble_eq_true rfl⟩ ⟨Nat.le_of_ble_eq_true rfl, Nat.le_of_ble_eq_true rfl⟩ ?_
        refine z_ladd CX dL_kept_468 ?_
        refine z_stk (congrArg (fun q9 => [Value.long q9]) s4) ?_
        refine z_lstore CX dL_kept_469 (by decide) ?_
        refine z_iload CX dL_kept_471 rfl ?_
        refine z_lload CX dL_kept_473 rfl ?_
        refine z_lconst CX (v := 1) dL_kept_475 (by decide) ?_
        refine z_lcmp CX dL_kept_476 ?_
        refine z_if_ne CX 484 dL_kept_477 (by decide) (fun _ => ?_) (fun q9 => absurd q9 (fun z9 => absurd ((lcE (a := 3) (b := 1) (by omega) (by omega)).mp z9) (by omega)))
        refine z_iconst CX (v := 0) dL_kept_484 (by decide) ?_
        refine z_iadd CX dL_kept_485 ?_
        refine z_stk (congrArg (fun q9 => [Value.int q9]) (cS 1 (by omega))) ?_
        refine z_istore CX dL_kept_486 (by decide) ?_
        refine z_iload CX dL_kept_488 rfl ?_
        refine z_lload CX dL_kept_490 rfl ?_
        refine z_ldc2 CX (v := 2) dL_kept_492 (wa_mem 780 (by decide +kernel) rfl) ?_
        refine z_lcmp CX dL_kept_495 ?_
        refine z_if_ne CX 503 dL_kept_496 (by decide) (fun _ => ?_) (fun q9 => absurd q9 (fun z9 => absurd ((lcE (a := 3) (b := 2) (by omega) (by omega)).mp z9) (by omega)))
        refine z_iconst CX (v := 0) dL_kept_503 (by decide) ?_
        refine z_iadd CX dL_kept_504 ?_
        refine z_stk (congrArg (fun q9 => [Value.int q9]) (cS 2 (by omega))) ?_
        refine z_istore CX dL_kept_505 (by decide) ?_
        refine z_iload CX dL_kept_507 rfl ?_
        refine z_lload CX dL_kept_509 rfl ?_
        refine z_ldc2 CX (v := 3) dL_kept_511 (wa_mem 775 (by decide +kernel) rfl) ?_
        refine z_lcmp CX dL_kept_514 ?_
        refine z_if_ne CX 522 dL_kept_515 (by decide) (fun q9 => absurd q9 (fun z9 => z9 ((lcE (a := 3) (b := 3) (by omega) (by omega)).mpr rfl))) (fun _ => ?_)
        refine z_iconst CX (v := 1) dL_kept_518 (by decide) ?_
        refine z_goto CX 523 dL_kept_519 (by decide) ?_
        refine z_iadd CX dL_kept_523 ?_
        refine z_stk (congrArg (fun q9 => [Value.int q9]) (cS 3 (by omega))) ?_
        refine z_istore CX dL_kept_524 (by decide) ?_
        refine z_iinc CX (v := (nI (n9 + 1))) dL_kept_526 rfl (nI_1 _) (by decide) ?_
        refine z_goto CX 243 dL_kept_529 (by decide) ?_
        refine z_loc [(0, .ref (wB w + k)), (1, .int 1), (2, .long (lN (smN dr (n9 + 1)))), (4, .long (lN (smN wn (n9 + 1)))), (6, .int (nI (cntS (zsF σ) (n9 + 1) 1))), (7, .int (nI (cntS (zsF σ) (n9 + 1) 2))), (8, .int (nI (cntS (zsF σ) (n9 + 1) 3))), (9, .long (lN 0)), (11, .long (lN 0)), (13, .int (nI (n9 + 1)))] ⟨rfl, rfl, rfl, rfl, rfl, rfl, rfl, rfl, rfl, rfl, trivial⟩ ?_
        exact (ih (n9 + 1) (by omega))
      · subst q
        obtain ⟨g3, g4⟩ := hout (by omega)
        rw [l2m g3] at qb4
        rw [l2m g4] at qb5
        rw [l2m (hnp (by omega))] at qb7
        refine z_iload CX dL_kept_243 rfl ?_
        refine z_i2l CX dL_kept_245 (nI_l (by omega)) ?_
        refine z_aload_n CX 0 dL_kept_246 rfl rfl ?_
        refine z_iconst CX (v := 1) dL_kept_247 (by decide) ?_
        refine z_callSw CX hN dL_kept_248 csw_103 qa1 rfl rfl (Nat.le_of_ble_eq_true rfl) ⟨Nat.le_of_ble_eq_true rfl, Nat.le_of_ble_eq_true rfl⟩ ⟨Nat.le_of_ble_eq_true rfl, Nat.le_of_ble_eq_true rfl⟩ ?_
        refine z_lcmp CX dL_kept_251 ?_
        refine z_if_ge CX 532 dL_kept_252 (by decide) (fun q9 => absurd q9 (fun z9 => absurd ((lcGe (by omega) (by omega)).mp z9) (by omega))) (fun _ => ?_)
        refine z_iload_n CX 1 dL_kept_255 rfl rfl ?_
        refine z_if_eq CX 532 dL_kept_256 (by decide) (fun q9 => absurd q9 (by decide)) (fun _ => ?_)
        refine z_aload_n CX 0 dL_kept_259 rfl rfl ?_
        refine z_iload CX dL_kept_260 rfl ?_
        refine z_iconst CX (v := 3) dL_kept_262 (by decide) ?_
        refine z_callSw CX hN dL_kept_263 csw_115 qb3 rfl rfl (Nat.le_of_ble_eq_true rfl) ⟨Nat.le_of_ble_eq_true rfl, Nat.le_of_ble_eq_true rfl⟩ ⟨Nat.le_of_ble_eq_true rfl, Nat.le_of_ble_eq_true rfl⟩ ?_
        refine z_lstore CX dL_kept_266 (by decide) ?_
        refine z_lload CX dL_kept_268 rfl ?_
        refine z_lconst CX (v := 1) dL_kept_270 (by decide) ?_
        refine z_lcmp CX dL_kept_271 ?_
        refine z_if_eq CX 284 dL_kept_272 (by decide) (fun q9 => absurd q9 (fun z9 => absurd ((lcE (a := 4) (b := 1) (by omega) (by omega)).mp z9) (by omega))) (fun _ => ?_)
        refine z_lload CX dL_kept_275 rfl ?_
        refine z_ldc2 CX (v := 3) dL_kept_277 (wa_mem 775 (by decide +kernel) rfl) ?_
        refine z_lcmp CX dL_kept_280 ?_
        refine z_if_ne CX 288 dL_kept_281 (by decide) (fun _ => ?_) (fun q9 => absurd q9 (fun z9 => absurd ((lcE (a := 4) (b := 3) (by omega) (by omega)).mp z9) (by omega)))
        refine z_iconst CX (v := 0) dL_kept_288 (by decide) ?_
        refine z_istore CX dL_kept_289 (by decide) ?_
        refine z_aload_n CX 0 dL_kept_291 rfl rfl ?_
        refine z_iload CX dL_kept_292 rfl ?_
        refine z_iconst CX (v := 4) dL_kept_294 (by decide) ?_
        refine z_callSw CX hN dL_kept_295 csw_115 qb4 rfl rfl (Nat.le_of_ble_eq_true rfl) ⟨Nat.le_of_ble_eq_true rfl, Nat.le_of_ble_eq_true rfl⟩ ⟨Nat.le_of_ble_eq_true rfl, Nat.le_of_ble_eq_true rfl⟩ ?_
        refine z_l2i CX dL_kept_298 (m1_32) ?_
        refine z_istore CX dL_kept_299 (by decide) ?_
        refine z_lload CX dL_kept_301 rfl ?_
        refine z_lconst CX (v := 0) dL_kept_303 (by decide) ?_
        refine z_ldc2 CX (v := 4) dL_kept_304 (wa_mem 776 (by decide +kernel) rfl) ?_
        refine z_callS1 CX dL_kept_307 cs_L_168 (c_in9 _ _ _) rfl rfl (Nat.le_of_ble_eq_true rfl) ⟨Nat.le_of_ble_eq_true rfl, Nat.le_of_ble_eq_true rfl⟩ ⟨Nat.le_refl _, Nat.le_refl _⟩ ?_
        refine z_if_eq CX 445 dL_kept_310 (by decide) (fun q9 => absurd q9 (inL (v := 4) (a := 0) (b := 4) (by omega) (by omega) (by omega))) (fun _ => ?_)
        refine z_iload CX dL_kept_313 rfl ?_
        refine z_if_eq CX 361 dL_kept_315 (by decide) (fun _ => ?_) (fun q9 => absurd rfl q9)
        refine z_iload CX dL_kept_361 rfl ?_
        refine z_iconst CX (v := (-1 : Int32)) dL_kept_363 (by decide) ?_
        refine z_icmp_ne CX 445 dL_kept_364 (by decide) (fun q9 => absurd q9 (fun z9 => z9 rfl)) (fun _ => ?_)
        refine z_aload_n CX 0 dL_kept_367 rfl rfl ?_
        refine z_iload CX dL_kept_368 rfl ?_
        refine z_iconst CX (v := 5) dL_kept_370 (by decide) ?_
        refine z_callSw CX hN dL_kept_371 csw_115 qb5 rfl rfl (Nat.le_of_ble_eq_true rfl) ⟨Nat.le_of_ble_eq_true rfl, Nat.le_of_ble_eq_true rfl⟩ ⟨Nat.le_of_ble_eq_true rfl, Nat.le_of_ble_eq_true rfl⟩ ?_
        refine z_ldc2 CX (v := -1) dL_kept_374 (wa_mem 774 (by decide +kernel) rfl) ?_
        refine z_lcmp CX dL_kept_377 ?_
        refine z_if_ne CX 445 dL_kept_378 (by decide) (fun q9 => absurd q9 (fun z9 => z9 ((lg_cmp_eq _ _).mpr rfl))) (fun _ => ?_)
        refine z_lload CX dL_kept_381 rfl ?_
        refine z_ldc2 CX (v := 2) dL_kept_383 (wa_mem 780 (by decide +kernel) rfl) ?_
        refine z_lcmp CX dL_kept_386 ?_
        refine z_if_ne CX 406 dL_kept_387 (by decide) (fun _ => ?_) (fun q9 => absurd q9 (fun z9 => absurd ((lcE (a := 4) (b := 2) (by omega) (by omega)).mp z9) (by omega)))
        refine z_aload_n CX 0 dL_kept_406 rfl rfl ?_
        refine z_iload CX dL_kept_407 rfl ?_
        refine z_bipush CX (v := 7) dL_kept_409 (by decide) ?_
        refine z_callSw CX hN dL_kept_411 csw_115 qb7 rfl rfl (Nat.le_of_ble_eq_true rfl) ⟨Nat.le_of_ble_eq_true rfl, Nat.le_of_ble_eq_true rfl⟩ ⟨Nat.le_of_ble_eq_true rfl, Nat.le_of_ble_eq_true rfl⟩ ?_
        refine z_ldc2 CX (v := -1) dL_kept_414 (wa_mem 774 (by decide +kernel) rfl) ?_
        refine z_lcmp CX dL_kept_417 ?_
        refine z_if_ne CX 445 dL_kept_418 (by decide) (fun q9 => absurd q9 (fun z9 => z9 ((lg_cmp_eq _ _).mpr rfl))) (fun _ => ?_)
        refine z_lload CX dL_kept_421 rfl ?_
        refine z_ldc2 CX (v := 2) dL_kept_423 (wa_mem 780 (by decide +kernel) rfl) ?_
        refine z_lcmp CX dL_kept_426 ?_
        refine z_if_ne CX 441 dL_kept_427 (by decide) (fun _ => ?_) (fun q9 => absurd q9 (fun z9 => absurd ((lcE (a := 4) (b := 2) (by omega) (by omega)).mp z9) (by omega)))
        refine z_iconst CX (v := 1) dL_kept_441 (by decide) ?_
        refine z_goto CX 446 dL_kept_442 (by decide) ?_
        refine z_istore_n CX 1 dL_kept_446 rfl (by decide) ?_
        refine z_lload_n CX 2 dL_kept_447 rfl rfl ?_
        refine z_aload_n CX 0 dL_kept_448 rfl rfl ?_
        refine z_iload CX dL_kept_449 rfl ?_
        refine z_bipush CX (v := 9) dL_kept_451 (by decide) ?_
        refine z_callSw CX hN dL_kept_453 csw_115 qb9 rfl rfl (Nat.le_of_ble_eq_true rfl) ⟨Nat.le_of_ble_eq_true rfl, Nat.le_of_ble_eq_true rfl⟩ ⟨Nat.le_of_ble_eq_true rfl, Nat.le_of_ble_eq_true rfl⟩ ?_
        refine z_ladd CX dL_kept_456 ?_
        refine z_stk (congrArg (fun q9 => [Value.long q9]) s2) ?_
        refine z_lstore_n CX 2 dL_kept_457 rfl (by decide) ?_
        refine z_lload CX dL_kept_458 rfl ?_
        refine z_aload_n CX 0 dL_kept_460 rfl rfl ?_
        refine z_iload CX dL_kept_461 rfl ?_
        refine z_bipush CX (v := 8) dL_kept_463 (by decide) ?_
        refine z_callSw CX hN dL_kept_465 csw_115 qb8 rfl rfl (Nat.le_of_ble_eq_true rfl) ⟨Nat.le_of_ble_eq_true rfl, Nat.le_of_ble_eq_true rfl⟩ ⟨Nat.le_of_ble_eq_true rfl, Nat.le_of_ble_eq_true rfl⟩ ?_
        refine z_ladd CX dL_kept_468 ?_
        refine z_stk (congrArg (fun q9 => [Value.long q9]) s4) ?_
        refine z_lstore CX dL_kept_469 (by decide) ?_
        refine z_iload CX dL_kept_471 rfl ?_
        refine z_lload CX dL_kept_473 rfl ?_
        refine z_lconst CX (v := 1) dL_kept_475 (by decide) ?_
        refine z_lcmp CX dL_kept_476 ?_
        refine z_if_ne CX 484 dL_kept_477 (by decide) (fun _ => ?_) (fun q9 => absurd q9 (fun z9 => absurd ((lcE (a := 4) (b := 1) (by omega) (by omega)).mp z9) (by omega)))
        refine z_iconst CX (v := 0) dL_kept_484 (by decide) ?_
        refine z_iadd CX dL_kept_485 ?_
        refine z_stk (congrArg (fun q9 => [Value.int q9]) (cS 1 (by omega))) ?_
        refine z_istore CX dL_kept_486 (by decide) ?_
        refine z_iload CX dL_kept_488 rfl ?_
        refine z_lload CX dL_kept_490 rfl ?_
        refine z_ldc2 CX (v := 2) dL_kept_492 (wa_mem 780 (by decide +kernel) rfl) ?_
        refine z_lcmp CX dL_kept_495 ?_
        refine z_if_ne CX 503 dL_kept_496 (by decide) (fun _ => ?_) (fun q9 => absurd q9 (fun z9 => absurd ((lcE (a := 4) (b := 2) (by omega) (by omega)).mp z9) (by omega)))
        refine z_iconst CX (v := 0) dL_kept_503 (by decide) ?_
        refine z_iadd CX dL_kept_504 ?_
        refine z_stk (congrArg (fun q9 => [Value.int q9]) (cS 2 (by omega))) ?_
        refine z_istore CX dL_kept_505 (by decide) ?_
        refine z_iload CX dL_kept_507 rfl ?_
        refine z_lload CX dL_kept_509 rfl ?_
        refine z_ldc2 CX (v := 3) dL_kept_511 (wa_mem 775 (by decide +kernel) rfl) ?_
        refine z_lcmp CX dL_kept_514 ?_
        refine z_if_ne CX 522 dL_kept_515 (by decide) (fun _ => ?_) (fun q9 => absurd q9 (fun z9 => absurd ((lcE (a := 4) (b := 3) (by omega) (by omega)).mp z9) (by omega)))
        refine z_iconst CX (v := 0) dL_kept_522 (by decide) ?_
        refine z_iadd CX dL_kept_523 ?_
        refine z_stk (congrArg (fun q9 => [Value.int q9]) (cS 3 (by omega))) ?_
        refine z_istore CX dL_kept_524 (by decide) ?_
        refine z_iinc CX (v := (nI (n9 + 1))) dL_kept_526 rfl (nI_1 _) (by decide) ?_
        refine z_goto CX 243 dL_kept_529 (by decide) ?_
        refine z_loc [(0, .ref (wB w + k)), (1, .int 1), (2, .long (lN (smN dr (n9 + 1)))), (4, .long (lN (smN wn (n9 + 1)))), (6, .int (nI (cntS (zsF σ) (n9 + 1) 1))), (7, .int (nI (cntS (zsF σ) (n9 + 1) 2))), (8, .int (nI (cntS (zsF σ) (n9 + 1) 3))), (9, .long (lN 0)), (11, .long (lN 0)), (13, .int (nI (n9 + 1)))] ⟨rfl, rfl, rfl, rfl, rfl, rfl, rfl, rfl, rfl, rfl, trivial⟩ ?_
        exact (ih (n9 + 1) (by omega))
  have K220 : ZW p l e R s m args below meth c w 18 H none 0 0 (MQ below (QP w (fun h v => h = H ∧ v = .int 1)) args s 0 0 (wA w)) 220 [(0, .ref (wB w + k)), (1, .int 1)] [] := by
    refine z_lconst CX (v := 0) dL_kept_220 (by decide) ?_
    refine z_lstore_n CX 2 dL_kept_221 rfl (by decide) ?_
    refine z_lconst CX (v := 0) dL_kept_222 (by decide) ?_
    refine z_lstore CX dL_kept_223 (by decide) ?_
    refine z_iconst CX (v := 0) dL_kept_225 (by decide) ?_
    refine z_istore CX dL_kept_226 (by decide) ?_
    refine z_iconst CX (v := 0) dL_kept_228 (by decide) ?_
    refine z_istore CX dL_kept_229 (by decide) ?_
    refine z_iconst CX (v := 0) dL_kept_231 (by decide) ?_
    refine z_istore CX dL_kept_232 (by decide) ?_
    refine z_lconst CX (v := 0) dL_kept_234 (by decide) ?_
    refine z_lstore CX dL_kept_235 (by decide) ?_
    refine z_lconst CX (v := 0) dL_kept_237 (by decide) ?_
    refine z_lstore CX dL_kept_238 (by decide) ?_
    refine z_iconst CX (v := 0) dL_kept_240 (by decide) ?_
    refine z_istore CX dL_kept_241 (by decide) ?_
    refine z_loc [(0, .ref (wB w + k)), (1, .int 1), (2, .long (lN (smN dr 0))), (4, .long (lN (smN wn 0))), (6, .int (nI (cntS (zsF σ) 0 1))), (7, .int (nI (cntS (zsF σ) 0 2))), (8, .int (nI (cntS (zsF σ) 0 3))), (9, .long (lN 0)), (11, .long (lN 0)), (13, .int (nI 0))] ⟨rfl, rfl, rfl, rfl, rfl, rfl, rfl, rfl, rfl, rfl, trivial⟩ ?_
    exact (LB (bN (zsF σ)) 0 (by omega))
  have LG : ∀ j g, g + j = gN (zsF σ) → ZW p l e R s m args below meth c w 18 H none 0 0 (MQ below (QP w (fun h v => h = H ∧ v = .int 1)) args s 0 0 (wA w)) 4 [(0, .ref (wB w + k)), (1, .int 1), (2, .int (nI g))] [] := by
    intro j
    induction j with
    | zero =>
      intro g hg
      obtain rfl : g = gN (zsF σ) := by omega
      refine z_iload_n CX 2 dL_kept_4 rfl rfl ?_
      refine z_i2l CX dL_kept_5 (nI_l (by omega)) ?_
      refine z_aload_n CX 0 dL_kept_6 rfl rfl ?_
      refine z_iconst CX (v := 0) dL_kept_7 (by decide) ?_
      refine z_callSw CX hN dL_kept_8 csw_103 qa0 rfl rfl (Nat.le_of_ble_eq_true rfl) ⟨Nat.le_of_ble_eq_true rfl, Nat.le_of_ble_eq_true rfl⟩ ⟨Nat.le_of_ble_eq_true rfl, Nat.le_of_ble_eq_true rfl⟩ ?_
      refine z_lcmp CX dL_kept_11 ?_
      refine z_if_ge CX 220 dL_kept_12 (by decide) (fun _ => ?_) (fun q9 => absurd ((lcGe (by omega) (by omega)).mpr (Nat.le_refl _)) q9)
      refine z_loc [(0, .ref (wB w + k)), (1, .int 1)] ⟨rfl, rfl, trivial⟩ ?_
      exact K220
    | succ j ih =>
      intro g hg9
      have g1 : g < gN (zsF σ) := by omega
      obtain ⟨L1, L2, L3⟩ := gLN_e hGG g1
      have qg0 := q_gutterOf (l := l) (j := g) (i := 0) hI hσ g1 (by omega)
      rw [l2l (show gtV (zsF σ) g 0 = nI (gLN (zsF σ) g) from L1) (by omega)] at qg0
      have qg2 := q_gutterOf (l := l) (j := g) (i := 2) hI hσ g1 (by omega)
      have qg3 := q_gutterOf (l := l) (j := g) (i := 3) hI hσ g1 (by omega)
      have v2 : gtV (zsF σ) g 2 = zsF σ (4 * g + 2) := rfl
      have v3 : gtV (zsF σ) g 3 = zsF σ (4 * g + 3) := rfl
      have qg5 := q_gutterOf (l := l) (j := g) (i := 5) hI hσ g1 (by omega)
      have qg6 := q_gutterOf (l := l) (j := g) (i := 6) hI hσ g1 (by omega)
      have hig : igF (zsF σ) (bN (zsF σ)) (nI g) 3 ≤ bN (zsF σ) := cntN_le _ _
      rw [l2l (show gtV (zsF σ) g 5 = nI (igF (zsF σ) (bN (zsF σ)) (nI g) 3) from rfl) (by omega)] at qg5
      have v6 : gtV (zsF σ) g 6 = lwR (zsF σ) (bN (zsF σ)) (nI g) (gLN (zsF σ) g) 0 := rfl
      have hwr := wrecks_g hR g1
      have wq : ∀ (g9 c9 : Nat) (y : Int32), g9 < gN (zsF σ) → c9 < gLN (zsF σ) g9 → 0 ≤ y ∧ y ≤ 1 → Cw l w mL_way [(0, 8, 9, 34), (0, 8, 15, 15)] 0 0 [.ref (wB w + k), .int (nI g9), .int (nI c9), .int y] H none H none (some (.long (lN (wayN (zsF σ) g9 c9)))) := by
        intro g9 c9 y hg9 hc9 hy
        have hL9 := gLN_e hGG hg9
        have q := q_way (l := l) (a := nI g9) (b := nI c9) (y := y) hI hσ ((icl_at hg9 (by omega) hL9.1).trans (decide_eq_true ⟨nI_pos' (by omega), nI_lt hc9 (by omega)⟩)) hy
        have hw := way_e hGG hg9 (Nat.le_of_lt hc9)
        rw [nI_clamp (show g9 < 2 ^ 31 by omega), l2l hw.1 (by omega)] at q
        exact q
      have K170 : ZW p l e R s m args below meth c w 18 H none 0 0 (MQ below (QP w (fun h v => h = H ∧ v = .int 1)) args s 0 0 (wA w)) 170 [(0, .ref (wB w + k)), (1, .int 1), (2, .int (nI g))] [] := by
        by_cases hz : igF (zsF σ) (bN (zsF σ)) (nI g) 3 = 0
        · skip
          rw [l2m (v6.trans (hwr.mp hz))] at qg6
          refine z_aload_n CX 0 dL_kept_170 rfl rfl ?_
          refine z_iload_n CX 2 dL_kept_171 rfl rfl ?_
          refine z_iconst CX (v := 5) dL_kept_172 (by decide) ?_
          refine z_callSw CX hN dL_kept_173 csw_112 qg5 rfl rfl (Nat.le_of_ble_eq_true rfl) ⟨Nat.le_of_ble_eq_true rfl, Nat.le_of_ble_eq_true rfl⟩ ⟨Nat.le_of_ble_eq_true rfl, Nat.le_of_ble_eq_true rfl⟩ ?_
          refine z_lconst CX (v := 0) dL_kept_176 (by decide) ?_
          refine z_lcmp CX dL_kept_177 ?_
          refine z_if_ne CX 185 dL_kept_178 (by decide) (fun q9 => absurd q9 (fun z9 => z9 ((lcE (b := 0) (by omega) (by omega)).mpr hz))) (fun _ => ?_)
          refine z_iconst CX (v := 1) dL_kept_181 (by decide) ?_
          refine z_goto CX 186 dL_kept_182 (by decide) ?_
          refine z_aload_n CX 0 dL_kept_186 rfl rfl ?_
          refine z_iload_n CX 2 dL_kept_187 rfl rfl ?_
          refine z_bipush CX (v := 6) dL_kept_188 (by decide) ?_
          refine z_callSw CX hN dL_kept_190 csw_112 qg6 rfl rfl (Nat.le_of_ble_eq_true rfl) ⟨Nat.le_of_ble_eq_true rfl, Nat.le_of_ble_eq_true rfl⟩ ⟨Nat.le_of_ble_eq_true rfl, Nat.le_of_ble_eq_true rfl⟩ ?_
          refine z_ldc2 CX (v := -1) dL_kept_193 (wa_mem 774 (by decide +kernel) rfl) ?_
          refine z_lcmp CX dL_kept_196 ?_
          refine z_if_ne CX 204 dL_kept_197 (by decide) (fun q9 => absurd q9 (fun z9 => z9 ((lg_cmp_eq _ _).mpr rfl))) (fun _ => ?_)
          refine z_iconst CX (v := 1) dL_kept_200 (by decide) ?_
          refine z_goto CX 205 dL_kept_201 (by decide) ?_
          refine z_icmp_ne CX 212 dL_kept_205 (by decide) (fun q9 => absurd q9 (fun z9 => z9 rfl)) (fun _ => ?_)
          refine z_iconst CX (v := 1) dL_kept_208 (by decide) ?_
          refine z_goto CX 213 dL_kept_209 (by decide) ?_
          refine z_istore_n CX 1 dL_kept_213 rfl (by decide) ?_
          refine z_iinc CX (v := (nI (g + 1))) dL_kept_214 rfl (nI_1 _) (by decide) ?_
          refine z_goto CX 4 dL_kept_217 (by decide) ?_
          refine z_loc [(0, .ref (wB w + k)), (1, .int 1), (2, .int (nI (g + 1)))] ⟨rfl, rfl, rfl, trivial⟩ ?_
          exact (ih (g + 1) (by omega))
        · skip
          have q6 : lg_cmp (gtV (zsF σ) g 6).toInt64 (-1) ≠ 0 := fun z9 => hz (hwr.mpr (by
            have z8 := (lg_cmp_eq _ _).mp z9
            rw [v6, show (-1 : Int64) = (-1 : Int32).toInt64 by decide] at z8
            exact Int32.le_antisymm ((w_le _ _).mp (by rw [z8]; exact Int64.le_refl _)) ((w_le _ _).mp (by rw [z8]; exact Int64.le_refl _))))
          refine z_aload_n CX 0 dL_kept_170 rfl rfl ?_
          refine z_iload_n CX 2 dL_kept_171 rfl rfl ?_
          refine z_iconst CX (v := 5) dL_kept_172 (by decide) ?_
          refine z_callSw CX hN dL_kept_173 csw_112 qg5 rfl rfl (Nat.le_of_ble_eq_true rfl) ⟨Nat.le_of_ble_eq_true rfl, Nat.le_of_ble_eq_true rfl⟩ ⟨Nat.le_of_ble_eq_true rfl, Nat.le_of_ble_eq_true rfl⟩ ?_
          refine z_lconst CX (v := 0) dL_kept_176 (by decide) ?_
          refine z_lcmp CX dL_kept_177 ?_
          refine z_if_ne CX 185 dL_kept_178 (by decide) (fun _ => ?_) (fun q9 => absurd q9 (fun z9 => hz ((lcE (b := 0) (by omega) (by omega)).mp z9)))
          refine z_iconst CX (v := 0) dL_kept_185 (by decide) ?_
          refine z_aload_n CX 0 dL_kept_186 rfl rfl ?_
          refine z_iload_n CX 2 dL_kept_187 rfl rfl ?_
          refine z_bipush CX (v := 6) dL_kept_188 (by decide) ?_
          refine z_callSw CX hN dL_kept_190 csw_112 qg6 rfl rfl (Nat.le_of_ble_eq_true rfl) ⟨Nat.le_of_ble_eq_true rfl, Nat.le_of_ble_eq_true rfl⟩ ⟨Nat.le_of_ble_eq_true rfl, Nat.le_of_ble_eq_true rfl⟩ ?_
          refine z_ldc2 CX (v := -1) dL_kept_193 (wa_mem 774 (by decide +kernel) rfl) ?_
          refine z_lcmp CX dL_kept_196 ?_
          refine z_if_ne CX 204 dL_kept_197 (by decide) (fun _ => ?_) (fun q9 => absurd q9 q6)
          refine z_iconst CX (v := 0) dL_kept_204 (by decide) ?_
          refine z_icmp_ne CX 212 dL_kept_205 (by decide) (fun q9 => absurd q9 (fun z9 => z9 rfl)) (fun _ => ?_)
          refine z_iconst CX (v := 1) dL_kept_208 (by decide) ?_
          refine z_goto CX 213 dL_kept_209 (by decide) ?_
          refine z_istore_n CX 1 dL_kept_213 rfl (by decide) ?_
          refine z_iinc CX (v := (nI (g + 1))) dL_kept_214 rfl (nI_1 _) (by decide) ?_
          refine z_goto CX 4 dL_kept_217 (by decide) ?_
          refine z_loc [(0, .ref (wB w + k)), (1, .int 1), (2, .int (nI (g + 1)))] ⟨rfl, rfl, rfl, trivial⟩ ?_
          exact (ih (g + 1) (by omega))
      have K134 : ZW p l e R s m args below meth c w 18 H none 0 0 (MQ below (QP w (fun h v => h = H ∧ v = .int 1)) args s 0 0 (wA w)) 134 [(0, .ref (wB w + k)), (1, .int 1), (2, .int (nI g))] [] := by
        by_cases hz : g = 0
        · subst hz
          rw [l2m (v2.trans (hGG.2.2.1 g1).1)] at qg2
          refine z_iload_n CX 1 dL_kept_134 rfl rfl ?_
          refine z_if_eq CX 212 dL_kept_135 (by decide) (fun q9 => absurd q9 (by decide)) (fun _ => ?_)
          refine z_iload_n CX 2 dL_kept_138 rfl rfl ?_
          refine z_if_ne CX 158 dL_kept_139 (by decide) (fun q9 => absurd q9 (fun z9 => z9 rfl)) (fun _ => ?_)
          refine z_aload_n CX 0 dL_kept_142 rfl rfl ?_
          refine z_iload_n CX 2 dL_kept_143 rfl rfl ?_
          refine z_iconst CX (v := 2) dL_kept_144 (by decide) ?_
          refine z_callSw CX hN dL_kept_145 csw_112 qg2 rfl rfl (Nat.le_of_ble_eq_true rfl) ⟨Nat.le_of_ble_eq_true rfl, Nat.le_of_ble_eq_true rfl⟩ ⟨Nat.le_of_ble_eq_true rfl, Nat.le_of_ble_eq_true rfl⟩ ?_
          refine z_ldc2 CX (v := -1) dL_kept_148 (wa_mem 774 (by decide +kernel) rfl) ?_
          refine z_lcmp CX dL_kept_151 ?_
          refine z_if_ne CX 212 dL_kept_152 (by decide) (fun q9 => absurd q9 (fun z9 => z9 ((lg_cmp_eq _ _).mpr rfl))) (fun _ => ?_)
          refine z_goto CX 170 dL_kept_155 (by decide) ?_
          refine z_loc [(0, .ref (wB w + k)), (1, .int 1), (2, .int (nI 0))] ⟨rfl, rfl, rfl, trivial⟩ ?_
          exact K170
        · obtain ⟨i, a, i1, i2, i3, i4⟩ := into_e hGG g1 (by omega)
          rw [l2l (v2.trans i3) (by omega)] at qg2
          refine z_iload_n CX 1 dL_kept_134 rfl rfl ?_
          refine z_if_eq CX 212 dL_kept_135 (by decide) (fun q9 => absurd q9 (by decide)) (fun _ => ?_)
          refine z_iload_n CX 2 dL_kept_138 rfl rfl ?_
          refine z_if_ne CX 158 dL_kept_139 (by decide) (fun _ => ?_) (fun q9 => absurd q9 (nI_ne0 (by omega) (by omega)))
          refine z_aload_n CX 0 dL_kept_158 rfl rfl ?_
          refine z_iload_n CX 2 dL_kept_159 rfl rfl ?_
          refine z_iconst CX (v := 2) dL_kept_160 (by decide) ?_
          refine z_callSw CX hN dL_kept_161 csw_112 qg2 rfl rfl (Nat.le_of_ble_eq_true rfl) ⟨Nat.le_of_ble_eq_true rfl, Nat.le_of_ble_eq_true rfl⟩ ⟨Nat.le_of_ble_eq_true rfl, Nat.le_of_ble_eq_true rfl⟩ ?_
          refine z_iload_n CX 2 dL_kept_164 rfl rfl ?_
          refine z_i2l CX dL_kept_165 (nI_l (by omega)) ?_
          refine z_lcmp CX dL_kept_166 ?_
          refine z_if_ge CX 212 dL_kept_167 (by decide) (fun q9 => absurd q9 (fun z9 => absurd ((lcGe (by omega) (by omega)).mp z9) (by omega))) (fun _ => ?_)
          refine z_loc [(0, .ref (wB w + k)), (1, .int 1), (2, .int (nI g))] ⟨rfl, rfl, rfl, trivial⟩ ?_
          exact K170
      have KC : ∀ c9 nx, c9 < gLN (zsF σ) g → wayN (zsF σ) g c9 = nx + 1 → ZW p l e R s m args below meth c w 18 H none 0 0 (MQ below (QP w (fun h v => h = H ∧ v = .int 1)) args s 0 0 (wA w)) 30 [(0, .ref (wB w + k)), (1, .int 1), (2, .int (nI g)), (3, .int (nI (gLN (zsF σ) g))), (4, .int (nI (c9 + 3)))] [] → ZW p l e R s m args below meth c w 18 H none 0 0 (MQ below (QP w (fun h v => h = H ∧ v = .int 1)) args s 0 0 (wA w)) 88 [(0, .ref (wB w + k)), (1, .int 1), (2, .int (nI g)), (3, .int (nI (gLN (zsF σ) g))), (4, .int (nI c9))] [.long (lN nx)] := by
        intro c9 nx hc9 hnx K9
        have hwy := (way_e hGG g1 (Nat.le_of_lt hc9)).2
        refine z_lstore CX dL_kept_88 (by decide) ?_
        refine z_aload_n CX 0 dL_kept_90 rfl rfl ?_
        refine z_iload_n CX 2 dL_kept_91 rfl rfl ?_
        refine z_iload CX dL_kept_92 rfl ?_
        refine z_iconst CX (v := 0) dL_kept_94 (by decide) ?_
        refine z_callSw CX hN dL_kept_95 csw_123 (wq g c9 0 g1 hc9 (by decide)) rfl rfl (Nat.le_of_ble_eq_true rfl) ⟨Nat.le_of_ble_eq_true rfl, Nat.le_of_ble_eq_true rfl⟩ ⟨Nat.le_of_ble_eq_true rfl, Nat.le_of_ble_eq_true rfl⟩ ?_
        refine z_lload CX dL_kept_98 rfl ?_
        refine z_lconst CX (v := 1) dL_kept_100 (by decide) ?_
        refine z_ladd CX dL_kept_101 ?_
        refine z_lcmp CX dL_kept_102 ?_
        refine z_if_ne CX 126 dL_kept_103 (by decide) (fun q9 => absurd q9 (fun z9 => z9 ((lg_cmp_eq _ _).mpr (by rw [hnx]; exact (lN_1 nx).symm)))) (fun _ => ?_)
        refine z_aload_n CX 0 dL_kept_106 rfl rfl ?_
        refine z_iload_n CX 2 dL_kept_107 rfl rfl ?_
        refine z_iload CX dL_kept_108 rfl ?_
        refine z_iconst CX (v := 1) dL_kept_110 (by decide) ?_
        refine z_callSw CX hN dL_kept_111 csw_123 (wq g c9 1 g1 hc9 (by decide)) rfl rfl (Nat.le_of_ble_eq_true rfl) ⟨Nat.le_of_ble_eq_true rfl, Nat.le_of_ble_eq_true rfl⟩ ⟨Nat.le_of_ble_eq_true rfl, Nat.le_of_ble_eq_true rfl⟩ ?_
        refine z_lload CX dL_kept_114 rfl ?_
        refine z_lconst CX (v := 1) dL_kept_116 (by decide) ?_
        refine z_ladd CX dL_kept_117 ?_
        refine z_lcmp CX dL_kept_118 ?_
        refine z_if_ne CX 126 dL_kept_119 (by decide) (fun q9 => absurd q9 (fun z9 => z9 ((lg_cmp_eq _ _).mpr (by rw [hnx]; exact (lN_1 nx).symm)))) (fun _ => ?_)
        refine z_iconst CX (v := 1) dL_kept_122 (by decide) ?_
        refine z_goto CX 127 dL_kept_123 (by decide) ?_
        refine z_istore_n CX 1 dL_kept_127 rfl (by decide) ?_
        refine z_iinc CX (v := (nI (c9 + 3))) dL_kept_128 rfl (nI_3 _) (by decide) ?_
        refine z_goto CX 30 dL_kept_131 (by decide) ?_
        refine z_loc [(0, .ref (wB w + k)), (1, .int 1), (2, .int (nI g)), (3, .int (nI (gLN (zsF σ) g))), (4, .int (nI (c9 + 3)))] ⟨rfl, rfl, rfl, rfl, rfl, trivial⟩ ?_
        exact K9
      have LC : ∀ j c9, gLN (zsF σ) g ≤ c9 + 3 * j → c9 < 1000 → ZW p l e R s m args below meth c w 18 H none 0 0 (MQ below (QP w (fun h v => h = H ∧ v = .int 1)) args s 0 0 (wA w)) 30 [(0, .ref (wB w + k)), (1, .int 1), (2, .int (nI g)), (3, .int (nI (gLN (zsF σ) g))), (4, .int (nI c9))] [] := by
        intro j9
        induction j9 with
        | zero =>
          intro c9 hc9 hc8
          refine z_iload CX dL_kept_30 rfl ?_
          refine z_iload_n CX 3 dL_kept_32 rfl rfl ?_
          refine z_icmp_ge CX 134 dL_kept_33 (by decide) (fun _ => ?_) (fun q9 => absurd (nI_le (by omega) (by omega)) q9)
          refine z_loc [(0, .ref (wB w + k)), (1, .int 1), (2, .int (nI g))] ⟨rfl, rfl, rfl, trivial⟩ ?_
          exact K134
        | succ j9 ih9 =>
          intro c9 hc9 hc8
          by_cases hlt : c9 < gLN (zsF σ) g
          · have K9 := ih9 (c9 + 3) (by omega) (by omega)
            by_cases hnx : c9 + 1 < gLN (zsF σ) g
            · skip
              refine z_iload CX dL_kept_30 rfl ?_
              refine z_iload_n CX 3 dL_kept_32 rfl rfl ?_
              refine z_icmp_ge CX 134 dL_kept_33 (by decide) (fun q9 => absurd q9 (nI_ge (by omega) (by omega))) (fun _ => ?_)
              refine z_iload_n CX 1 dL_kept_36 rfl rfl ?_
              refine z_if_eq CX 134 dL_kept_37 (by decide) (fun q9 => absurd q9 (by decide)) (fun _ => ?_)
              refine z_iload CX dL_kept_40 rfl ?_
              refine z_iconst CX (v := 1) dL_kept_42 (by decide) ?_
              refine z_iadd CX dL_kept_43 ?_
              refine z_stk (congrArg (fun q9 => [Value.int q9]) (nI_1 c9)) ?_
              refine z_iload_n CX 3 dL_kept_44 rfl rfl ?_
              refine z_icmp_ge CX 61 dL_kept_45 (by decide) (fun q9 => absurd q9 (nI_ge (by omega) (by omega))) (fun _ => ?_)
              refine z_aload_n CX 0 dL_kept_48 rfl rfl ?_
              refine z_iload_n CX 2 dL_kept_49 rfl rfl ?_
              refine z_iload CX dL_kept_50 rfl ?_
              refine z_iconst CX (v := 1) dL_kept_52 (by decide) ?_
              refine z_iadd CX dL_kept_53 ?_
              refine z_stk (congrArg (fun q9 => [Value.int q9, Value.int (nI g), Value.ref (wB w + k)]) (nI_1 c9)) ?_
              refine z_iconst CX (v := 0) dL_kept_54 (by decide) ?_
              refine z_callSw CX hN dL_kept_55 csw_123 (wq g (c9 + 1) 0 g1 hnx (by decide)) rfl rfl (Nat.le_of_ble_eq_true rfl) ⟨Nat.le_of_ble_eq_true rfl, Nat.le_of_ble_eq_true rfl⟩ ⟨Nat.le_of_ble_eq_true rfl, Nat.le_of_ble_eq_true rfl⟩ ?_
              refine z_goto CX 88 dL_kept_58 (by decide) ?_
              refine z_loc [(0, .ref (wB w + k)), (1, .int 1), (2, .int (nI g)), (3, .int (nI (gLN (zsF σ) g))), (4, .int (nI c9))] ⟨rfl, rfl, rfl, rfl, rfl, trivial⟩ ?_
              exact (KC c9 _ hlt (way_1 hlt) K9)
            · by_cases hz : g = 0
              · subst hz
                refine z_iload CX dL_kept_30 rfl ?_
                refine z_iload_n CX 3 dL_kept_32 rfl rfl ?_
                refine z_icmp_ge CX 134 dL_kept_33 (by decide) (fun q9 => absurd q9 (nI_ge (by omega) (by omega))) (fun _ => ?_)
                refine z_iload_n CX 1 dL_kept_36 rfl rfl ?_
                refine z_if_eq CX 134 dL_kept_37 (by decide) (fun q9 => absurd q9 (by decide)) (fun _ => ?_)
                refine z_iload CX dL_kept_40 rfl ?_
                refine z_iconst CX (v := 1) dL_kept_42 (by decide) ?_
                refine z_iadd CX dL_kept_43 ?_
                refine z_stk (congrArg (fun q9 => [Value.int q9]) (nI_1 c9)) ?_
                refine z_iload_n CX 3 dL_kept_44 rfl rfl ?_
                refine z_icmp_ge CX 61 dL_kept_45 (by decide) (fun _ => ?_) (fun q9 => absurd (nI_le (by omega) (by omega)) q9)
                refine z_iload_n CX 2 dL_kept_61 rfl rfl ?_
                refine z_if_ne CX 69 dL_kept_62 (by decide) (fun q9 => absurd q9 (fun z9 => z9 rfl)) (fun _ => ?_)
                refine z_lconst CX (v := 0) dL_kept_65 (by decide) ?_
                refine z_goto CX 88 dL_kept_66 (by decide) ?_
                refine z_loc [(0, .ref (wB w + k)), (1, .int 1), (2, .int (nI 0)), (3, .int (nI (gLN (zsF σ) 0))), (4, .int (nI c9))] ⟨rfl, rfl, rfl, rfl, rfl, trivial⟩ ?_
                exact (KC c9 0 hlt (way_2 (by omega)) K9)
              · obtain ⟨i, a, i1, i2, i3, i4⟩ := into_e hGG g1 (by omega)
                rw [l2l (v2.trans i3) (by omega)] at qg2
                have hLi := (gLN_e hGG (show i < gN (zsF σ) by omega)).2.2
                rw [l2l (v3.trans i4) (by omega)] at qg3
                refine z_iload CX dL_kept_30 rfl ?_
                refine z_iload_n CX 3 dL_kept_32 rfl rfl ?_
                refine z_icmp_ge CX 134 dL_kept_33 (by decide) (fun q9 => absurd q9 (nI_ge (by omega) (by omega))) (fun _ => ?_)
                refine z_iload_n CX 1 dL_kept_36 rfl rfl ?_
                refine z_if_eq CX 134 dL_kept_37 (by decide) (fun q9 => absurd q9 (by decide)) (fun _ => ?_)
                refine z_iload CX dL_kept_40 rfl ?_
                refine z_iconst CX (v := 1) dL_kept_42 (by decide) ?_
                refine z_iadd CX dL_kept_43 ?_
                refine z_stk (congrArg (fun q9 => [Value.int q9]) (nI_1 c9)) ?_
                refine z_iload_n CX 3 dL_kept_44 rfl rfl ?_
                refine z_icmp_ge CX 61 dL_kept_45 (by decide) (fun _ => ?_) (fun q9 => absurd (nI_le (by omega) (by omega)) q9)
                refine z_iload_n CX 2 dL_kept_61 rfl rfl ?_
                refine z_if_ne CX 69 dL_kept_62 (by decide) (fun _ => ?_) (fun q9 => absurd q9 (nI_ne0 (by omega) (by omega)))
                refine z_aload_n CX 0 dL_kept_69 rfl rfl ?_
                refine z_aload_n CX 0 dL_kept_70 rfl rfl ?_
                refine z_iload_n CX 2 dL_kept_71 rfl rfl ?_
                refine z_iconst CX (v := 2) dL_kept_72 (by decide) ?_
                refine z_callSw CX hN dL_kept_73 csw_112 qg2 rfl rfl (Nat.le_of_ble_eq_true rfl) ⟨Nat.le_of_ble_eq_true rfl, Nat.le_of_ble_eq_true rfl⟩ ⟨Nat.le_of_ble_eq_true rfl, Nat.le_of_ble_eq_true rfl⟩ ?_
                refine z_l2i CX dL_kept_76 (lN_32) ?_
                refine z_aload_n CX 0 dL_kept_77 rfl rfl ?_
                refine z_iload_n CX 2 dL_kept_78 rfl rfl ?_
                refine z_iconst CX (v := 3) dL_kept_79 (by decide) ?_
                refine z_callSw CX hN dL_kept_80 csw_112 qg3 rfl rfl (Nat.le_of_ble_eq_true rfl) ⟨Nat.le_of_ble_eq_true rfl, Nat.le_of_ble_eq_true rfl⟩ ⟨Nat.le_of_ble_eq_true rfl, Nat.le_of_ble_eq_true rfl⟩ ?_
                refine z_l2i CX dL_kept_83 (lN_32) ?_
                refine z_iconst CX (v := 0) dL_kept_84 (by decide) ?_
                refine z_callSw CX hN dL_kept_85 csw_123 (wq i a 0 (by omega) i2 (by decide)) rfl rfl (Nat.le_of_ble_eq_true rfl) ⟨Nat.le_of_ble_eq_true rfl, Nat.le_of_ble_eq_true rfl⟩ ⟨Nat.le_of_ble_eq_true rfl, Nat.le_of_ble_eq_true rfl⟩ ?_
                refine z_loc [(0, .ref (wB w + k)), (1, .int 1), (2, .int (nI g)), (3, .int (nI (gLN (zsF σ) g))), (4, .int (nI c9))] ⟨rfl, rfl, rfl, rfl, rfl, trivial⟩ ?_
                exact (KC c9 _ hlt (way_3 hGG g1 (by omega) (by omega) i3 i4 i1 i2) K9)
          · skip
            refine z_iload CX dL_kept_30 rfl ?_
            refine z_iload_n CX 3 dL_kept_32 rfl rfl ?_
            refine z_icmp_ge CX 134 dL_kept_33 (by decide) (fun _ => ?_) (fun q9 => absurd (nI_le (by omega) (by omega)) q9)
            refine z_loc [(0, .ref (wB w + k)), (1, .int 1), (2, .int (nI g))] ⟨rfl, rfl, rfl, trivial⟩ ?_
            exact K134
      refine z_iload_n CX 2 dL_kept_4 rfl rfl ?_
      refine z_i2l CX dL_kept_5 (nI_l (by omega)) ?_
      refine z_aload_n CX 0 dL_kept_6 rfl rfl ?_
      refine z_iconst CX (v := 0) dL_kept_7 (by decide) ?_
      refine z_callSw CX hN dL_kept_8 csw_103 qa0 rfl rfl (Nat.le_of_ble_eq_true rfl) ⟨Nat.le_of_ble_eq_true rfl, Nat.le_of_ble_eq_true rfl⟩ ⟨Nat.le_of_ble_eq_true rfl, Nat.le_of_ble_eq_true rfl⟩ ?_
      refine z_lcmp CX dL_kept_11 ?_
      refine z_if_ge CX 220 dL_kept_12 (by decide) (fun q9 => absurd q9 (fun z9 => absurd ((lcGe (by omega) (by omega)).mp z9) (by omega))) (fun _ => ?_)
      refine z_iload_n CX 1 dL_kept_15 rfl rfl ?_
      refine z_if_eq CX 220 dL_kept_16 (by decide) (fun q9 => absurd q9 (by decide)) (fun _ => ?_)
      refine z_aload_n CX 0 dL_kept_19 rfl rfl ?_
      refine z_iload_n CX 2 dL_kept_20 rfl rfl ?_
      refine z_iconst CX (v := 0) dL_kept_21 (by decide) ?_
      refine z_callSw CX hN dL_kept_22 csw_112 qg0 rfl rfl (Nat.le_of_ble_eq_true rfl) ⟨Nat.le_of_ble_eq_true rfl, Nat.le_of_ble_eq_true rfl⟩ ⟨Nat.le_of_ble_eq_true rfl, Nat.le_of_ble_eq_true rfl⟩ ?_
      refine z_l2i CX dL_kept_25 (lN_32) ?_
      refine z_istore_n CX 3 dL_kept_26 rfl (by decide) ?_
      refine z_iconst CX (v := 0) dL_kept_27 (by decide) ?_
      refine z_istore CX dL_kept_28 (by decide) ?_
      refine z_loc [(0, .ref (wB w + k)), (1, .int 1), (2, .int (nI g)), (3, .int (nI (gLN (zsF σ) g))), (4, .int (nI 0))] ⟨rfl, rfl, rfl, rfl, rfl, trivial⟩ ?_
      exact (LC 14 0 (by omega) (by omega))
  refine z_iconst CX (v := 1) dL_kept_0 (by decide) ?_
  refine z_istore_n CX 1 dL_kept_1 rfl (by decide) ?_
  refine z_iconst CX (v := 0) dL_kept_2 (by decide) ?_
  refine z_istore_n CX 2 dL_kept_3 rfl (by decide) ?_
  refine z_loc [(0, .ref (wB w + k)), (1, .int 1), (2, .int (nI 0))] ⟨rfl, rfl, rfl, trivial⟩ ?_
  exact (LG (gN (zsF σ)) 0 (by omega))
end
