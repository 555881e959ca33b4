/-! all calls that must be refused: nothing changes -/
theorem l2n {x : Int32} {n : Nat} (h : x = nI n) : x.toInt64.toInt32 = nI n := by rw [← h]; simp
theorem icl_at {f : Nat → Int32} {ng i L : Nat} {y : Int32} (hi : i < ng) (h9 : ng < 1000) (hL : f (4 * i + 0) = nI L) : icl f ng (nI i) y = decide (0 ≤ y ∧ y < nI L) := by rw [icl_1 hi h9, hL]
theorem lw15 : ¬ lN 1000000000000000 ≤ tnF (5 * 3) - 1 := by
  rw [tnF_e, show (1 : Int64) = lN 1 from rfl, lN_sub (by decide), pk_lLE (by decide) (by decide)]
  decide
section
variable {l : Launch} {w : Wt} {hs0 : Hs} {k M : Nat} {σ : ZS} {H : Hs}
set_option maxHeartbeats 4000000 in
set_option maxRecDepth 100000 in
theorem c_errors (hI : IS w hs0 k σ H) (hσ : OKs M σ) (hl9 : l.stackTraces = false) : Cp l w mL_errors 60 360 [.ref (wB w + k)] H (fun h v => h = H ∧ v = .int 1) := by
  refine Cp.of (d := mL_errors) (by decide +kernel) (Nat.le_of_ble_eq_true rfl) ?_
  intro p e R s m args below meth c CX hN
  replace CX : Ctx p s m args meth c R w RL "errors" cL_errors 6 (some .boolean) 10 195 60 360 := CX
  show ZW p l e R s m args below meth c w 6 H none 0 0 (MQ below (QP w (fun h v => h = H ∧ v = .int 1)) args s 60 360 (wA w)) 0 [(0, .ref (wB w + k))] []
  have e146 : zsF σ 146 = nI (gN (zsF σ)) := hσ.2.1.1.1.1.1
  have e147 : zsF σ 147 = nI (bN (zsF σ)) := hσ.2.1.1.1.2.1
  have h6 : gN (zsF σ) ≤ 6 := hσ.2.1.1.1.1.2.1
  have h9 : bN (zsF σ) ≤ 10 := hσ.2.1.1.2.2
  have ngG : ¬ (0 ≤ nI (gN (zsF σ)) ∧ nI (gN (zsF σ)) < nI (gN (zsF σ))) := fun q => absurd q.2 (nI_nlt (Nat.le_refl _) (by omega))
  have ngB : ¬ (0 ≤ nI (bN (zsF σ)) ∧ nI (bN (zsF σ)) < nI (bN (zsF σ))) := fun q => absurd q.2 (nI_nlt (Nat.le_refl _) (by omega))
  have KL : 0 < gN (zsF σ) → ∃ L, 4 ≤ L ∧ L ≤ 40 ∧ zsF σ (4 * 0 + 0) = nI L := fun h => (hσ.2.1.1.1.1.2.2.2 0 h).1
  have ic00 : 0 < gN (zsF σ) → icl (zsF σ) (gN (zsF σ)) 0 0 = true := fun h => by
    obtain ⟨L, l1, l2, l3⟩ := KL h
    exact (icl_at (i := 0) h (by omega) l3).trans (decide_eq_true ⟨by decide, nI_lt (a := 0) (by omega) (by omega)⟩)
  have K669 : ZW p l e R s m args below meth c w 6 H none 42 252 (MQ below (QP w (fun h v => h = H ∧ v = .int 1)) args s 60 360 (wA w)) 669 [(0, .ref (wB w + k)), (1, .long (nowF (zsF σ))), (3, .int (nI (gN (zsF σ)))), (4, .int (nI (bN (zsF σ))))] [] := by
    refine z_aload_n CX 0 dL_errors_669 rfl rfl ?_
    refine z_iconst CX (v := 0) dL_errors_670 (by decide) ?_
    refine z_lconst CX (v := 0) dL_errors_671 (by decide) ?_
    refine z_callSw CX hN dL_errors_672 csw_147 (e_scripta (a := 0) (b := 0) hI hσ (by decide) hl9) rfl rfl (Nat.le_of_ble_eq_true rfl) ⟨Nat.le_of_ble_eq_true rfl, Nat.le_of_ble_eq_true rfl⟩ ⟨by omega, by omega⟩ ?_
    refine z_ldc2 CX (v := -9000000000000000002) dL_errors_675 (wa_mem 558 (by decide +kernel) rfl) ?_
    refine z_lcmp CX dL_errors_678 ?_
    refine z_if_ne CX 752 dL_errors_679 (by decide) (fun q9 => absurd q9 (fun z9 => z9 ((lg_cmp_eq _ _).mpr rfl))) (fun _ => ?_)
    refine z_aload_n CX 0 dL_errors_682 rfl rfl ?_
    refine z_iconst CX (v := 3) dL_errors_683 (by decide) ?_
    refine z_ldc2 CX (v := 1000000000000000) dL_errors_684 (wa_mem 740 (by decide +kernel) rfl) ?_
    refine z_callSw CX hN dL_errors_687 csw_147 (e_scriptc (N9 := 3) (S9 := 1000000000000000) hI hσ ⟨by omega, by omega⟩ (by decide) lw15 hl9) rfl rfl (Nat.le_of_ble_eq_true rfl) ⟨Nat.le_of_ble_eq_true rfl, Nat.le_of_ble_eq_true rfl⟩ ⟨by omega, by omega⟩ ?_
    refine z_ldc2 CX (v := -9000000000000000002) dL_errors_690 (wa_mem 558 (by decide +kernel) rfl) ?_
    refine z_lcmp CX dL_errors_693 ?_
    refine z_if_ne CX 752 dL_errors_694 (by decide) (fun q9 => absurd q9 (fun z9 => z9 ((lg_cmp_eq _ _).mpr rfl))) (fun _ => ?_)
    refine z_aload_n CX 0 dL_errors_697 rfl rfl ?_
    refine z_lconst CX (v := 1) dL_errors_698 (by decide) ?_
    refine z_iconst CX (v := 0) dL_errors_699 (by decide) ?_
    refine z_callSw CX hN dL_errors_700 csw_153 (e_simulate (a := 1) (b := 0) hI hσ (by decide) hl9) rfl rfl (Nat.le_of_ble_eq_true rfl) ⟨Nat.le_of_ble_eq_true rfl, Nat.le_of_ble_eq_true rfl⟩ ⟨by omega, by omega⟩ ?_
    refine z_ldc2 CX (v := -9000000000000000002) dL_errors_703 (wa_mem 558 (by decide +kernel) rfl) ?_
    refine z_lcmp CX dL_errors_706 ?_
    refine z_if_ne CX 752 dL_errors_707 (by decide) (fun q9 => absurd q9 (fun z9 => z9 ((lg_cmp_eq _ _).mpr rfl))) (fun _ => ?_)
    refine z_aload_n CX 0 dL_errors_710 rfl rfl ?_
    refine z_iconst CX (v := 2) dL_errors_711 (by decide) ?_
    refine z_callSw CX hN dL_errors_712 csw_156 (e_save (a := 2) hI hσ (by decide) hl9) rfl rfl (Nat.le_of_ble_eq_true rfl) ⟨Nat.le_of_ble_eq_true rfl, Nat.le_of_ble_eq_true rfl⟩ ⟨by omega, by omega⟩ ?_
    refine z_ldc2 CX (v := -9000000000000000001) dL_errors_715 (wa_mem 518 (by decide +kernel) rfl) ?_
    refine z_lcmp CX dL_errors_718 ?_
    refine z_if_ne CX 752 dL_errors_719 (by decide) (fun q9 => absurd q9 (fun z9 => z9 ((lg_cmp_eq _ _).mpr rfl))) (fun _ => ?_)
    refine z_aload_n CX 0 dL_errors_722 rfl rfl ?_
    refine z_iconst CX (v := 2) dL_errors_723 (by decide) ?_
    refine z_callSw CX hN dL_errors_724 csw_158 (e_restore1 (a := 2) hI hσ (by decide) hl9) rfl rfl (Nat.le_of_ble_eq_true rfl) ⟨Nat.le_of_ble_eq_true rfl, Nat.le_of_ble_eq_true rfl⟩ ⟨by omega, by omega⟩ ?_
    refine z_ldc2 CX (v := -9000000000000000001) dL_errors_727 (wa_mem 518 (by decide +kernel) rfl) ?_
    refine z_lcmp CX dL_errors_730 ?_
    refine z_if_ne CX 752 dL_errors_731 (by decide) (fun q9 => absurd q9 (fun z9 => z9 ((lg_cmp_eq _ _).mpr rfl))) (fun _ => ?_)
    refine z_aload_n CX 0 dL_errors_734 rfl rfl ?_
    refine z_sipush CX (v := 256) dL_errors_735 (by decide) ?_
    refine z_callSw CX hN dL_errors_738 csw_160 (e_append2 (a := 256) hI hσ (by decide) hl9) rfl rfl (Nat.le_of_ble_eq_true rfl) ⟨Nat.le_of_ble_eq_true rfl, Nat.le_of_ble_eq_true rfl⟩ ⟨by omega, by omega⟩ ?_
    refine z_ldc2 CX (v := -9000000000000000002) dL_errors_741 (wa_mem 558 (by decide +kernel) rfl) ?_
    refine z_lcmp CX dL_errors_744 ?_
    refine z_if_ne CX 752 dL_errors_745 (by decide) (fun q9 => absurd q9 (fun z9 => z9 ((lg_cmp_eq _ _).mpr rfl))) (fun _ => ?_)
    refine z_iconst CX (v := 1) dL_errors_748 (by decide) ?_
    refine z_goto CX 753 dL_errors_749 (by decide) ?_
    refine z_istore CX dL_errors_753 (by decide) ?_
    refine z_iload CX dL_errors_755 rfl ?_
    refine z_if_eq CX 773 dL_errors_757 (by decide) (fun q9 => absurd q9 (by decide)) (fun _ => ?_)
    refine z_aload_n CX 0 dL_errors_760 rfl rfl ?_
    refine z_callSp CX hN dL_errors_761 cs_L_119 (c_now hI hσ) rfl rfl (Nat.le_of_ble_eq_true rfl) ⟨Nat.le_of_ble_eq_true rfl, Nat.le_of_ble_eq_true rfl⟩ ⟨by omega, by omega⟩ ?_
    intro H7 v7 hv7
    obtain ⟨rfl, rfl⟩ := hv7
    refine z_lload_n CX 1 dL_errors_764 rfl rfl ?_
    refine z_lcmp CX dL_errors_765 ?_
    refine z_if_ne CX 773 dL_errors_766 (by decide) (fun q9 => absurd q9 (fun z9 => z9 ((lg_cmp_eq _ _).mpr rfl))) (fun _ => ?_)
    refine z_iconst CX (v := 1) dL_errors_769 (by decide) ?_
    refine z_goto CX 774 dL_errors_770 (by decide) ?_
    exact z_zretP CX dL_errors_774 rfl rfl ⟨rfl, rfl⟩ (by omega) (by omega)
  have K648 : ZW p l e R s m args below meth c w 6 H none 41 246 (MQ below (QP w (fun h v => h = H ∧ v = .int 1)) args s 60 360 (wA w)) 648 [(0, .ref (wB w + k)), (1, .long (nowF (zsF σ))), (3, .int (nI (gN (zsF σ)))), (4, .int (nI (bN (zsF σ))))] [] := by
    refine z_iload CX dL_errors_648 rfl ?_
    refine z_bipush CX (v := 10) dL_errors_650 (by decide) ?_
    refine z_icmp_lt CX 669 dL_errors_652 (by decide) (fun c_652 => ?_) (fun c_652 => ?_)
    · skip
      refine z_widen (k9 := 42) (n9 := 252) (by omega) (by omega) ?_
      refine z_loc [(0, .ref (wB w + k)), (1, .long (nowF (zsF σ))), (3, .int (nI (gN (zsF σ)))), (4, .int (nI (bN (zsF σ))))] ⟨rfl, rfl, rfl, rfl, trivial⟩ ?_
      exact K669
    · skip
      refine z_aload_n CX 0 dL_errors_655 rfl rfl ?_
      refine z_iconst CX (v := 1) dL_errors_656 (by decide) ?_
      refine z_iconst CX (v := 0) dL_errors_657 (by decide) ?_
      refine z_iconst CX (v := 0) dL_errors_658 (by decide) ?_
      refine z_callSw CX hN dL_errors_659 csw_129 (e_boat3 (a := 1) (b := 0) (c := 0) hI hσ (by unfold fltB; rw [if_pos (by decide), if_pos (by decide), if_neg (fun q => c_652 (nI_lt (b := 10) q (by omega)))]; rfl) hl9) rfl rfl (Nat.le_of_ble_eq_true rfl) ⟨Nat.le_of_ble_eq_true rfl, Nat.le_of_ble_eq_true rfl⟩ ⟨by omega, by omega⟩ ?_
      refine z_ldc2 CX (v := -9000000000000000003) dL_errors_662 (wa_mem 487 (by decide +kernel) rfl) ?_
      refine z_lcmp CX dL_errors_665 ?_
      refine z_if_ne CX 752 dL_errors_666 (by decide) (fun q9 => absurd q9 (fun z9 => z9 ((lg_cmp_eq _ _).mpr rfl))) (fun _ => ?_)
      refine z_widen (k9 := 42) (n9 := 252) (by omega) (by omega) ?_
      refine z_loc [(0, .ref (wB w + k)), (1, .long (nowF (zsF σ))), (3, .int (nI (gN (zsF σ)))), (4, .int (nI (bN (zsF σ))))] ⟨rfl, rfl, rfl, rfl, trivial⟩ ?_
      exact K669
  have K626 : ZW p l e R s m args below meth c w 6 H none 40 240 (MQ below (QP w (fun h v => h = H ∧ v = .int 1)) args s 60 360 (wA w)) 626 [(0, .ref (wB w + k)), (1, .long (nowF (zsF σ))), (3, .int (nI (gN (zsF σ)))), (4, .int (nI (bN (zsF σ))))] [] := by
    refine z_iload_n CX 3 dL_errors_626 rfl rfl ?_
    refine z_bipush CX (v := 6) dL_errors_627 (by decide) ?_
    refine z_icmp_lt CX 648 dL_errors_629 (by decide) (fun c_629 => ?_) (fun c_629 => ?_)
    · skip
      refine z_widen (k9 := 41) (n9 := 246) (by omega) (by omega) ?_
      refine z_loc [(0, .ref (wB w + k)), (1, .long (nowF (zsF σ))), (3, .int (nI (gN (zsF σ)))), (4, .int (nI (bN (zsF σ))))] ⟨rfl, rfl, rfl, rfl, trivial⟩ ?_
      exact K648
    · skip
      refine z_aload_n CX 0 dL_errors_632 rfl rfl ?_
      refine z_bipush CX (v := 9) dL_errors_633 (by decide) ?_
      refine z_iconst CX (v := 0) dL_errors_635 (by decide) ?_
      refine z_iconst CX (v := 0) dL_errors_636 (by decide) ?_
      refine z_iconst CX (v := 0) dL_errors_637 (by decide) ?_
      refine z_callSw CX hN dL_errors_638 csw_126 (e_gutter3 (a := 9) (b := 0) (c := 0) (e := 0) hI hσ (by unfold fltG; rw [if_pos (Or.inr (ic00 (by have q8 : ¬ gN (zsF σ) < 6 := fun q => c_629 (nI_lt (b := 6) q (by omega)); omega))), if_pos (by decide), if_neg (fun q => c_629 (nI_lt (b := 6) q (by omega)))]; rfl) hl9) rfl rfl (Nat.le_of_ble_eq_true rfl) ⟨Nat.le_of_ble_eq_true rfl, Nat.le_of_ble_eq_true rfl⟩ ⟨by omega, by omega⟩ ?_
      refine z_ldc2 CX (v := -9000000000000000003) dL_errors_641 (wa_mem 487 (by decide +kernel) rfl) ?_
      refine z_lcmp CX dL_errors_644 ?_
      refine z_if_ne CX 752 dL_errors_645 (by decide) (fun q9 => absurd q9 (fun z9 => z9 ((lg_cmp_eq _ _).mpr rfl))) (fun _ => ?_)
      refine z_widen (k9 := 41) (n9 := 246) (by omega) (by omega) ?_
      refine z_loc [(0, .ref (wB w + k)), (1, .long (nowF (zsF σ))), (3, .int (nI (gN (zsF σ)))), (4, .int (nI (bN (zsF σ))))] ⟨rfl, rfl, rfl, rfl, trivial⟩ ?_
      exact K648
  have p0 : ∀ n9 : Nat, n9 < 100 → ¬ nI n9 = 0 → 0 < n9 := fun n9 _ h => by
    rcases Nat.eq_zero_or_pos n9 with q | q
    · exact absurd (by rw [q]; rfl) h
    · exact q
  have K598 : 0 < bN (zsF σ) → ZW p l e R s m args below meth c w 6 H none 39 234 (MQ below (QP w (fun h v => h = H ∧ v = .int 1)) args s 60 360 (wA w)) 598 [(0, .ref (wB w + k)), (1, .long (nowF (zsF σ))), (3, .int (nI (gN (zsF σ)))), (4, .int (nI (bN (zsF σ))))] [] := by
    intro hB0
    refine z_iload_n CX 3 dL_errors_598 rfl rfl ?_
    refine z_if_eq CX 626 dL_errors_599 (by decide) (fun c_599 => ?_) (fun c_599 => ?_)
    · skip
      refine z_widen (k9 := 40) (n9 := 240) (by omega) (by omega) ?_
      refine z_loc [(0, .ref (wB w + k)), (1, .long (nowF (zsF σ))), (3, .int (nI (gN (zsF σ)))), (4, .int (nI (bN (zsF σ))))] ⟨rfl, rfl, rfl, rfl, trivial⟩ ?_
      exact K626
    · skip
      refine z_aload_n CX 0 dL_errors_602 rfl rfl ?_
      refine z_iconst CX (v := 0) dL_errors_603 (by decide) ?_
      refine z_iconst CX (v := 3) dL_errors_604 (by decide) ?_
      refine z_callSw CX hN dL_errors_605 csw_115 (q_boatOf (j := 0) (i := 3) hI hσ hB0 (by omega)) rfl rfl (Nat.le_of_ble_eq_true rfl) ⟨Nat.le_of_ble_eq_true rfl, Nat.le_of_ble_eq_true rfl⟩ ⟨by omega, by omega⟩ ?_
      refine z_lconst CX (v := 0) dL_errors_608 (by decide) ?_
      refine z_lcmp CX dL_errors_609 ?_
      refine z_if_eq CX 626 dL_errors_610 (by decide) (fun c_610 => ?_) (fun c_610 => ?_)
      · skip
        refine z_widen (k9 := 40) (n9 := 240) (by omega) (by omega) ?_
        refine z_loc [(0, .ref (wB w + k)), (1, .long (nowF (zsF σ))), (3, .int (nI (gN (zsF σ)))), (4, .int (nI (bN (zsF σ))))] ⟨rfl, rfl, rfl, rfl, trivial⟩ ?_
        exact K626
      · skip
        refine z_aload_n CX 0 dL_errors_613 rfl rfl ?_
        refine z_iconst CX (v := 0) dL_errors_614 (by decide) ?_
        refine z_iconst CX (v := 0) dL_errors_615 (by decide) ?_
        refine z_callSw CX hN dL_errors_616 csw_131 (e_launch3 (a := 0) (b := 0) hI hσ (by
                have g0 : 0 < gN (zsF σ) := p0 _ (by omega) c_599
                show fltL (zsF σ) (nI 0) (nI 0) = nI 3
                unfold fltL
                rw [if_pos ⟨⟨by decide, nI_lt hB0 (by omega)⟩, ⟨by decide, nI_lt g0 (by omega)⟩⟩, nI_clamp (by omega), if_neg (show ¬ zsF σ (24 + 10 * 0 + 3) = 0 from fun q => c_610 ((lg_cmp_eq _ _).mpr (congrArg Int32.toInt64 (show boV (zsF σ) 0 3 = 0 from q))))]; rfl) hl9) rfl rfl (Nat.le_of_ble_eq_true rfl) ⟨Nat.le_of_ble_eq_true rfl, Nat.le_of_ble_eq_true rfl⟩ ⟨by omega, by omega⟩ ?_
        refine z_ldc2 CX (v := -9000000000000000003) dL_errors_619 (wa_mem 487 (by decide +kernel) rfl) ?_
        refine z_lcmp CX dL_errors_622 ?_
        refine z_if_ne CX 752 dL_errors_623 (by decide) (fun q9 => absurd q9 (fun z9 => z9 ((lg_cmp_eq _ _).mpr rfl))) (fun _ => ?_)
        refine z_widen (k9 := 40) (n9 := 240) (by omega) (by omega) ?_
        refine z_loc [(0, .ref (wB w + k)), (1, .long (nowF (zsF σ))), (3, .int (nI (gN (zsF σ)))), (4, .int (nI (bN (zsF σ))))] ⟨rfl, rfl, rfl, rfl, trivial⟩ ?_
        exact K626
  have z0B : ¬ nI (bN (zsF σ)) = 0 → 0 ≤ (0 : Int32) ∧ (0 : Int32) < nI (bN (zsF σ)) := fun h => ⟨by decide, nI_lt (a := 0) (p0 _ (by omega) h) (by omega)⟩
  have K542 : ZW p l e R s m args below meth c w 6 H none 36 216 (MQ below (QP w (fun h v => h = H ∧ v = .int 1)) args s 60 360 (wA w)) 542 [(0, .ref (wB w + k)), (1, .long (nowF (zsF σ))), (3, .int (nI (gN (zsF σ)))), (4, .int (nI (bN (zsF σ))))] [] := by
    refine z_iload CX dL_errors_542 rfl ?_
    refine z_if_eq CX 626 dL_errors_544 (by decide) (fun c_544 => ?_) (fun c_544 => ?_)
    · skip
      refine z_widen (k9 := 40) (n9 := 240) (by omega) (by omega) ?_
      refine z_loc [(0, .ref (wB w + k)), (1, .long (nowF (zsF σ))), (3, .int (nI (gN (zsF σ)))), (4, .int (nI (bN (zsF σ))))] ⟨rfl, rfl, rfl, rfl, trivial⟩ ?_
      exact K626
    · skip
      refine z_aload_n CX 0 dL_errors_547 rfl rfl ?_
      refine z_iconst CX (v := 0) dL_errors_548 (by decide) ?_
      refine z_bipush CX (v := 11) dL_errors_549 (by decide) ?_
      refine z_callSw CX hN dL_errors_551 csw_115 (e_boatOf2 (a := 0) (b := 11) hI hσ (z0B c_544) (by decide) hl9) rfl rfl (Nat.le_of_ble_eq_true rfl) ⟨Nat.le_of_ble_eq_true rfl, Nat.le_of_ble_eq_true rfl⟩ ⟨by omega, by omega⟩ ?_
      refine z_ldc2 CX (v := -9000000000000000002) dL_errors_554 (wa_mem 558 (by decide +kernel) rfl) ?_
      refine z_lcmp CX dL_errors_557 ?_
      refine z_if_ne CX 752 dL_errors_558 (by decide) (fun q9 => absurd q9 (fun z9 => z9 ((lg_cmp_eq _ _).mpr rfl))) (fun _ => ?_)
      refine z_aload_n CX 0 dL_errors_561 rfl rfl ?_
      refine z_iconst CX (v := 0) dL_errors_562 (by decide) ?_
      refine z_iconst CX (v := 2) dL_errors_563 (by decide) ?_
      refine z_callSw CX hN dL_errors_564 csw_143 (e_endsIn2 (a := 0) (b := 2) hI hσ (z0B c_544) (by decide) hl9) rfl rfl (Nat.le_of_ble_eq_true rfl) ⟨Nat.le_of_ble_eq_true rfl, Nat.le_of_ble_eq_true rfl⟩ ⟨by omega, by omega⟩ ?_
      refine z_ldc2 CX (v := -9000000000000000002) dL_errors_567 (wa_mem 558 (by decide +kernel) rfl) ?_
      refine z_lcmp CX dL_errors_570 ?_
      refine z_if_ne CX 752 dL_errors_571 (by decide) (fun q9 => absurd q9 (fun z9 => z9 ((lg_cmp_eq _ _).mpr rfl))) (fun _ => ?_)
      refine z_aload_n CX 0 dL_errors_574 rfl rfl ?_
      refine z_iconst CX (v := 0) dL_errors_575 (by decide) ?_
      refine z_iconst CX (v := 3) dL_errors_576 (by decide) ?_
      refine z_callSw CX hN dL_errors_577 csw_115 (q_boatOf (j := 0) (i := 3) hI hσ (p0 _ (by omega) c_544) (by omega)) rfl rfl (Nat.le_of_ble_eq_true rfl) ⟨Nat.le_of_ble_eq_true rfl, Nat.le_of_ble_eq_true rfl⟩ ⟨by omega, by omega⟩ ?_
      refine z_lconst CX (v := 1) dL_errors_580 (by decide) ?_
      refine z_lcmp CX dL_errors_581 ?_
      refine z_if_eq CX 598 dL_errors_582 (by decide) (fun c_582 => ?_) (fun c_582 => ?_)
      · skip
        refine z_widen (k9 := 39) (n9 := 234) (by omega) (by omega) ?_
        refine z_loc [(0, .ref (wB w + k)), (1, .long (nowF (zsF σ))), (3, .int (nI (gN (zsF σ)))), (4, .int (nI (bN (zsF σ))))] ⟨rfl, rfl, rfl, rfl, trivial⟩ ?_
        exact (K598 (p0 _ (by omega) c_544))
      · skip
        refine z_aload_n CX 0 dL_errors_585 rfl rfl ?_
        refine z_iconst CX (v := 0) dL_errors_586 (by decide) ?_
        refine z_iconst CX (v := 0) dL_errors_587 (by decide) ?_
        refine z_callSw CX hN dL_errors_588 csw_143 (e_endsIn3 (j := 0) (i := 0) hI hσ (p0 _ (by omega) c_544) (by omega) (fun q => c_582 ((lg_cmp_eq _ _).mpr (congrArg Int32.toInt64 (show boV (zsF σ) 0 3 = 1 from q)))) hl9) rfl rfl (Nat.le_of_ble_eq_true rfl) ⟨Nat.le_of_ble_eq_true rfl, Nat.le_of_ble_eq_true rfl⟩ ⟨by omega, by omega⟩ ?_
        refine z_ldc2 CX (v := -9000000000000000003) dL_errors_591 (wa_mem 487 (by decide +kernel) rfl) ?_
        refine z_lcmp CX dL_errors_594 ?_
        refine z_if_ne CX 752 dL_errors_595 (by decide) (fun q9 => absurd q9 (fun z9 => z9 ((lg_cmp_eq _ _).mpr rfl))) (fun _ => ?_)
        refine z_widen (k9 := 39) (n9 := 234) (by omega) (by omega) ?_
        refine z_loc [(0, .ref (wB w + k)), (1, .long (nowF (zsF σ))), (3, .int (nI (gN (zsF σ)))), (4, .int (nI (bN (zsF σ))))] ⟨rfl, rfl, rfl, rfl, trivial⟩ ?_
        exact (K598 (p0 _ (by omega) c_544))
  have K419 : ZW p l e R s m args below meth c w 6 H none 28 168 (MQ below (QP w (fun h v => h = H ∧ v = .int 1)) args s 60 360 (wA w)) 419 [(0, .ref (wB w + k)), (1, .long (nowF (zsF σ))), (3, .int (nI (gN (zsF σ)))), (4, .int (nI (bN (zsF σ))))] [] := by
    refine z_iload_n CX 3 dL_errors_419 rfl rfl ?_
    refine z_if_eq CX 542 dL_errors_420 (by decide) (fun c_420 => ?_) (fun c_420 => ?_)
    · skip
      refine z_widen (k9 := 36) (n9 := 216) (by omega) (by omega) ?_
      refine z_loc [(0, .ref (wB w + k)), (1, .long (nowF (zsF σ))), (3, .int (nI (gN (zsF σ)))), (4, .int (nI (bN (zsF σ))))] ⟨rfl, rfl, rfl, rfl, trivial⟩ ?_
      exact K542
    · skip
      have g0 : 0 < gN (zsF σ) := p0 _ (by omega) c_420
      replace ic00 := ic00 g0
      obtain ⟨L, l1, l2, l3⟩ := KL g0
      have ic40 : icl (zsF σ) (gN (zsF σ)) 0 40 = false := (icl_at (i := 0) g0 (by omega) l3).trans (decide_eq_false (fun q => absurd q.2 (nI_nlt (a := 40) (b := L) (by omega) (by omega))))
      have icm1 : icl (zsF σ) (gN (zsF σ)) 0 (-1) = false := (icl_at (i := 0) g0 (by omega) l3).trans (decide_eq_false (fun q => absurd q.1 (by decide)))
      have z0G : 0 ≤ (0 : Int32) ∧ (0 : Int32) < nI (gN (zsF σ)) := ⟨by decide, nI_lt (a := 0) g0 (by omega)⟩
      refine z_aload_n CX 0 dL_errors_423 rfl rfl ?_
      refine z_iconst CX (v := 0) dL_errors_424 (by decide) ?_
      refine z_bipush CX (v := 7) dL_errors_425 (by decide) ?_
      refine z_callSw CX hN dL_errors_427 csw_112 (e_gutterOf2 (a := 0) (b := 7) hI hσ z0G (by decide) hl9) rfl rfl (Nat.le_of_ble_eq_true rfl) ⟨Nat.le_of_ble_eq_true rfl, Nat.le_of_ble_eq_true rfl⟩ ⟨by omega, by omega⟩ ?_
      refine z_ldc2 CX (v := -9000000000000000002) dL_errors_430 (wa_mem 558 (by decide +kernel) rfl) ?_
      refine z_lcmp CX dL_errors_433 ?_
      refine z_if_ne CX 752 dL_errors_434 (by decide) (fun q9 => absurd q9 (fun z9 => z9 ((lg_cmp_eq _ _).mpr rfl))) (fun _ => ?_)
      refine z_aload_n CX 0 dL_errors_437 rfl rfl ?_
      refine z_bipush CX (v := 41) dL_errors_438 (by decide) ?_
      refine z_iconst CX (v := 0) dL_errors_440 (by decide) ?_
      refine z_iconst CX (v := 0) dL_errors_441 (by decide) ?_
      refine z_iconst CX (v := 0) dL_errors_442 (by decide) ?_
      refine z_callSw CX hN dL_errors_443 csw_126 (e_gutter2 (a := 41) (b := 0) (c := 0) (e := 0) hI hσ (by unfold fltG; rw [if_pos (Or.inr ic00), if_neg (by decide)]; rfl) hl9) rfl rfl (Nat.le_of_ble_eq_true rfl) ⟨Nat.le_of_ble_eq_true rfl, Nat.le_of_ble_eq_true rfl⟩ ⟨by omega, by omega⟩ ?_
      refine z_ldc2 CX (v := -9000000000000000002) dL_errors_446 (wa_mem 558 (by decide +kernel) rfl) ?_
      refine z_lcmp CX dL_errors_449 ?_
      refine z_if_ne CX 752 dL_errors_450 (by decide) (fun q9 => absurd q9 (fun z9 => z9 ((lg_cmp_eq _ _).mpr rfl))) (fun _ => ?_)
      refine z_aload_n CX 0 dL_errors_453 rfl rfl ?_
      refine z_bipush CX (v := 9) dL_errors_454 (by decide) ?_
      refine z_iconst CX (v := (-1 : Int32)) dL_errors_456 (by decide) ?_
      refine z_iconst CX (v := 0) dL_errors_457 (by decide) ?_
      refine z_iconst CX (v := 0) dL_errors_458 (by decide) ?_
      refine z_callSw CX hN dL_errors_459 csw_126 (e_gutter2 (a := 9) (b := (-1)) (c := 0) (e := 0) hI hσ (by unfold fltG; rw [if_pos (Or.inr ic00), if_neg (by decide)]; rfl) hl9) rfl rfl (Nat.le_of_ble_eq_true rfl) ⟨Nat.le_of_ble_eq_true rfl, Nat.le_of_ble_eq_true rfl⟩ ⟨by omega, by omega⟩ ?_
      refine z_ldc2 CX (v := -9000000000000000002) dL_errors_462 (wa_mem 558 (by decide +kernel) rfl) ?_
      refine z_lcmp CX dL_errors_465 ?_
      refine z_if_ne CX 752 dL_errors_466 (by decide) (fun q9 => absurd q9 (fun z9 => z9 ((lg_cmp_eq _ _).mpr rfl))) (fun _ => ?_)
      refine z_aload_n CX 0 dL_errors_469 rfl rfl ?_
      refine z_bipush CX (v := 9) dL_errors_470 (by decide) ?_
      refine z_iconst CX (v := 0) dL_errors_472 (by decide) ?_
      refine z_iconst CX (v := 0) dL_errors_473 (by decide) ?_
      refine z_bipush CX (v := 40) dL_errors_474 (by decide) ?_
      refine z_callSw CX hN dL_errors_476 csw_126 (e_gutter1 (a := 9) (b := 0) (c := 0) (e := 40) hI hσ (by unfold fltG; rw [if_neg (fun q => by rcases q with q | q; exact absurd q (by omega); rw [ic40] at q; exact absurd q Bool.false_ne_true)]; rfl) hl9) rfl rfl (Nat.le_of_ble_eq_true rfl) ⟨Nat.le_of_ble_eq_true rfl, Nat.le_of_ble_eq_true rfl⟩ ⟨by omega, by omega⟩ ?_
      refine z_ldc2 CX (v := -9000000000000000001) dL_errors_479 (wa_mem 518 (by decide +kernel) rfl) ?_
      refine z_lcmp CX dL_errors_482 ?_
      refine z_if_ne CX 752 dL_errors_483 (by decide) (fun q9 => absurd q9 (fun z9 => z9 ((lg_cmp_eq _ _).mpr rfl))) (fun _ => ?_)
      refine z_aload_n CX 0 dL_errors_486 rfl rfl ?_
      refine z_iconst CX (v := 0) dL_errors_487 (by decide) ?_
      refine z_bipush CX (v := 40) dL_errors_488 (by decide) ?_
      refine z_iconst CX (v := 0) dL_errors_490 (by decide) ?_
      refine z_callSw CX hN dL_errors_491 csw_123 (e_way1 (a := 0) (b := 40) (y := 0) hI hσ (fun q => absurd (ic40.symm.trans q) Bool.false_ne_true) hl9) rfl rfl (Nat.le_of_ble_eq_true rfl) ⟨Nat.le_of_ble_eq_true rfl, Nat.le_of_ble_eq_true rfl⟩ ⟨by omega, by omega⟩ ?_
      refine z_ldc2 CX (v := -9000000000000000001) dL_errors_494 (wa_mem 518 (by decide +kernel) rfl) ?_
      refine z_lcmp CX dL_errors_497 ?_
      refine z_if_ne CX 752 dL_errors_498 (by decide) (fun q9 => absurd q9 (fun z9 => z9 ((lg_cmp_eq _ _).mpr rfl))) (fun _ => ?_)
      refine z_aload_n CX 0 dL_errors_501 rfl rfl ?_
      refine z_iconst CX (v := 0) dL_errors_502 (by decide) ?_
      refine z_iconst CX (v := 0) dL_errors_503 (by decide) ?_
      refine z_iconst CX (v := (-1 : Int32)) dL_errors_504 (by decide) ?_
      refine z_callSw CX hN dL_errors_505 csw_123 (e_way2 (a := 0) (b := 0) (y := (-1)) hI hσ ic00 (by decide) hl9) rfl rfl (Nat.le_of_ble_eq_true rfl) ⟨Nat.le_of_ble_eq_true rfl, Nat.le_of_ble_eq_true rfl⟩ ⟨by omega, by omega⟩ ?_
      refine z_ldc2 CX (v := -9000000000000000002) dL_errors_508 (wa_mem 558 (by decide +kernel) rfl) ?_
      refine z_lcmp CX dL_errors_511 ?_
      refine z_if_ne CX 752 dL_errors_512 (by decide) (fun q9 => absurd q9 (fun z9 => z9 ((lg_cmp_eq _ _).mpr rfl))) (fun _ => ?_)
      refine z_aload_n CX 0 dL_errors_515 rfl rfl ?_
      refine z_iconst CX (v := 0) dL_errors_516 (by decide) ?_
      refine z_iconst CX (v := 0) dL_errors_517 (by decide) ?_
      refine z_iconst CX (v := (-1 : Int32)) dL_errors_518 (by decide) ?_
      refine z_callSw CX hN dL_errors_519 csw_133 (e_hook1 (a := 0) (b := 0) (c := (-1)) hI hσ (by unfold fltH; rw [if_neg (fun q => absurd (icm1.symm.trans q.2) Bool.false_ne_true)]; rfl) hl9) rfl rfl (Nat.le_of_ble_eq_true rfl) ⟨Nat.le_of_ble_eq_true rfl, Nat.le_of_ble_eq_true rfl⟩ ⟨by omega, by omega⟩ ?_
      refine z_ldc2 CX (v := -9000000000000000001) dL_errors_522 (wa_mem 518 (by decide +kernel) rfl) ?_
      refine z_lcmp CX dL_errors_525 ?_
      refine z_if_ne CX 752 dL_errors_526 (by decide) (fun q9 => absurd q9 (fun z9 => z9 ((lg_cmp_eq _ _).mpr rfl))) (fun _ => ?_)
      refine z_aload_n CX 0 dL_errors_529 rfl rfl ?_
      refine z_iconst CX (v := 0) dL_errors_530 (by decide) ?_
      refine z_iconst CX (v := (-1 : Int32)) dL_errors_531 (by decide) ?_
      refine z_callSw CX hN dL_errors_532 csw_145 (e_leastFolds2 (a := 0) (b := (-1)) hI hσ z0G (by decide) hl9) rfl rfl (Nat.le_of_ble_eq_true rfl) ⟨Nat.le_of_ble_eq_true rfl, Nat.le_of_ble_eq_true rfl⟩ ⟨by omega, by omega⟩ ?_
      refine z_ldc2 CX (v := -9000000000000000002) dL_errors_535 (wa_mem 558 (by decide +kernel) rfl) ?_
      refine z_lcmp CX dL_errors_538 ?_
      refine z_if_ne CX 752 dL_errors_539 (by decide) (fun q9 => absurd q9 (fun z9 => z9 ((lg_cmp_eq _ _).mpr rfl))) (fun _ => ?_)
      refine z_widen (k9 := 36) (n9 := 216) (by omega) (by omega) ?_
      refine z_loc [(0, .ref (wB w + k)), (1, .long (nowF (zsF σ))), (3, .int (nI (gN (zsF σ)))), (4, .int (nI (bN (zsF σ))))] ⟨rfl, rfl, rfl, rfl, trivial⟩ ?_
      exact K542
  have K164 : ZW p l e R s m args below meth c w 6 H none 10 60 (MQ below (QP w (fun h v => h = H ∧ v = .int 1)) args s 60 360 (wA w)) 164 [(0, .ref (wB w + k)), (1, .long (nowF (zsF σ))), (3, .int (nI (gN (zsF σ)))), (4, .int (nI (bN (zsF σ))))] [] := by
    refine z_aload_n CX 0 dL_errors_164 rfl rfl ?_
    refine z_iconst CX (v := 0) dL_errors_165 (by decide) ?_
    refine z_iconst CX (v := 0) dL_errors_166 (by decide) ?_
    refine z_iconst CX (v := 4) dL_errors_167 (by decide) ?_
    refine z_callSw CX hN dL_errors_168 csw_129 (e_boat1 (a := 0) (b := 0) (c := 4) hI hσ (by unfold fltB; rw [if_neg (by decide)]; rfl) hl9) rfl rfl (Nat.le_of_ble_eq_true rfl) ⟨Nat.le_of_ble_eq_true rfl, Nat.le_of_ble_eq_true rfl⟩ ⟨by omega, by omega⟩ ?_
    refine z_ldc2 CX (v := -9000000000000000001) dL_errors_171 (wa_mem 518 (by decide +kernel) rfl) ?_
    refine z_lcmp CX dL_errors_174 ?_
    refine z_if_ne CX 411 dL_errors_175 (by decide) (fun q9 => absurd q9 (fun z9 => z9 ((lg_cmp_eq _ _).mpr rfl))) (fun _ => ?_)
    refine z_aload_n CX 0 dL_errors_178 rfl rfl ?_
    refine z_iconst CX (v := 0) dL_errors_179 (by decide) ?_
    refine z_iconst CX (v := 0) dL_errors_180 (by decide) ?_
    refine z_iconst CX (v := 0) dL_errors_181 (by decide) ?_
    refine z_callSw CX hN dL_errors_182 csw_129 (e_boat2 (a := 0) (b := 0) (c := 0) hI hσ (by unfold fltB; rw [if_pos (by decide), if_neg (by decide)]; rfl) hl9) rfl rfl (Nat.le_of_ble_eq_true rfl) ⟨Nat.le_of_ble_eq_true rfl, Nat.le_of_ble_eq_true rfl⟩ ⟨by omega, by omega⟩ ?_
    refine z_ldc2 CX (v := -9000000000000000002) dL_errors_185 (wa_mem 558 (by decide +kernel) rfl) ?_
    refine z_lcmp CX dL_errors_188 ?_
    refine z_if_ne CX 411 dL_errors_189 (by decide) (fun q9 => absurd q9 (fun z9 => z9 ((lg_cmp_eq _ _).mpr rfl))) (fun _ => ?_)
    refine z_aload_n CX 0 dL_errors_192 rfl rfl ?_
    refine z_iconst CX (v := 1) dL_errors_193 (by decide) ?_
    refine z_iconst CX (v := 4) dL_errors_194 (by decide) ?_
    refine z_iconst CX (v := 0) dL_errors_195 (by decide) ?_
    refine z_callSw CX hN dL_errors_196 csw_129 (e_boat2 (a := 1) (b := 4) (c := 0) hI hσ (by unfold fltB; rw [if_pos (by decide), if_neg (by decide)]; rfl) hl9) rfl rfl (Nat.le_of_ble_eq_true rfl) ⟨Nat.le_of_ble_eq_true rfl, Nat.le_of_ble_eq_true rfl⟩ ⟨by omega, by omega⟩ ?_
    refine z_ldc2 CX (v := -9000000000000000002) dL_errors_199 (wa_mem 558 (by decide +kernel) rfl) ?_
    refine z_lcmp CX dL_errors_202 ?_
    refine z_if_ne CX 411 dL_errors_203 (by decide) (fun q9 => absurd q9 (fun z9 => z9 ((lg_cmp_eq _ _).mpr rfl))) (fun _ => ?_)
    refine z_aload_n CX 0 dL_errors_206 rfl rfl ?_
    refine z_iload CX dL_errors_207 rfl ?_
    refine z_iconst CX (v := 0) dL_errors_209 (by decide) ?_
    refine z_callSw CX hN dL_errors_210 csw_131 (e_launch1 (a := (nI (bN (zsF σ)))) (b := 0) hI hσ (by unfold fltL; rw [if_neg (fun q => ngB q.1)]; rfl) hl9) rfl rfl (Nat.le_of_ble_eq_true rfl) ⟨Nat.le_of_ble_eq_true rfl, Nat.le_of_ble_eq_true rfl⟩ ⟨by omega, by omega⟩ ?_
    refine z_ldc2 CX (v := -9000000000000000001) dL_errors_213 (wa_mem 518 (by decide +kernel) rfl) ?_
    refine z_lcmp CX dL_errors_216 ?_
    refine z_if_ne CX 411 dL_errors_217 (by decide) (fun q9 => absurd q9 (fun z9 => z9 ((lg_cmp_eq _ _).mpr rfl))) (fun _ => ?_)
    refine z_aload_n CX 0 dL_errors_220 rfl rfl ?_
    refine z_iconst CX (v := 0) dL_errors_221 (by decide) ?_
    refine z_iload_n CX 3 dL_errors_222 rfl rfl ?_
    refine z_callSw CX hN dL_errors_223 csw_131 (e_launch1 (a := 0) (b := (nI (gN (zsF σ)))) hI hσ (by unfold fltL; rw [if_neg (fun q => ngG q.2)]; rfl) hl9) rfl rfl (Nat.le_of_ble_eq_true rfl) ⟨Nat.le_of_ble_eq_true rfl, Nat.le_of_ble_eq_true rfl⟩ ⟨by omega, by omega⟩ ?_
    refine z_ldc2 CX (v := -9000000000000000001) dL_errors_226 (wa_mem 518 (by decide +kernel) rfl) ?_
    refine z_lcmp CX dL_errors_229 ?_
    refine z_if_ne CX 411 dL_errors_230 (by decide) (fun q9 => absurd q9 (fun z9 => z9 ((lg_cmp_eq _ _).mpr rfl))) (fun _ => ?_)
    refine z_aload_n CX 0 dL_errors_233 rfl rfl ?_
    refine z_iconst CX (v := (-1 : Int32)) dL_errors_234 (by decide) ?_
    refine z_iconst CX (v := 0) dL_errors_235 (by decide) ?_
    refine z_iconst CX (v := 0) dL_errors_236 (by decide) ?_
    refine z_callSw CX hN dL_errors_237 csw_133 (e_hook1 (a := (-1)) (b := 0) (c := 0) hI hσ (by unfold fltH; rw [if_neg (fun q => absurd q.1.1 (by decide))]; rfl) hl9) rfl rfl (Nat.le_of_ble_eq_true rfl) ⟨Nat.le_of_ble_eq_true rfl, Nat.le_of_ble_eq_true rfl⟩ ⟨by omega, by omega⟩ ?_
    refine z_ldc2 CX (v := -9000000000000000001) dL_errors_240 (wa_mem 518 (by decide +kernel) rfl) ?_
    refine z_lcmp CX dL_errors_243 ?_
    refine z_if_ne CX 411 dL_errors_244 (by decide) (fun q9 => absurd q9 (fun z9 => z9 ((lg_cmp_eq _ _).mpr rfl))) (fun _ => ?_)
    refine z_aload_n CX 0 dL_errors_247 rfl rfl ?_
    refine z_iconst CX (v := 0) dL_errors_248 (by decide) ?_
    refine z_iload_n CX 3 dL_errors_249 rfl rfl ?_
    refine z_iconst CX (v := 0) dL_errors_250 (by decide) ?_
    refine z_callSw CX hN dL_errors_251 csw_133 (e_hook1 (a := 0) (b := (nI (gN (zsF σ)))) (c := 0) hI hσ (by unfold fltH; rw [if_neg (fun q => absurd ((icl_0 ngG).symm.trans q.2) Bool.false_ne_true)]; rfl) hl9) rfl rfl (Nat.le_of_ble_eq_true rfl) ⟨Nat.le_of_ble_eq_true rfl, Nat.le_of_ble_eq_true rfl⟩ ⟨by omega, by omega⟩ ?_
    refine z_ldc2 CX (v := -9000000000000000001) dL_errors_254 (wa_mem 518 (by decide +kernel) rfl) ?_
    refine z_lcmp CX dL_errors_257 ?_
    refine z_if_ne CX 411 dL_errors_258 (by decide) (fun q9 => absurd q9 (fun z9 => z9 ((lg_cmp_eq _ _).mpr rfl))) (fun _ => ?_)
    refine z_aload_n CX 0 dL_errors_261 rfl rfl ?_
    refine z_iconst CX (v := 4) dL_errors_262 (by decide) ?_
    refine z_iconst CX (v := 0) dL_errors_263 (by decide) ?_
    refine z_callSw CX hN dL_errors_264 csw_135 (e_claim1 (a := 4) (b := 0) hI hσ (by unfold fltC; rw [if_neg (fun q => absurd q.1.2 (by decide))]; rfl) hl9) rfl rfl (Nat.le_of_ble_eq_true rfl) ⟨Nat.le_of_ble_eq_true rfl, Nat.le_of_ble_eq_true rfl⟩ ⟨by omega, by omega⟩ ?_
    refine z_ldc2 CX (v := -9000000000000000001) dL_errors_267 (wa_mem 518 (by decide +kernel) rfl) ?_
    refine z_lcmp CX dL_errors_270 ?_
    refine z_if_ne CX 411 dL_errors_271 (by decide) (fun q9 => absurd q9 (fun z9 => z9 ((lg_cmp_eq _ _).mpr rfl))) (fun _ => ?_)
    refine z_aload_n CX 0 dL_errors_274 rfl rfl ?_
    refine z_iconst CX (v := 0) dL_errors_275 (by decide) ?_
    refine z_iload CX dL_errors_276 rfl ?_
    refine z_callSw CX hN dL_errors_278 csw_135 (e_claim1 (a := 0) (b := (nI (bN (zsF σ)))) hI hσ (by unfold fltC; rw [if_neg (fun q => ngB q.2)]; rfl) hl9) rfl rfl (Nat.le_of_ble_eq_true rfl) ⟨Nat.le_of_ble_eq_true rfl, Nat.le_of_ble_eq_true rfl⟩ ⟨by omega, by omega⟩ ?_
    refine z_ldc2 CX (v := -9000000000000000001) dL_errors_281 (wa_mem 518 (by decide +kernel) rfl) ?_
    refine z_lcmp CX dL_errors_284 ?_
    refine z_if_ne CX 411 dL_errors_285 (by decide) (fun q9 => absurd q9 (fun z9 => z9 ((lg_cmp_eq _ _).mpr rfl))) (fun _ => ?_)
    refine z_aload_n CX 0 dL_errors_288 rfl rfl ?_
    refine z_iconst CX (v := 0) dL_errors_289 (by decide) ?_
    refine z_callSw CX hN dL_errors_290 csw_137 (e_minutes (a := 0) hI hσ (by decide) hl9) rfl rfl (Nat.le_of_ble_eq_true rfl) ⟨Nat.le_of_ble_eq_true rfl, Nat.le_of_ble_eq_true rfl⟩ ⟨by omega, by omega⟩ ?_
    refine z_ldc2 CX (v := -9000000000000000002) dL_errors_293 (wa_mem 558 (by decide +kernel) rfl) ?_
    refine z_lcmp CX dL_errors_296 ?_
    refine z_if_ne CX 411 dL_errors_297 (by decide) (fun q9 => absurd q9 (fun z9 => z9 ((lg_cmp_eq _ _).mpr rfl))) (fun _ => ?_)
    refine z_aload_n CX 0 dL_errors_300 rfl rfl ?_
    refine z_iconst CX (v := 0) dL_errors_301 (by decide) ?_
    refine z_iconst CX (v := 4) dL_errors_302 (by decide) ?_
    refine z_callSw CX hN dL_errors_303 csw_139 (e_set (a := 0) (b := 4) hI hσ (by decide) hl9) rfl rfl (Nat.le_of_ble_eq_true rfl) ⟨Nat.le_of_ble_eq_true rfl, Nat.le_of_ble_eq_true rfl⟩ ⟨by omega, by omega⟩ ?_
    refine z_ldc2 CX (v := -9000000000000000002) dL_errors_306 (wa_mem 558 (by decide +kernel) rfl) ?_
    refine z_lcmp CX dL_errors_309 ?_
    refine z_if_ne CX 411 dL_errors_310 (by decide) (fun q9 => absurd q9 (fun z9 => z9 ((lg_cmp_eq _ _).mpr rfl))) (fun _ => ?_)
    refine z_aload_n CX 0 dL_errors_313 rfl rfl ?_
    refine z_iconst CX (v := 1) dL_errors_314 (by decide) ?_
    refine z_iconst CX (v := 0) dL_errors_315 (by decide) ?_
    refine z_callSw CX hN dL_errors_316 csw_139 (e_set (a := 1) (b := 0) hI hσ (by decide) hl9) rfl rfl (Nat.le_of_ble_eq_true rfl) ⟨Nat.le_of_ble_eq_true rfl, Nat.le_of_ble_eq_true rfl⟩ ⟨by omega, by omega⟩ ?_
    refine z_ldc2 CX (v := -9000000000000000002) dL_errors_319 (wa_mem 558 (by decide +kernel) rfl) ?_
    refine z_lcmp CX dL_errors_322 ?_
    refine z_if_ne CX 411 dL_errors_323 (by decide) (fun q9 => absurd q9 (fun z9 => z9 ((lg_cmp_eq _ _).mpr rfl))) (fun _ => ?_)
    refine z_aload_n CX 0 dL_errors_326 rfl rfl ?_
    refine z_iconst CX (v := 2) dL_errors_327 (by decide) ?_
    refine z_bipush CX (v := 10) dL_errors_328 (by decide) ?_
    refine z_callSw CX hN dL_errors_330 csw_139 (e_set (a := 2) (b := 10) hI hσ (by decide) hl9) rfl rfl (Nat.le_of_ble_eq_true rfl) ⟨Nat.le_of_ble_eq_true rfl, Nat.le_of_ble_eq_true rfl⟩ ⟨by omega, by omega⟩ ?_
    refine z_ldc2 CX (v := -9000000000000000002) dL_errors_333 (wa_mem 558 (by decide +kernel) rfl) ?_
    refine z_lcmp CX dL_errors_336 ?_
    refine z_if_ne CX 411 dL_errors_337 (by decide) (fun q9 => absurd q9 (fun z9 => z9 ((lg_cmp_eq _ _).mpr rfl))) (fun _ => ?_)
    refine z_aload_n CX 0 dL_errors_340 rfl rfl ?_
    refine z_iconst CX (v := 3) dL_errors_341 (by decide) ?_
    refine z_iconst CX (v := 0) dL_errors_342 (by decide) ?_
    refine z_callSw CX hN dL_errors_343 csw_139 (e_set (a := 3) (b := 0) hI hσ (by decide) hl9) rfl rfl (Nat.le_of_ble_eq_true rfl) ⟨Nat.le_of_ble_eq_true rfl, Nat.le_of_ble_eq_true rfl⟩ ⟨by omega, by omega⟩ ?_
    refine z_ldc2 CX (v := -9000000000000000002) dL_errors_346 (wa_mem 558 (by decide +kernel) rfl) ?_
    refine z_lcmp CX dL_errors_349 ?_
    refine z_if_ne CX 411 dL_errors_350 (by decide) (fun q9 => absurd q9 (fun z9 => z9 ((lg_cmp_eq _ _).mpr rfl))) (fun _ => ?_)
    refine z_aload_n CX 0 dL_errors_353 rfl rfl ?_
    refine z_iconst CX (v := 4) dL_errors_354 (by decide) ?_
    refine z_iconst CX (v := 0) dL_errors_355 (by decide) ?_
    refine z_callSw CX hN dL_errors_356 csw_141 (e_why (a := 4) (b := 0) hI hσ (fun q => absurd q.1.2 (by decide)) hl9) rfl rfl (Nat.le_of_ble_eq_true rfl) ⟨Nat.le_of_ble_eq_true rfl, Nat.le_of_ble_eq_true rfl⟩ ⟨by omega, by omega⟩ ?_
    refine z_ldc2 CX (v := -9000000000000000001) dL_errors_359 (wa_mem 518 (by decide +kernel) rfl) ?_
    refine z_lcmp CX dL_errors_362 ?_
    refine z_if_ne CX 411 dL_errors_363 (by decide) (fun q9 => absurd q9 (fun z9 => z9 ((lg_cmp_eq _ _).mpr rfl))) (fun _ => ?_)
    refine z_aload_n CX 0 dL_errors_366 rfl rfl ?_
    refine z_iconst CX (v := 0) dL_errors_367 (by decide) ?_
    refine z_iload CX dL_errors_368 rfl ?_
    refine z_callSw CX hN dL_errors_370 csw_141 (e_why (a := 0) (b := (nI (bN (zsF σ)))) hI hσ (fun q => ngB q.2) hl9) rfl rfl (Nat.le_of_ble_eq_true rfl) ⟨Nat.le_of_ble_eq_true rfl, Nat.le_of_ble_eq_true rfl⟩ ⟨by omega, by omega⟩ ?_
    refine z_ldc2 CX (v := -9000000000000000001) dL_errors_373 (wa_mem 518 (by decide +kernel) rfl) ?_
    refine z_lcmp CX dL_errors_376 ?_
    refine z_if_ne CX 411 dL_errors_377 (by decide) (fun q9 => absurd q9 (fun z9 => z9 ((lg_cmp_eq _ _).mpr rfl))) (fun _ => ?_)
    refine z_aload_n CX 0 dL_errors_380 rfl rfl ?_
    refine z_iload CX dL_errors_381 rfl ?_
    refine z_iconst CX (v := 2) dL_errors_383 (by decide) ?_
    refine z_callSw CX hN dL_errors_384 csw_143 (e_endsIn1 (a := (nI (bN (zsF σ)))) (b := 2) hI hσ ngB hl9) rfl rfl (Nat.le_of_ble_eq_true rfl) ⟨Nat.le_of_ble_eq_true rfl, Nat.le_of_ble_eq_true rfl⟩ ⟨by omega, by omega⟩ ?_
    refine z_ldc2 CX (v := -9000000000000000001) dL_errors_387 (wa_mem 518 (by decide +kernel) rfl) ?_
    refine z_lcmp CX dL_errors_390 ?_
    refine z_if_ne CX 411 dL_errors_391 (by decide) (fun q9 => absurd q9 (fun z9 => z9 ((lg_cmp_eq _ _).mpr rfl))) (fun _ => ?_)
    refine z_aload_n CX 0 dL_errors_394 rfl rfl ?_
    refine z_iload_n CX 3 dL_errors_395 rfl rfl ?_
    refine z_iconst CX (v := 4) dL_errors_396 (by decide) ?_
    refine z_callSw CX hN dL_errors_397 csw_145 (e_leastFolds1 (a := (nI (gN (zsF σ)))) (b := 4) hI hσ ngG hl9) rfl rfl (Nat.le_of_ble_eq_true rfl) ⟨Nat.le_of_ble_eq_true rfl, Nat.le_of_ble_eq_true rfl⟩ ⟨by omega, by omega⟩ ?_
    refine z_ldc2 CX (v := -9000000000000000001) dL_errors_400 (wa_mem 518 (by decide +kernel) rfl) ?_
    refine z_lcmp CX dL_errors_403 ?_
    refine z_if_ne CX 411 dL_errors_404 (by decide) (fun q9 => absurd q9 (fun z9 => z9 ((lg_cmp_eq _ _).mpr rfl))) (fun _ => ?_)
    refine z_iconst CX (v := 1) dL_errors_407 (by decide) ?_
    refine z_goto CX 412 dL_errors_408 (by decide) ?_
    refine z_istore CX dL_errors_412 (by decide) ?_
    refine z_iload CX dL_errors_414 rfl ?_
    refine z_if_eq CX 752 dL_errors_416 (by decide) (fun q9 => absurd q9 (by decide)) (fun _ => ?_)
    refine z_widen (k9 := 28) (n9 := 168) (by omega) (by omega) ?_
    refine z_loc [(0, .ref (wB w + k)), (1, .long (nowF (zsF σ))), (3, .int (nI (gN (zsF σ)))), (4, .int (nI (bN (zsF σ))))] ⟨rfl, rfl, rfl, rfl, trivial⟩ ?_
    exact K419
  have K139 : ZW p l e R s m args below meth c w 6 H none 9 54 (MQ below (QP w (fun h v => h = H ∧ v = .int 1)) args s 60 360 (wA w)) 139 [(0, .ref (wB w + k)), (1, .long (nowF (zsF σ))), (3, .int (nI (gN (zsF σ)))), (4, .int (nI (bN (zsF σ))))] [] := by
    by_cases hg0 : gN (zsF σ) = 0
    · skip
      refine z_aload_n CX 0 dL_errors_139 rfl rfl ?_
      refine z_iconst CX (v := 3) dL_errors_140 (by decide) ?_
      refine z_iconst CX (v := 0) dL_errors_141 (by decide) ?_
      refine z_iload_n CX 3 dL_errors_142 rfl rfl ?_
      refine z_iconst CX (v := 0) dL_errors_143 (by decide) ?_
      refine z_callSw CX hN dL_errors_144 csw_126 (e_gutter2 (a := 3) (b := 0) (c := (nI (gN (zsF σ)))) (e := 0) hI hσ (by unfold fltG; rw [if_pos (Or.inl hg0), if_neg (by decide)]; rfl) hl9) rfl rfl (Nat.le_of_ble_eq_true rfl) ⟨Nat.le_of_ble_eq_true rfl, Nat.le_of_ble_eq_true rfl⟩ ⟨by omega, by omega⟩ ?_
      refine z_iload_n CX 3 dL_errors_147 rfl rfl ?_
      refine z_if_ne CX 157 dL_errors_148 (by decide) (fun q9 => absurd q9 (fun z9 => z9 (by rw [hg0]; rfl))) (fun _ => ?_)
      refine z_ldc2 CX (v := -9000000000000000002) dL_errors_151 (wa_mem 558 (by decide +kernel) rfl) ?_
      refine z_goto CX 160 dL_errors_154 (by decide) ?_
      refine z_lcmp CX dL_errors_160 ?_
      refine z_if_ne CX 411 dL_errors_161 (by decide) (fun q9 => absurd q9 (fun z9 => z9 ((lg_cmp_eq _ _).mpr rfl))) (fun _ => ?_)
      refine z_widen (k9 := 10) (n9 := 60) (by omega) (by omega) ?_
      refine z_loc [(0, .ref (wB w + k)), (1, .long (nowF (zsF σ))), (3, .int (nI (gN (zsF σ)))), (4, .int (nI (bN (zsF σ))))] ⟨rfl, rfl, rfl, rfl, trivial⟩ ?_
      exact K164
    · skip
      refine z_aload_n CX 0 dL_errors_139 rfl rfl ?_
      refine z_iconst CX (v := 3) dL_errors_140 (by decide) ?_
      refine z_iconst CX (v := 0) dL_errors_141 (by decide) ?_
      refine z_iload_n CX 3 dL_errors_142 rfl rfl ?_
      refine z_iconst CX (v := 0) dL_errors_143 (by decide) ?_
      refine z_callSw CX hN dL_errors_144 csw_126 (e_gutter1 (a := 3) (b := 0) (c := (nI (gN (zsF σ)))) (e := 0) hI hσ (by unfold fltG; rw [if_neg (fun q => by rcases q with q | q; exact hg0 q; exact absurd ((icl_0 ngG).symm.trans q) Bool.false_ne_true)]; rfl) hl9) rfl rfl (Nat.le_of_ble_eq_true rfl) ⟨Nat.le_of_ble_eq_true rfl, Nat.le_of_ble_eq_true rfl⟩ ⟨by omega, by omega⟩ ?_
      refine z_iload_n CX 3 dL_errors_147 rfl rfl ?_
      refine z_if_ne CX 157 dL_errors_148 (by decide) (fun _ => ?_) (fun q9 => absurd q9 (nI_ne0 (by omega) (by omega)))
      refine z_ldc2 CX (v := -9000000000000000001) dL_errors_157 (wa_mem 518 (by decide +kernel) rfl) ?_
      refine z_lcmp CX dL_errors_160 ?_
      refine z_if_ne CX 411 dL_errors_161 (by decide) (fun q9 => absurd q9 (fun z9 => z9 ((lg_cmp_eq _ _).mpr rfl))) (fun _ => ?_)
      refine z_widen (k9 := 10) (n9 := 60) (by omega) (by omega) ?_
      refine z_loc [(0, .ref (wB w + k)), (1, .long (nowF (zsF σ))), (3, .int (nI (gN (zsF σ)))), (4, .int (nI (bN (zsF σ))))] ⟨rfl, rfl, rfl, rfl, trivial⟩ ?_
      exact K164
  refine z_aload_n CX 0 dL_errors_0 rfl rfl ?_
  refine z_callSp CX hN dL_errors_1 cs_L_119 (c_now hI hσ) rfl rfl (Nat.le_of_ble_eq_true rfl) ⟨Nat.le_of_ble_eq_true rfl, Nat.le_of_ble_eq_true rfl⟩ ⟨by omega, by omega⟩ ?_
  intro H7 v7 hv7
  obtain ⟨rfl, rfl⟩ := hv7
  refine z_lstore_n CX 1 dL_errors_4 rfl (by decide) ?_
  refine z_aload_n CX 0 dL_errors_5 rfl rfl ?_
  refine z_iconst CX (v := 0) dL_errors_6 (by decide) ?_
  refine z_callSw CX hN dL_errors_7 csw_103 (q_about (i := 0) hI hσ (by omega)) rfl rfl (Nat.le_of_ble_eq_true rfl) ⟨Nat.le_of_ble_eq_true rfl, Nat.le_of_ble_eq_true rfl⟩ ⟨by omega, by omega⟩ ?_
  refine z_l2i CX dL_errors_10 (l2n e146) ?_
  refine z_istore_n CX 3 dL_errors_11 rfl (by decide) ?_
  refine z_aload_n CX 0 dL_errors_12 rfl rfl ?_
  refine z_iconst CX (v := 1) dL_errors_13 (by decide) ?_
  refine z_callSw CX hN dL_errors_14 csw_103 (q_about (i := 1) hI hσ (by omega)) rfl rfl (Nat.le_of_ble_eq_true rfl) ⟨Nat.le_of_ble_eq_true rfl, Nat.le_of_ble_eq_true rfl⟩ ⟨by omega, by omega⟩ ?_
  refine z_l2i CX dL_errors_17 (l2n e147) ?_
  refine z_istore CX dL_errors_18 (by decide) ?_
  refine z_aload_n CX 0 dL_errors_20 rfl rfl ?_
  refine z_iconst CX (v := (-1 : Int32)) dL_errors_21 (by decide) ?_
  refine z_callSw CX hN dL_errors_22 csw_103 (e_about (a := (-1)) hI hσ (by decide) hl9) rfl rfl (Nat.le_of_ble_eq_true rfl) ⟨Nat.le_of_ble_eq_true rfl, Nat.le_of_ble_eq_true rfl⟩ ⟨by omega, by omega⟩ ?_
  refine z_ldc2 CX (v := -9000000000000000002) dL_errors_25 (wa_mem 558 (by decide +kernel) rfl) ?_
  refine z_lcmp CX dL_errors_28 ?_
  refine z_if_ne CX 411 dL_errors_29 (by decide) (fun q9 => absurd q9 (fun z9 => z9 ((lg_cmp_eq _ _).mpr rfl))) (fun _ => ?_)
  refine z_aload_n CX 0 dL_errors_32 rfl rfl ?_
  refine z_bipush CX (v := 14) dL_errors_33 (by decide) ?_
  refine z_callSw CX hN dL_errors_35 csw_103 (e_about (a := 14) hI hσ (by decide) hl9) rfl rfl (Nat.le_of_ble_eq_true rfl) ⟨Nat.le_of_ble_eq_true rfl, Nat.le_of_ble_eq_true rfl⟩ ⟨by omega, by omega⟩ ?_
  refine z_ldc2 CX (v := -9000000000000000002) dL_errors_38 (wa_mem 558 (by decide +kernel) rfl) ?_
  refine z_lcmp CX dL_errors_41 ?_
  refine z_if_ne CX 411 dL_errors_42 (by decide) (fun q9 => absurd q9 (fun z9 => z9 ((lg_cmp_eq _ _).mpr rfl))) (fun _ => ?_)
  refine z_aload_n CX 0 dL_errors_45 rfl rfl ?_
  refine z_iload_n CX 3 dL_errors_46 rfl rfl ?_
  refine z_bipush CX (v := 7) dL_errors_47 (by decide) ?_
  refine z_callSw CX hN dL_errors_49 csw_112 (e_gutterOf1 (a := (nI (gN (zsF σ)))) (b := 7) hI hσ ngG hl9) rfl rfl (Nat.le_of_ble_eq_true rfl) ⟨Nat.le_of_ble_eq_true rfl, Nat.le_of_ble_eq_true rfl⟩ ⟨by omega, by omega⟩ ?_
  refine z_ldc2 CX (v := -9000000000000000001) dL_errors_52 (wa_mem 518 (by decide +kernel) rfl) ?_
  refine z_lcmp CX dL_errors_55 ?_
  refine z_if_ne CX 411 dL_errors_56 (by decide) (fun q9 => absurd q9 (fun z9 => z9 ((lg_cmp_eq _ _).mpr rfl))) (fun _ => ?_)
  refine z_aload_n CX 0 dL_errors_59 rfl rfl ?_
  refine z_iconst CX (v := (-1 : Int32)) dL_errors_60 (by decide) ?_
  refine z_iconst CX (v := 0) dL_errors_61 (by decide) ?_
  refine z_callSw CX hN dL_errors_62 csw_112 (e_gutterOf1 (a := (-1)) (b := 0) hI hσ (fun q => absurd q.1 (by decide)) hl9) rfl rfl (Nat.le_of_ble_eq_true rfl) ⟨Nat.le_of_ble_eq_true rfl, Nat.le_of_ble_eq_true rfl⟩ ⟨by omega, by omega⟩ ?_
  refine z_ldc2 CX (v := -9000000000000000001) dL_errors_65 (wa_mem 518 (by decide +kernel) rfl) ?_
  refine z_lcmp CX dL_errors_68 ?_
  refine z_if_ne CX 411 dL_errors_69 (by decide) (fun q9 => absurd q9 (fun z9 => z9 ((lg_cmp_eq _ _).mpr rfl))) (fun _ => ?_)
  refine z_aload_n CX 0 dL_errors_72 rfl rfl ?_
  refine z_iload CX dL_errors_73 rfl ?_
  refine z_bipush CX (v := 11) dL_errors_75 (by decide) ?_
  refine z_callSw CX hN dL_errors_77 csw_115 (e_boatOf1 (a := (nI (bN (zsF σ)))) (b := 11) hI hσ ngB hl9) rfl rfl (Nat.le_of_ble_eq_true rfl) ⟨Nat.le_of_ble_eq_true rfl, Nat.le_of_ble_eq_true rfl⟩ ⟨by omega, by omega⟩ ?_
  refine z_ldc2 CX (v := -9000000000000000001) dL_errors_80 (wa_mem 518 (by decide +kernel) rfl) ?_
  refine z_lcmp CX dL_errors_83 ?_
  refine z_if_ne CX 411 dL_errors_84 (by decide) (fun q9 => absurd q9 (fun z9 => z9 ((lg_cmp_eq _ _).mpr rfl))) (fun _ => ?_)
  refine z_aload_n CX 0 dL_errors_87 rfl rfl ?_
  refine z_iconst CX (v := 4) dL_errors_88 (by decide) ?_
  refine z_iconst CX (v := 5) dL_errors_89 (by decide) ?_
  refine z_callSw CX hN dL_errors_90 csw_117 (e_ownerOf1 (a := 4) (b := 5) hI hσ (by decide) hl9) rfl rfl (Nat.le_of_ble_eq_true rfl) ⟨Nat.le_of_ble_eq_true rfl, Nat.le_of_ble_eq_true rfl⟩ ⟨by omega, by omega⟩ ?_
  refine z_ldc2 CX (v := -9000000000000000001) dL_errors_93 (wa_mem 518 (by decide +kernel) rfl) ?_
  refine z_lcmp CX dL_errors_96 ?_
  refine z_if_ne CX 411 dL_errors_97 (by decide) (fun q9 => absurd q9 (fun z9 => z9 ((lg_cmp_eq _ _).mpr rfl))) (fun _ => ?_)
  refine z_aload_n CX 0 dL_errors_100 rfl rfl ?_
  refine z_iconst CX (v := 0) dL_errors_101 (by decide) ?_
  refine z_iconst CX (v := 5) dL_errors_102 (by decide) ?_
  refine z_callSw CX hN dL_errors_103 csw_117 (e_ownerOf2 (a := 0) (b := 5) hI hσ (by decide) (by decide) hl9) rfl rfl (Nat.le_of_ble_eq_true rfl) ⟨Nat.le_of_ble_eq_true rfl, Nat.le_of_ble_eq_true rfl⟩ ⟨by omega, by omega⟩ ?_
  refine z_ldc2 CX (v := -9000000000000000002) dL_errors_106 (wa_mem 558 (by decide +kernel) rfl) ?_
  refine z_lcmp CX dL_errors_109 ?_
  refine z_if_ne CX 411 dL_errors_110 (by decide) (fun q9 => absurd q9 (fun z9 => z9 ((lg_cmp_eq _ _).mpr rfl))) (fun _ => ?_)
  refine z_aload_n CX 0 dL_errors_113 rfl rfl ?_
  refine z_iload_n CX 3 dL_errors_114 rfl rfl ?_
  refine z_iconst CX (v := 0) dL_errors_115 (by decide) ?_
  refine z_iconst CX (v := 2) dL_errors_116 (by decide) ?_
  refine z_callSw CX hN dL_errors_117 csw_123 (e_way1 (a := (nI (gN (zsF σ)))) (b := 0) (y := 2) hI hσ (fun q => absurd ((icl_0 ngG).symm.trans q) Bool.false_ne_true) hl9) rfl rfl (Nat.le_of_ble_eq_true rfl) ⟨Nat.le_of_ble_eq_true rfl, Nat.le_of_ble_eq_true rfl⟩ ⟨by omega, by omega⟩ ?_
  refine z_ldc2 CX (v := -9000000000000000001) dL_errors_120 (wa_mem 518 (by decide +kernel) rfl) ?_
  refine z_lcmp CX dL_errors_123 ?_
  refine z_if_ne CX 411 dL_errors_124 (by decide) (fun q9 => absurd q9 (fun z9 => z9 ((lg_cmp_eq _ _).mpr rfl))) (fun _ => ?_)
  refine z_aload_n CX 0 dL_errors_127 rfl rfl ?_
  refine z_iconst CX (v := 3) dL_errors_128 (by decide) ?_
  refine z_callSw CX hN dL_errors_129 csw_110 (e_setting (a := 3) hI hσ (by decide) hl9) rfl rfl (Nat.le_of_ble_eq_true rfl) ⟨Nat.le_of_ble_eq_true rfl, Nat.le_of_ble_eq_true rfl⟩ ⟨by omega, by omega⟩ ?_
  refine z_ldc2 CX (v := -9000000000000000002) dL_errors_132 (wa_mem 558 (by decide +kernel) rfl) ?_
  refine z_lcmp CX dL_errors_135 ?_
  refine z_if_ne CX 411 dL_errors_136 (by decide) (fun q9 => absurd q9 (fun z9 => z9 ((lg_cmp_eq _ _).mpr rfl))) (fun _ => ?_)
  refine z_widen (k9 := 9) (n9 := 54) (by omega) (by omega) ?_
  refine z_loc [(0, .ref (wB w + k)), (1, .long (nowF (zsF σ))), (3, .int (nI (gN (zsF σ)))), (4, .int (nI (bN (zsF σ))))] ⟨rfl, rfl, rfl, rfl, trivial⟩ ?_
  exact K139
end
