/-! the model: what needs no row -/
set_option maxHeartbeats 4000000 in
set_option maxRecDepth 100000 in
theorem c_in {l : Launch} {w : Wt} {hs : Hs} {n : Option Nat} (v a b : Int64) : Cn l w mX6_in 0 0 [.long v, .long a, .long b] hs n hs n (some (.int (bI (decide (a ≤ v ∧ v ≤ b))))) := by
  refine Cn.of (d := mX6_in) (by decide +kernel) (Nat.le_of_ble_eq_true rfl) ?_
  intro p e R s m args below meth c CX
  replace CX : Ctx p s m args meth c R w RX6 "in" cX6_in 6 (some .boolean) 0 0 0 0 := CX
  show ZW p l e R s m args below meth c w 6 _ _ 0 0 (MQ below (Qn w _ _ _) args s 0 0 (wA w)) 0 [(0, .long v), (2, .long a), (4, .long b)] []
  refine z_lload_n CX 0 dX6_in_0 rfl rfl ?_
  refine z_lload_n CX 2 dX6_in_1 rfl rfl ?_
  refine z_lcmp CX dX6_in_2 ?_
  refine z_if_lt CX 17 dX6_in_3 (by decide) (fun c_3 => ?_) (fun c_3 => ?_)
  · skip
    refine z_iconst CX (v := 0) dX6_in_17 (by decide) ?_
    exact z_zret CX dX6_in_18 rfl rfl (congrArg Value.int (by rw [decide_eq_false (fun h => absurd ((lg_cmp_lt v a).mp c_3) (Int64.not_lt.mpr h.1))]; rfl)) rfl (Or.inl rfl)
  · skip
    refine z_lload_n CX 0 dX6_in_6 rfl rfl ?_
    refine z_lload CX dX6_in_7 rfl ?_
    refine z_lcmp CX dX6_in_9 ?_
    refine z_if_gt CX 17 dX6_in_10 (by decide) (fun c_10 => ?_) (fun c_10 => ?_)
    · skip
      refine z_iconst CX (v := 0) dX6_in_17 (by decide) ?_
      exact z_zret CX dX6_in_18 rfl rfl (congrArg Value.int (by rw [decide_eq_false (fun h => absurd ((lg_cmp_gt v b).mp c_10) (Int64.not_lt.mpr h.2))]; rfl)) rfl (Or.inl rfl)
    · skip
      refine z_iconst CX (v := 1) dX6_in_13 (by decide) ?_
      refine z_goto CX 18 dX6_in_14 (by decide) ?_
      exact z_zret CX dX6_in_18 rfl rfl (congrArg Value.int (by rw [decide_eq_true ⟨Int64.not_lt.mp (fun h => c_3 ((lg_cmp_lt v a).mpr h)), Int64.not_lt.mp (fun h => c_10 ((lg_cmp_gt v b).mpr h))⟩]; rfl)) rfl (Or.inl rfl)
def abI (v : Int32) : Int32 := if v < 0 then -v else v
set_option maxHeartbeats 4000000 in
set_option maxRecDepth 100000 in
theorem c_mabs {l : Launch} {w : Wt} {hs : Hs} {n : Option Nat} (v : Int32) : Cn l w mX6_abs 0 0 [.int v] hs n hs n (some (.int (abI v))) := by
  refine Cn.of (d := mX6_abs) (by decide +kernel) (Nat.le_of_ble_eq_true rfl) ?_
  intro p e R s m args below meth c CX
  replace CX : Ctx p s m args meth c R w RX6 "abs" cX6_abs 1 (some .int) 0 0 0 0 := CX
  show ZW p l e R s m args below meth c w 1 _ _ 0 0 (MQ below (Qn w _ _ _) args s 0 0 (wA w)) 0 [(0, .int v)] []
  refine z_iload_n CX 0 dX6_abs_0 rfl rfl ?_
  refine z_if_ge CX 9 dX6_abs_1 (by decide) (fun c_1 => ?_) (fun c_1 => ?_)
  · skip
    refine z_iload_n CX 0 dX6_abs_9 rfl rfl ?_
    exact z_iret CX dX6_abs_10 rfl (congrArg Value.int (by unfold abI; rw [if_neg (Int32.not_lt.mpr c_1)])) rfl (Or.inl rfl)
  · skip
    refine z_iload_n CX 0 dX6_abs_4 rfl rfl ?_
    refine z_ineg CX dX6_abs_5 ?_
    refine z_goto CX 10 dX6_abs_6 (by decide) ?_
    exact z_iret CX dX6_abs_10 rfl (congrArg Value.int (by unfold abI; rw [if_pos (Int32.not_le.mp c_1)])) rfl (Or.inl rfl)
