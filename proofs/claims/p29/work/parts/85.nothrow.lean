/-! a fault that is none -/
set_option maxHeartbeats 4000000 in
set_option maxRecDepth 100000 in
theorem g_thr0 {l : Launch} {w : Wt} {hs : Hs} {n : Option Nat} : Cn l w mX5_throwFor 0 0 [.int 0] hs n hs n none := by
  refine Cn.of (d := mX5_throwFor) (by decide +kernel) (Nat.le_of_ble_eq_true rfl) ?_
  intro p e R s m args below meth c CX
  replace CX : Ctx p s m args meth c R w RX5 "throwFor" cX5_throwFor 1 none 6 92 0 0 := CX
  show ZW p l e R s m args below meth c w 1 _ _ 0 0 (MQ below (Qn w _ _ _) args s 0 0 (wA w)) 0 [(0, .int 0)] []
  refine z_iload_n CX 0 dX5_throwFor_0 rfl rfl ?_
  refine z_iconst CX (v := 1) dX5_throwFor_1 (by decide) ?_
  refine z_icmp_ne CX 15 dX5_throwFor_2 (by decide) (fun _ => ?_) (fun q9 => absurd q9 (by decide))
  refine z_iload_n CX 0 dX5_throwFor_15 rfl rfl ?_
  refine z_iconst CX (v := 2) dX5_throwFor_16 (by decide) ?_
  refine z_icmp_ne CX 30 dX5_throwFor_17 (by decide) (fun _ => ?_) (fun q9 => absurd q9 (by decide))
  refine z_iload_n CX 0 dX5_throwFor_30 rfl rfl ?_
  refine z_iconst CX (v := 3) dX5_throwFor_31 (by decide) ?_
  refine z_icmp_ne CX 45 dX5_throwFor_32 (by decide) (fun _ => ?_) (fun q9 => absurd q9 (by decide))
  exact z_vret CX dX5_throwFor_45 rfl rfl (Or.inl rfl)
