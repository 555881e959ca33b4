/-! a history made -/
theorem sh_sh {w : Wt} {hs : Hs} {k N : Nat} {v : va_E} {b : Nat → Int32} {F : Nat → Nat → Int32} {X : Nat → Int32} {Z : Nat → Nat → Nat → Int32} : SH w (upH hs k v) k N b F X Z = SH w hs k N b F X Z := by
  funext j
  by_cases e : j = k
  · rw [e, sh_0, sh_0]
  · unfold SH
    rw [if_neg e, if_neg e, upH_n e]
set_option maxHeartbeats 4000000 in
set_option maxRecDepth 100000 in
theorem y_init {l : Launch} {w : Wt} {hs : Hs} {k : Nat} (h0 : hs k = some (.inr (0, [.null, .int 0, .int 0]))) : Cn l w mX0_init 101 2340 [.ref (wB w + k)] hs (some (k + 1)) (HI w hs k 0 0 (fun _ => 0) (fun _ => frF z00) (fun _ => 0) (fun _ _ _ => 0)) (some (k + 102)) none := by
  refine Cn.of (d := mX0_init) (by decide +kernel) (Nat.le_of_ble_eq_true rfl) ?_
  intro p e R s m args below meth c CX
  replace CX : Ctx p s m args meth c R w RX0 "<init>" cX0_init 1 none 4 89 101 2340 := CX
  show ZW p l e R s m args below meth c w 1 _ _ 0 0 (MQ below (Qn w _ _ _) args s 101 2340 (wA w)) 0 [(0, .ref (wB w + k))] []
  refine z_aload_n CX 0 dX0_init_0 rfl rfl ?_
  refine z_objinit CX dX0_init_1 (wa_mem 126 (by decide +kernel) rfl) (wa_mem 21 (by decide +kernel) rfl) (wa_mem 22 (by decide +kernel) rfl) (by decide) (Nat.le_of_ble_eq_true rfl) ?_
  refine z_aload_n CX 0 dX0_init_4 rfl rfl ?_
  refine z_new CX (k := k + 1) dX0_init_5 fn_X0_9 (by omega) (by omega) ?_
  refine z_dup CX dX0_init_8 rfl ?_
  refine z_bipush CX (v := 14) dX0_init_9 (by decide) ?_
  refine z_callI CX dX0_init_11 ci_X0_11 (h_init (k := k + 1) (N := 14) (by omega) (upH_s _ _ _)) rfl rfl (Nat.le_of_ble_eq_true rfl) ⟨Nat.le_of_ble_eq_true rfl, Nat.le_of_ble_eq_true rfl⟩ ⟨by omega, by omega⟩ ?_
  refine z_heap sp_N ?_
  refine z_putF CX dX0_init_14 fg_X0_14 fp_X0_0 rfl fw_X0_14 (fs := [.null, .int 0, .int 0]) ((sh_n (by omega)).trans ((upH_n (by omega)).trans h0)) (Nat.le_of_ble_eq_true rfl) rfl rfl ?_
  refine z_heap (show _ = HI w hs k 0 0 (fun _ => 0) (fun _ => frF z00) (fun _ => 0) (fun _ _ _ => 0) from ?_) ?_
  · rw [sh_sh, sh_up (by omega)]; rfl
  exact z_vret CX dX0_init_17 rfl rfl (Or.inl rfl)
