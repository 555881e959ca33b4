/-! the class's object, made -/
set_option maxHeartbeats 4000000 in
set_option maxRecDepth 100000 in
theorem g_init {l : Launch} {w : Wt} {hs : Hs} {k : Nat} (h0 : hs k = some (.inr (5, [.null, .null, .null, .null, .null]))) : Cn l w mX5_init 136 3138 [.ref (wB w + k)] hs (some (k + 1)) (SH w (HI w (TH w (TH w (XT w (upH hs k (GO w k)) (k + 1) (fun _ => 0) (fun _ => 0) (fun _ => 0)) (k + 4) (frF z00) 0 (fun _ _ => 0)) (k + 11) (frF z00) 0 (fun _ _ => 0)) (k + 18) 0 0 (fun _ => 0) (fun _ => frF z00) (fun _ => 0) (fun _ _ _ => 0)) (k + 120) 2 (fun _ => 0) (fun _ => frF z00) (fun _ => 0) (fun _ _ _ => 0)) (some (k + 137)) none := by
  refine Cn.of (d := mX5_init) (by decide +kernel) (Nat.le_of_ble_eq_true rfl) ?_
  intro p e R s m args below meth c CX
  replace CX : Ctx p s m args meth c R w RX5 "<init>" cX5_init 1 none 5 109 136 3138 := CX
  show ZW p l e R s m args below meth c w 1 _ _ 0 0 (MQ below (Qn w _ _ _) args s 136 3138 (wA w)) 0 [(0, .ref (wB w + k))] []
  refine z_aload_n CX 0 dX5_init_0 rfl rfl ?_
  refine z_objinit CX dX5_init_1 (wa_mem 20 (by decide +kernel) rfl) (wa_mem 21 (by decide +kernel) rfl) (wa_mem 22 (by decide +kernel) rfl) (by decide) (Nat.le_of_ble_eq_true rfl) ?_
  refine z_aload_n CX 0 dX5_init_4 rfl rfl ?_
  refine z_new CX (k := k + 1) dX5_init_5 fn_X5_7 (by omega) (by omega) ?_
  refine z_dup CX dX5_init_8 rfl ?_
  refine z_callI CX dX5_init_9 ci_X5_9 (x_init (k := k + 1) (upH_s _ _ _)) rfl rfl (Nat.le_of_ble_eq_true rfl) ⟨Nat.le_of_ble_eq_true rfl, Nat.le_of_ble_eq_true rfl⟩ ⟨by omega, by omega⟩ ?_
  refine z_heap (show _ = (XT w hs (k + 1) (fun _ => 0) (fun _ => 0) (fun _ => 0)) from xt_self) ?_
  refine z_putF CX dX5_init_12 fg_X5_10 fp_X5_0 rfl fw_X5_10 (fs := [.null, .null, .null, .null, .null]) ((xt_n (by omega)).trans h0) (Nat.le_of_ble_eq_true rfl) rfl rfl ?_
  refine z_heap (show _ = (XT w (upH hs k (.inr (5, [.ref (wB w + (k + 1)), .null, .null, .null, .null]))) (k + 1) (fun _ => 0) (fun _ => 0) (fun _ => 0)) from by rw [xt_up (by omega)]; rfl) ?_
  refine z_aload_n CX 0 dX5_init_15 rfl rfl ?_
  refine z_new CX (k := k + 4) dX5_init_16 fn_X5_16 (by omega) (by omega) ?_
  refine z_dup CX dX5_init_19 rfl ?_
  refine z_callI CX dX5_init_20 ci_X5_18 (t_init (k := k + 4) z00 (upH_s _ _ _)) rfl rfl (Nat.le_of_ble_eq_true rfl) ⟨Nat.le_of_ble_eq_true rfl, Nat.le_of_ble_eq_true rfl⟩ ⟨by omega, by omega⟩ ?_
  refine z_heap (show _ = (TH w (XT w (upH hs k (.inr (5, [.ref (wB w + (k + 1)), .null, .null, .null, .null]))) (k + 1) (fun _ => 0) (fun _ => 0) (fun _ => 0)) (k + 4) (frF z00) 0 (fun _ _ => 0)) from tt_self) ?_
  refine z_putF CX dX5_init_23 fg_X5_19 fp_X5_1 rfl fw_X5_19 (fs := [.ref (wB w + (k + 1)), .null, .null, .null, .null]) ((to_n (by omega)).trans ((xt_n (by omega)).trans (upH_s _ _ _))) (Nat.le_of_ble_eq_true rfl) rfl rfl ?_
  refine z_heap (show _ = (TH w (XT w (upH hs k (.inr (5, [.ref (wB w + (k + 1)), .ref (wB w + (k + 4)), .null, .null, .null]))) (k + 1) (fun _ => 0) (fun _ => 0) (fun _ => 0)) (k + 4) (frF z00) 0 (fun _ _ => 0)) from by rw [tt_up (by omega), xt_up (by omega), upH_up]; rfl) ?_
  refine z_aload_n CX 0 dX5_init_26 rfl rfl ?_
  refine z_new CX (k := k + 11) dX5_init_27 fn_X5_16 (by omega) (by omega) ?_
  refine z_dup CX dX5_init_30 rfl ?_
  refine z_callI CX dX5_init_31 ci_X5_18 (t_init (k := k + 11) z00 (upH_s _ _ _)) rfl rfl (Nat.le_of_ble_eq_true rfl) ⟨Nat.le_of_ble_eq_true rfl, Nat.le_of_ble_eq_true rfl⟩ ⟨by omega, by omega⟩ ?_
  refine z_heap (show _ = (TH w (TH w (XT w (upH hs k (.inr (5, [.ref (wB w + (k + 1)), .ref (wB w + (k + 4)), .null, .null, .null]))) (k + 1) (fun _ => 0) (fun _ => 0) (fun _ => 0)) (k + 4) (frF z00) 0 (fun _ _ => 0)) (k + 11) (frF z00) 0 (fun _ _ => 0)) from tt_self) ?_
  refine z_putF CX dX5_init_34 fg_X5_23 fp_X5_2 rfl fw_X5_23 (fs := [.ref (wB w + (k + 1)), .ref (wB w + (k + 4)), .null, .null, .null]) ((to_n (by omega)).trans ((to_n (by omega)).trans ((xt_n (by omega)).trans (upH_s _ _ _)))) (Nat.le_of_ble_eq_true rfl) rfl rfl ?_
  refine z_heap (show _ = (TH w (TH w (XT w (upH hs k (.inr (5, [.ref (wB w + (k + 1)), .ref (wB w + (k + 4)), .ref (wB w + (k + 11)), .null, .null]))) (k + 1) (fun _ => 0) (fun _ => 0) (fun _ => 0)) (k + 4) (frF z00) 0 (fun _ _ => 0)) (k + 11) (frF z00) 0 (fun _ _ => 0)) from by rw [tt_up (by omega), tt_up (by omega), xt_up (by omega), upH_up]; rfl) ?_
  refine z_aload_n CX 0 dX5_init_37 rfl rfl ?_
  refine z_new CX (k := k + 18) dX5_init_38 fn_X5_26 (by omega) (by omega) ?_
  refine z_dup CX dX5_init_41 rfl ?_
  refine z_callI CX dX5_init_42 ci_X5_28 (y_init (k := k + 18) (upH_s _ _ _)) rfl rfl (Nat.le_of_ble_eq_true rfl) ⟨Nat.le_of_ble_eq_true rfl, Nat.le_of_ble_eq_true rfl⟩ ⟨by omega, by omega⟩ ?_
  refine z_heap (show _ = (HI w (TH w (TH w (XT w (upH hs k (.inr (5, [.ref (wB w + (k + 1)), .ref (wB w + (k + 4)), .ref (wB w + (k + 11)), .null, .null]))) (k + 1) (fun _ => 0) (fun _ => 0) (fun _ => 0)) (k + 4) (frF z00) 0 (fun _ _ => 0)) (k + 11) (frF z00) 0 (fun _ _ => 0)) (k + 18) 0 0 (fun _ => 0) (fun _ => frF z00) (fun _ => 0) (fun _ _ _ => 0)) from hi_self) ?_
  refine z_putF CX dX5_init_45 fg_X5_29 fp_X5_3 rfl fw_X5_29 (fs := [.ref (wB w + (k + 1)), .ref (wB w + (k + 4)), .ref (wB w + (k + 11)), .null, .null]) ((hi_n (by omega)).trans ((to_n (by omega)).trans ((to_n (by omega)).trans ((xt_n (by omega)).trans (upH_s _ _ _))))) (Nat.le_of_ble_eq_true rfl) rfl rfl ?_
  refine z_heap (show _ = (HI w (TH w (TH w (XT w (upH hs k (.inr (5, [.ref (wB w + (k + 1)), .ref (wB w + (k + 4)), .ref (wB w + (k + 11)), .ref (wB w + (k + 18)), .null]))) (k + 1) (fun _ => 0) (fun _ => 0) (fun _ => 0)) (k + 4) (frF z00) 0 (fun _ _ => 0)) (k + 11) (frF z00) 0 (fun _ _ => 0)) (k + 18) 0 0 (fun _ => 0) (fun _ => frF z00) (fun _ => 0) (fun _ _ _ => 0)) from by rw [hi_up (by omega), tt_up (by omega), tt_up (by omega), xt_up (by omega), upH_up]; rfl) ?_
  refine z_aload_n CX 0 dX5_init_48 rfl rfl ?_
  refine z_new CX (k := k + 120) dX5_init_49 fn_X5_33 (by omega) (by omega) ?_
  refine z_dup CX dX5_init_52 rfl ?_
  refine z_iconst CX (v := 2) dX5_init_53 (by decide) ?_
  refine z_callI CX dX5_init_54 ci_X5_35 (h_init (k := k + 120) (N := 2) (by omega) (upH_s _ _ _)) rfl rfl (Nat.le_of_ble_eq_true rfl) ⟨Nat.le_of_ble_eq_true rfl, Nat.le_of_ble_eq_true rfl⟩ ⟨by omega, by omega⟩ ?_
  refine z_heap (show _ = (SH w (HI w (TH w (TH w (XT w (upH hs k (.inr (5, [.ref (wB w + (k + 1)), .ref (wB w + (k + 4)), .ref (wB w + (k + 11)), .ref (wB w + (k + 18)), .null]))) (k + 1) (fun _ => 0) (fun _ => 0) (fun _ => 0)) (k + 4) (frF z00) 0 (fun _ _ => 0)) (k + 11) (frF z00) 0 (fun _ _ => 0)) (k + 18) 0 0 (fun _ => 0) (fun _ => frF z00) (fun _ => 0) (fun _ _ _ => 0)) (k + 120) 2 (fun _ => 0) (fun _ => frF z00) (fun _ => 0) (fun _ _ _ => 0)) from sp_N.trans sh_sh) ?_
  refine z_putF CX dX5_init_57 fg_X5_38 fp_X5_4 rfl fw_X5_38 (fs := [.ref (wB w + (k + 1)), .ref (wB w + (k + 4)), .ref (wB w + (k + 11)), .ref (wB w + (k + 18)), .null]) ((sh_n (by omega)).trans ((hi_n (by omega)).trans ((to_n (by omega)).trans ((to_n (by omega)).trans ((xt_n (by omega)).trans (upH_s _ _ _)))))) (Nat.le_of_ble_eq_true rfl) rfl rfl ?_
  refine z_heap (show _ = (SH w (HI w (TH w (TH w (XT w (upH hs k (.inr (5, [.ref (wB w + (k + 1)), .ref (wB w + (k + 4)), .ref (wB w + (k + 11)), .ref (wB w + (k + 18)), .ref (wB w + (k + 120))]))) (k + 1) (fun _ => 0) (fun _ => 0) (fun _ => 0)) (k + 4) (frF z00) 0 (fun _ _ => 0)) (k + 11) (frF z00) 0 (fun _ _ => 0)) (k + 18) 0 0 (fun _ => 0) (fun _ => frF z00) (fun _ => 0) (fun _ _ _ => 0)) (k + 120) 2 (fun _ => 0) (fun _ => frF z00) (fun _ => 0) (fun _ _ _ => 0)) from by rw [sh_up (by omega), hi_up (by omega), tt_up (by omega), tt_up (by omega), xt_up (by omega), upH_up]; rfl) ?_
  exact z_vret CX dX5_init_60 rfl rfl (Or.inl rfl)
