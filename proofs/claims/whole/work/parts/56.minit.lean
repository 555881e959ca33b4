/-! the model: a new object -/
set_option maxHeartbeats 4000000 in
set_option maxRecDepth 100000 in
theorem m_init {l : Launch} {w : Wt} {hs : Hs} {k : Nat} (h0 : hs k = some (.inr (6, [.int 0, .null, .null, .null, .null, .int 0, .null, .null, .null, .int 0, .int 0, .int 0, .int 0]))) : Cn l w mX6_init 7 3105 [.ref (wB w + k)] hs (some (k + 1)) (modH w hs k (fun _ => 0) (upA (fun _ _ => 0) 0 (frF (fun _ => 0)))) (some (k + 8)) none := by
  refine Cn.of (d := mX6_init) (by decide +kernel) (Nat.le_of_ble_eq_true rfl) ?_
  intro p e R s m args below meth c CX
  replace CX : Ctx p s m args meth c R w RX6 "<init>" cX6_init 1 none 1 21 7 3105 := CX
  show ZW p l e R s m args below meth c w 1 _ _ 0 0 (MQ below (Qn w _ _ _) args s 7 3105 (wA w)) 0 [(0, .ref (wB w + k))] []
  refine z_aload_n CX 0 dX6_init_0 rfl rfl ?_
  refine z_objinit CX dX6_init_1 (wa_mem 791 (by decide +kernel) rfl) (wa_mem 22 (by decide +kernel) rfl) (wa_mem 23 (by decide +kernel) rfl) (by decide) (Nat.le_of_ble_eq_true rfl) ?_
  refine z_aload_n CX 0 dX6_init_4 rfl rfl ?_
  refine z_sipush CX (v := 157) dX6_init_5 (by decide) ?_
  refine z_newI CX (N := 157) dX6_init_8 (wa_mem 46 (by decide +kernel) rfl) (by decide) (by decide) (by omega) (by omega) (by omega) ?_
  refine z_putF CX dX6_init_10 fg_X6_7 fp_X6_1 rfl fw_X6_7 (fs := [.int 0, .null, .null, .null, .null, .int 0, .null, .null, .null, .int 0, .int 0, .int 0, .int 0]) (by simp [upH, h0] <;> omega) (Nat.le_of_ble_eq_true rfl) rfl rfl ?_
  refine z_aload_n CX 0 dX6_init_13 rfl rfl ?_
  refine z_sipush CX (v := 157) dX6_init_14 (by decide) ?_
  refine z_newI CX (N := 157) dX6_init_17 (wa_mem 46 (by decide +kernel) rfl) (by decide) (by decide) (by omega) (by omega) (by omega) ?_
  refine z_putF CX dX6_init_19 fg_X6_13 fp_X6_2 rfl fw_X6_13 (fs := [.int 0, .ref (wB w + (k + 1)), .null, .null, .null, .int 0, .null, .null, .null, .int 0, .int 0, .int 0, .int 0]) (by simp [upH, h0] <;> omega) (Nat.le_of_ble_eq_true rfl) rfl rfl ?_
  refine z_aload_n CX 0 dX6_init_22 rfl rfl ?_
  refine z_sipush CX (v := 157) dX6_init_23 (by decide) ?_
  refine z_newI CX (N := 157) dX6_init_26 (wa_mem 46 (by decide +kernel) rfl) (by decide) (by decide) (by omega) (by omega) (by omega) ?_
  refine z_putF CX dX6_init_28 fg_X6_16 fp_X6_3 rfl fw_X6_16 (fs := [.int 0, .ref (wB w + (k + 1)), .ref (wB w + (k + 2)), .null, .null, .int 0, .null, .null, .null, .int 0, .int 0, .int 0, .int 0]) (by simp [upH, h0] <;> omega) (Nat.le_of_ble_eq_true rfl) rfl rfl ?_
  refine z_aload_n CX 0 dX6_init_31 rfl rfl ?_
  refine z_sipush CX (v := 2198) dX6_init_32 (by decide) ?_
  refine z_newI CX (N := 2198) dX6_init_35 (wa_mem 46 (by decide +kernel) rfl) (by decide) (by decide) (by omega) (by omega) (by omega) ?_
  refine z_putF CX dX6_init_37 fg_X6_19 fp_X6_4 rfl fw_X6_19 (fs := [.int 0, .ref (wB w + (k + 1)), .ref (wB w + (k + 2)), .ref (wB w + (k + 3)), .null, .int 0, .null, .null, .null, .int 0, .int 0, .int 0, .int 0]) (by simp [upH, h0] <;> omega) (Nat.le_of_ble_eq_true rfl) rfl rfl ?_
  refine z_aload_n CX 0 dX6_init_40 rfl rfl ?_
  refine z_sipush CX (v := 314) dX6_init_41 (by decide) ?_
  refine z_newI CX (N := 314) dX6_init_44 (wa_mem 46 (by decide +kernel) rfl) (by decide) (by decide) (by omega) (by omega) (by omega) ?_
  refine z_putF CX dX6_init_46 fg_X6_22 fp_X6_6 rfl fw_X6_22 (fs := [.int 0, .ref (wB w + (k + 1)), .ref (wB w + (k + 2)), .ref (wB w + (k + 3)), .ref (wB w + (k + 4)), .int 0, .null, .null, .null, .int 0, .int 0, .int 0, .int 0]) (by simp [upH, h0] <;> omega) (Nat.le_of_ble_eq_true rfl) rfl rfl ?_
  refine z_aload_n CX 0 dX6_init_49 rfl rfl ?_
  refine z_iconst CX (v := 2) dX6_init_50 (by decide) ?_
  refine z_newZ CX (N := 2) dX6_init_51 (wa_mem 145 (by decide +kernel) rfl) (by decide) (by decide) (by omega) (by omega) (by omega) ?_
  refine z_putF CX dX6_init_53 fg_X6_25 fp_X6_7 rfl fw_X6_25 (fs := [.int 0, .ref (wB w + (k + 1)), .ref (wB w + (k + 2)), .ref (wB w + (k + 3)), .ref (wB w + (k + 4)), .int 0, .ref (wB w + (k + 5)), .null, .null, .int 0, .int 0, .int 0, .int 0]) (by simp [upH, h0] <;> omega) (Nat.le_of_ble_eq_true rfl) rfl rfl ?_
  refine z_aload_n CX 0 dX6_init_56 rfl rfl ?_
  refine z_bipush CX (v := 120) dX6_init_57 (by decide) ?_
  refine z_newI CX (N := 120) dX6_init_59 (wa_mem 46 (by decide +kernel) rfl) (by decide) (by decide) (by omega) (by omega) (by omega) ?_
  refine z_putF CX dX6_init_61 fg_X6_29 fp_X6_8 rfl fw_X6_29 (fs := [.int 0, .ref (wB w + (k + 1)), .ref (wB w + (k + 2)), .ref (wB w + (k + 3)), .ref (wB w + (k + 4)), .int 0, .ref (wB w + (k + 5)), .ref (wB w + (k + 6)), .null, .int 0, .int 0, .int 0, .int 0]) (by simp [upH, h0] <;> omega) (Nat.le_of_ble_eq_true rfl) rfl rfl ?_
  refine z_heap (show _ = modH w hs k (fun _ => 0) (fun _ _ => 0) from ?_) ?_
  · funext j
    unfold modH upH
    by_cases hj : k ≤ j ∧ j < k + 8
    · obtain ⟨i, hi, rfl⟩ : ∃ i, i < 8 ∧ j = k + i := ⟨j - k, by omega, by omega⟩
      rw [if_pos hj, show k + i - k = i by omega]
      match i, hi with
      | 0, _ => simp [mcell]
      | 1, _ => simp [mcell]
      | 2, _ => simp [mcell]
      | 3, _ => simp [mcell]
      | 4, _ => simp [mcell]
      | 5, _ => simp [mcell]
      | 6, _ => simp [mcell]
      | 7, _ => simp [mcell]
    · rw [if_neg hj]
      simp [show j ≠ k by omega, show j ≠ k + 1 by omega, show j ≠ k + 2 by omega, show j ≠ k + 3 by omega, show j ≠ k + 4 by omega, show j ≠ k + 5 by omega, show j ≠ k + 6 by omega, show j ≠ k + 7 by omega]
  refine z_aload_n CX 0 dX6_init_64 rfl rfl ?_
  refine z_get CX dX6_init_65 fg_X6_7 mo_0 rfl ?_
  refine z_callS0 CX dX6_init_68 cs_X6_32 (Cn.row mq_0 mr_0 (a := k + 1) c_fresh) rfl rfl (Nat.le_of_ble_eq_true rfl) ⟨Nat.le_of_ble_eq_true rfl, Nat.le_of_ble_eq_true rfl⟩ ⟨Nat.le_refl _, Nat.le_refl _⟩ ?_
  exact z_vret CX dX6_init_71 rfl rfl (Or.inl rfl)
