/-! the model reads its text -/
theorem dgS_e {t : Nat → Int32} {len : Nat} {lo hi : Int32} {q : Nat × Bool} : ((if (q.2 && dgO t len lo hi q.1) = true then q.1 + 1 else q.1), (q.2 && dgO t len lo hi q.1)) = dgS t len lo hi q := by
  unfold dgS
  cases h : (q.2 && dgO t len lo hi q.1) <;> simp
set_option maxHeartbeats 4000000 in
set_option maxRecDepth 100000 in
theorem c_digit {l : Launch} {w : Wt} {hs : Hs} {n : Option Nat} {k : Nat} {u : Nat → Int32} {A : Nat → Nat → Int32} {q : Nat × Bool} {x5 : Int32} {len : Nat} (hu : u 2 = nI len) (hl : len ≤ 120) (hq : q.1 < 1000) (a9 b9 : Int32) : Cn l w mX6_digit 0 0 [.ref (wB w + k), .int a9, .int b9] (modH w hs k (sT5 u q.1 q.2 x5) A) n (modH w hs k (sT5 u (dgS (A 6) len a9 b9 q).1 (dgS (A 6) len a9 b9 q).2 x5) A) n (some (.int (dgV (A 6) len a9 b9 q))) := by
  refine Cn.of (d := mX6_digit) (by decide +kernel) (Nat.le_of_ble_eq_true rfl) ?_
  intro p e R s m args below meth c CX
  replace CX : Ctx p s m args meth c R w RX6 "digit" cX6_digit 4 (some .int) 1 25 0 0 := CX
  show ZW p l e R s m args below meth c w 4 _ _ 0 0 (MQ below (Qn w _ _ _) args s 0 0 (wA w)) 0 [(0, .ref (wB w + k)), (1, .int a9), (2, .int b9)] []
  refine z_aload_n CX 0 dX6_digit_0 rfl rfl ?_
  refine z_callV1 CX dX6_digit_1 cv_X6_133 (c_here (y := q.1) (len := len) hu rfl hq hl) mo_0 rfl rfl (Nat.le_of_ble_eq_true rfl) ⟨Nat.le_of_ble_eq_true rfl, Nat.le_of_ble_eq_true rfl⟩ ⟨Nat.le_refl _, Nat.le_refl _⟩ ?_
  refine z_bipush CX (v := 48) dX6_digit_4 (by decide) ?_
  refine z_isub CX dX6_digit_6 ?_
  refine z_istore_n CX 3 dX6_digit_7 rfl (by decide) ?_
  refine z_aload_n CX 0 dX6_digit_8 rfl rfl ?_
  refine z_iload_n CX 3 dX6_digit_9 rfl rfl ?_
  refine z_i2l CX dX6_digit_10 rfl ?_
  refine z_iload_n CX 1 dX6_digit_11 rfl rfl ?_
  refine z_i2l CX dX6_digit_12 rfl ?_
  refine z_iload_n CX 2 dX6_digit_13 rfl rfl ?_
  refine z_i2l CX dX6_digit_14 rfl ?_
  refine z_callS1 CX dX6_digit_15 cs_X6_42 (c_in _ _ _) rfl rfl (Nat.le_of_ble_eq_true rfl) ⟨Nat.le_of_ble_eq_true rfl, Nat.le_of_ble_eq_true rfl⟩ ⟨Nat.le_refl _, Nat.le_refl _⟩ ?_
  refine z_stk (congrArg (fun z => [Value.int z, _]) (show _ = bI (dgO (A 6) len a9 b9 q.1) from bI_c (inC a9 b9 _ _ rfl rfl _))) ?_
  
  refine z_callV0 CX dX6_digit_18 cv_X6_137 (c_take (ok := dgO (A 6) len a9 b9 q.1)) mo_0 rfl rfl (Nat.le_of_ble_eq_true rfl) ⟨Nat.le_of_ble_eq_true rfl, Nat.le_of_ble_eq_true rfl⟩ ⟨Nat.le_refl _, Nat.le_refl _⟩ ?_
  refine z_aload_n CX 0 dX6_digit_21 rfl rfl ?_
  refine z_get CX dX6_digit_22 fg_X6_129 mo_0 rfl ?_
  refine z_heap (congrArg (fun z => modH w hs k (sT5 u z.1 z.2 x5) A) dgS_e) ?_
  refine z_if_eq CX 32 dX6_digit_25 (by decide) (fun c_25 => ?_) (fun c_25 => ?_)
  · skip
    refine z_iload_n CX 1 dX6_digit_32 rfl rfl ?_
    exact z_iret CX dX6_digit_33 rfl (congrArg Value.int (by unfold dgV; rw [if_neg (fun z => absurd (show bI (q.2 && dgO (A 6) len a9 b9 q.1) = 0 from c_25) (by rw [z]; decide))])) rfl (Or.inl rfl)
  · skip
    refine z_iload_n CX 3 dX6_digit_28 rfl rfl ?_
    refine z_goto CX 33 dX6_digit_29 (by decide) ?_
    exact z_iret CX dX6_digit_33 rfl (congrArg Value.int (by unfold dgV; rw [if_pos (bI_t (b := q.2 && dgO (A 6) len a9 b9 q.1) c_25)])) rfl (Or.inl rfl)
set_option maxHeartbeats 4000000 in
set_option maxRecDepth 100000 in
theorem c_two {l : Launch} {w : Wt} {hs : Hs} {n : Option Nat} {k : Nat} {u : Nat → Int32} {A : Nat → Nat → Int32} {q : Nat × Bool} {x5 : Int32} {len : Nat} (hu : u 2 = nI len) (hl : len ≤ 120) (hq : q.1 < 500) (a9 b9 : Int32) : Cn l w mX6_two 0 0 [.ref (wB w + k), .int a9, .int b9] (modH w hs k (sT5 u q.1 q.2 x5) A) n (modH w hs k (sT5 u (twS (A 6) len a9 b9 q).1 (twS (A 6) len a9 b9 q).2 x5) A) n (some (.int (twV (A 6) len a9 b9 q))) := by
  refine Cn.of (d := mX6_two) (by decide +kernel) (Nat.le_of_ble_eq_true rfl) ?_
  intro p e R s m args below meth c CX
  replace CX : Ctx p s m args meth c R w RX6 "two" cX6_two 4 (some .int) 2 48 0 0 := CX
  show ZW p l e R s m args below meth c w 4 _ _ 0 0 (MQ below (Qn w _ _ _) args s 0 0 (wA w)) 0 [(0, .ref (wB w + k)), (1, .int a9), (2, .int b9)] []
  refine z_aload_n CX 0 dX6_two_0 rfl rfl ?_
  refine z_iload_n CX 1 dX6_two_1 rfl rfl ?_
  refine z_bipush CX (v := 10) dX6_two_2 (by decide) ?_
  refine z_idiv CX dX6_two_4 (by decide) ?_
  refine z_iload_n CX 2 dX6_two_5 rfl rfl ?_
  refine z_bipush CX (v := 10) dX6_two_6 (by decide) ?_
  refine z_idiv CX dX6_two_8 (by decide) ?_
  refine z_callV1 CX dX6_two_9 cv_X6_141 (c_digit hu hl (show q.1 < 1000 by omega) _ _) mo_0 rfl rfl (Nat.le_of_ble_eq_true rfl) ⟨Nat.le_of_ble_eq_true rfl, Nat.le_of_ble_eq_true rfl⟩ ⟨Nat.le_refl _, Nat.le_refl _⟩ ?_
  refine z_istore_n CX 3 dX6_two_12 rfl (by decide) ?_
  refine z_bipush CX (v := 10) dX6_two_13 (by decide) ?_
  refine z_iload_n CX 3 dX6_two_15 rfl rfl ?_
  refine z_imul CX dX6_two_16 ?_
  refine z_aload_n CX 0 dX6_two_17 rfl rfl ?_
  refine z_iload_n CX 3 dX6_two_18 rfl rfl ?_
  refine z_iload_n CX 1 dX6_two_19 rfl rfl ?_
  refine z_bipush CX (v := 10) dX6_two_20 (by decide) ?_
  refine z_idiv CX dX6_two_22 (by decide) ?_
  refine z_icmp_ne CX 33 dX6_two_23 (by decide) (fun c_23 => ?_) (fun c_23 => ?_)
  · skip
    refine z_iconst CX (v := 0) dX6_two_33 (by decide) ?_
    refine z_iload_n CX 3 dX6_two_34 rfl rfl ?_
    refine z_iload_n CX 2 dX6_two_35 rfl rfl ?_
    refine z_bipush CX (v := 10) dX6_two_36 (by decide) ?_
    refine z_idiv CX dX6_two_38 (by decide) ?_
    refine z_icmp_ne CX 49 dX6_two_39 (by decide) (fun c_39 => ?_) (fun c_39 => ?_)
    · skip
      refine z_bipush CX (v := 9) dX6_two_49 (by decide) ?_
      refine z_stk (st9 := [.int (twH b9 (dgV (A 6) len (a9 / 10) (b9 / 10) q)), .int (twL a9 (dgV (A 6) len (a9 / 10) (b9 / 10) q)), .ref (wB w + k), .int (10 * (dgV (A 6) len (a9 / 10) (b9 / 10) q))]) (by unfold twL twH; rw [if_neg c_23, if_neg c_39]) ?_
      refine z_callV1 CX dX6_two_51 cv_X6_141 (c_digit hu hl (Nat.lt_of_le_of_lt dgS_le.2 (show q.1 + 1 < 1000 by omega)) _ _) mo_0 rfl rfl (Nat.le_of_ble_eq_true rfl) ⟨Nat.le_of_ble_eq_true rfl, Nat.le_of_ble_eq_true rfl⟩ ⟨Nat.le_refl _, Nat.le_refl _⟩ ?_
      refine z_iadd CX dX6_two_54 ?_
      exact z_iret CX dX6_two_55 rfl rfl rfl (Or.inl rfl)
    · skip
      refine z_iload_n CX 2 dX6_two_42 rfl rfl ?_
      refine z_bipush CX (v := 10) dX6_two_43 (by decide) ?_
      refine z_irem CX dX6_two_45 (by decide) ?_
      refine z_goto CX 51 dX6_two_46 (by decide) ?_
      refine z_stk (st9 := [.int (twH b9 (dgV (A 6) len (a9 / 10) (b9 / 10) q)), .int (twL a9 (dgV (A 6) len (a9 / 10) (b9 / 10) q)), .ref (wB w + k), .int (10 * (dgV (A 6) len (a9 / 10) (b9 / 10) q))]) (by unfold twL twH; rw [if_neg c_23, if_pos c_39]) ?_
      refine z_callV1 CX dX6_two_51 cv_X6_141 (c_digit hu hl (Nat.lt_of_le_of_lt dgS_le.2 (show q.1 + 1 < 1000 by omega)) _ _) mo_0 rfl rfl (Nat.le_of_ble_eq_true rfl) ⟨Nat.le_of_ble_eq_true rfl, Nat.le_of_ble_eq_true rfl⟩ ⟨Nat.le_refl _, Nat.le_refl _⟩ ?_
      refine z_iadd CX dX6_two_54 ?_
      exact z_iret CX dX6_two_55 rfl rfl rfl (Or.inl rfl)
  · skip
    refine z_iload_n CX 1 dX6_two_26 rfl rfl ?_
    refine z_bipush CX (v := 10) dX6_two_27 (by decide) ?_
    refine z_irem CX dX6_two_29 (by decide) ?_
    refine z_goto CX 34 dX6_two_30 (by decide) ?_
    refine z_iload_n CX 3 dX6_two_34 rfl rfl ?_
    refine z_iload_n CX 2 dX6_two_35 rfl rfl ?_
    refine z_bipush CX (v := 10) dX6_two_36 (by decide) ?_
    refine z_idiv CX dX6_two_38 (by decide) ?_
    refine z_icmp_ne CX 49 dX6_two_39 (by decide) (fun c_39 => ?_) (fun c_39 => ?_)
    · skip
      refine z_bipush CX (v := 9) dX6_two_49 (by decide) ?_
      refine z_stk (st9 := [.int (twH b9 (dgV (A 6) len (a9 / 10) (b9 / 10) q)), .int (twL a9 (dgV (A 6) len (a9 / 10) (b9 / 10) q)), .ref (wB w + k), .int (10 * (dgV (A 6) len (a9 / 10) (b9 / 10) q))]) (by unfold twL twH; rw [if_pos c_23, if_neg c_39]) ?_
      refine z_callV1 CX dX6_two_51 cv_X6_141 (c_digit hu hl (Nat.lt_of_le_of_lt dgS_le.2 (show q.1 + 1 < 1000 by omega)) _ _) mo_0 rfl rfl (Nat.le_of_ble_eq_true rfl) ⟨Nat.le_of_ble_eq_true rfl, Nat.le_of_ble_eq_true rfl⟩ ⟨Nat.le_refl _, Nat.le_refl _⟩ ?_
      refine z_iadd CX dX6_two_54 ?_
      exact z_iret CX dX6_two_55 rfl rfl rfl (Or.inl rfl)
    · skip
      refine z_iload_n CX 2 dX6_two_42 rfl rfl ?_
      refine z_bipush CX (v := 10) dX6_two_43 (by decide) ?_
      refine z_irem CX dX6_two_45 (by decide) ?_
      refine z_goto CX 51 dX6_two_46 (by decide) ?_
      refine z_stk (st9 := [.int (twH b9 (dgV (A 6) len (a9 / 10) (b9 / 10) q)), .int (twL a9 (dgV (A 6) len (a9 / 10) (b9 / 10) q)), .ref (wB w + k), .int (10 * (dgV (A 6) len (a9 / 10) (b9 / 10) q))]) (by unfold twL twH; rw [if_pos c_23, if_pos c_39]) ?_
      refine z_callV1 CX dX6_two_51 cv_X6_141 (c_digit hu hl (Nat.lt_of_le_of_lt dgS_le.2 (show q.1 + 1 < 1000 by omega)) _ _) mo_0 rfl rfl (Nat.le_of_ble_eq_true rfl) ⟨Nat.le_of_ble_eq_true rfl, Nat.le_of_ble_eq_true rfl⟩ ⟨Nat.le_refl _, Nat.le_refl _⟩ ?_
      refine z_iadd CX dX6_two_54 ?_
      exact z_iret CX dX6_two_55 rfl rfl rfl (Or.inl rfl)
set_option maxHeartbeats 4000000 in
set_option maxRecDepth 100000 in
theorem c_goes {l : Launch} {w : Wt} {hs : Hs} {n : Option Nat} {k : Nat} {u : Nat → Int32} {A : Nat → Nat → Int32} {y : Nat} {g cn : Bool} {x5 : Int32} : Cn l w mX6_goes 0 0 [.ref (wB w + k), .int (bI cn)] (modH w hs k (sT5 u y g x5) A) n (modH w hs k (sT5 u y g (if (g && !cn) = true then x5 + 1 else x5)) A) n (some (.int (bI (g && cn)))) := by
  refine Cn.of (d := mX6_goes) (by decide +kernel) (Nat.le_of_ble_eq_true rfl) ?_
  intro p e R s m args below meth c CX
  replace CX : Ctx p s m args meth c R w RX6 "goes" cX6_goes 2 (some .boolean) 0 0 0 0 := CX
  show ZW p l e R s m args below meth c w 2 _ _ 0 0 (MQ below (Qn w _ _ _) args s 0 0 (wA w)) 0 [(0, .ref (wB w + k)), (1, .int (bI cn))] []
  rcases g with _ | _ <;> rcases cn with _ | _
  · skip
    refine z_aload_n CX 0 dX6_goes_0 rfl rfl ?_
    refine z_dup CX dX6_goes_1 rfl ?_
    refine z_get CX dX6_goes_2 fg_X6_145 mo_0 rfl ?_
    refine z_aload_n CX 0 dX6_goes_5 rfl rfl ?_
    refine z_get CX dX6_goes_6 fg_X6_129 mo_0 rfl ?_
    refine z_if_eq CX 20 dX6_goes_9 (by decide) (fun _ => ?_) (fun q9 => absurd rfl q9)
    refine z_iconst CX (v := 0) dX6_goes_20 (by decide) ?_
    refine z_iadd CX dX6_goes_21 ?_
    refine z_put CX dX6_goes_22 fg_X6_145 fp_X6_12 mo_0 (Nat.le_of_ble_eq_true rfl) rfl rfl ?_
    refine z_heap mo_f5 ?_
    refine z_aload_n CX 0 dX6_goes_25 rfl rfl ?_
    refine z_get CX dX6_goes_26 fg_X6_129 mo_0 rfl ?_
    refine z_if_eq CX 40 dX6_goes_29 (by decide) (fun _ => ?_) (fun q9 => absurd rfl q9)
    refine z_iconst CX (v := 0) dX6_goes_40 (by decide) ?_
    exact z_zret CX dX6_goes_41 rfl (by first | rfl | exact bI_nar _) rfl (congrArg (fun z => modH w hs k z A) ((congrArg (upd _ 5) (Int32.add_zero _)).trans sT_5)) (Or.inl rfl)
  · skip
    refine z_aload_n CX 0 dX6_goes_0 rfl rfl ?_
    refine z_dup CX dX6_goes_1 rfl ?_
    refine z_get CX dX6_goes_2 fg_X6_145 mo_0 rfl ?_
    refine z_aload_n CX 0 dX6_goes_5 rfl rfl ?_
    refine z_get CX dX6_goes_6 fg_X6_129 mo_0 rfl ?_
    refine z_if_eq CX 20 dX6_goes_9 (by decide) (fun _ => ?_) (fun q9 => absurd rfl q9)
    refine z_iconst CX (v := 0) dX6_goes_20 (by decide) ?_
    refine z_iadd CX dX6_goes_21 ?_
    refine z_put CX dX6_goes_22 fg_X6_145 fp_X6_12 mo_0 (Nat.le_of_ble_eq_true rfl) rfl rfl ?_
    refine z_heap mo_f5 ?_
    refine z_aload_n CX 0 dX6_goes_25 rfl rfl ?_
    refine z_get CX dX6_goes_26 fg_X6_129 mo_0 rfl ?_
    refine z_if_eq CX 40 dX6_goes_29 (by decide) (fun _ => ?_) (fun q9 => absurd rfl q9)
    refine z_iconst CX (v := 0) dX6_goes_40 (by decide) ?_
    exact z_zret CX dX6_goes_41 rfl (by first | rfl | exact bI_nar _) rfl (congrArg (fun z => modH w hs k z A) ((congrArg (upd _ 5) (Int32.add_zero _)).trans sT_5)) (Or.inl rfl)
  · skip
    refine z_aload_n CX 0 dX6_goes_0 rfl rfl ?_
    refine z_dup CX dX6_goes_1 rfl ?_
    refine z_get CX dX6_goes_2 fg_X6_145 mo_0 rfl ?_
    refine z_aload_n CX 0 dX6_goes_5 rfl rfl ?_
    refine z_get CX dX6_goes_6 fg_X6_129 mo_0 rfl ?_
    refine z_if_eq CX 20 dX6_goes_9 (by decide) (fun q9 => absurd q9 (show ¬ bI true = 0 by decide)) (fun _ => ?_)
    refine z_iload_n CX 1 dX6_goes_12 rfl rfl ?_
    refine z_if_ne CX 20 dX6_goes_13 (by decide) (fun q9 => absurd q9 (fun q => q rfl)) (fun _ => ?_)
    refine z_iconst CX (v := 1) dX6_goes_16 (by decide) ?_
    refine z_goto CX 21 dX6_goes_17 (by decide) ?_
    refine z_iadd CX dX6_goes_21 ?_
    refine z_put CX dX6_goes_22 fg_X6_145 fp_X6_12 mo_0 (Nat.le_of_ble_eq_true rfl) rfl rfl ?_
    refine z_heap mo_f5 ?_
    refine z_aload_n CX 0 dX6_goes_25 rfl rfl ?_
    refine z_get CX dX6_goes_26 fg_X6_129 mo_0 rfl ?_
    refine z_if_eq CX 40 dX6_goes_29 (by decide) (fun q9 => absurd q9 (show ¬ bI true = 0 by decide)) (fun _ => ?_)
    refine z_iload_n CX 1 dX6_goes_32 rfl rfl ?_
    refine z_if_eq CX 40 dX6_goes_33 (by decide) (fun _ => ?_) (fun q9 => absurd rfl q9)
    refine z_iconst CX (v := 0) dX6_goes_40 (by decide) ?_
    exact z_zret CX dX6_goes_41 rfl (by first | rfl | exact bI_nar _) rfl (congrArg (fun z => modH w hs k z A) (sT_5)) (Or.inl rfl)
  · skip
    refine z_aload_n CX 0 dX6_goes_0 rfl rfl ?_
    refine z_dup CX dX6_goes_1 rfl ?_
    refine z_get CX dX6_goes_2 fg_X6_145 mo_0 rfl ?_
    refine z_aload_n CX 0 dX6_goes_5 rfl rfl ?_
    refine z_get CX dX6_goes_6 fg_X6_129 mo_0 rfl ?_
    refine z_if_eq CX 20 dX6_goes_9 (by decide) (fun q9 => absurd q9 (show ¬ bI true = 0 by decide)) (fun _ => ?_)
    refine z_iload_n CX 1 dX6_goes_12 rfl rfl ?_
    refine z_if_ne CX 20 dX6_goes_13 (by decide) (fun _ => ?_) (fun q9 => absurd q9 (show bI true ≠ 0 by decide))
    refine z_iconst CX (v := 0) dX6_goes_20 (by decide) ?_
    refine z_iadd CX dX6_goes_21 ?_
    refine z_put CX dX6_goes_22 fg_X6_145 fp_X6_12 mo_0 (Nat.le_of_ble_eq_true rfl) rfl rfl ?_
    refine z_heap mo_f5 ?_
    refine z_aload_n CX 0 dX6_goes_25 rfl rfl ?_
    refine z_get CX dX6_goes_26 fg_X6_129 mo_0 rfl ?_
    refine z_if_eq CX 40 dX6_goes_29 (by decide) (fun q9 => absurd q9 (show ¬ bI true = 0 by decide)) (fun _ => ?_)
    refine z_iload_n CX 1 dX6_goes_32 rfl rfl ?_
    refine z_if_eq CX 40 dX6_goes_33 (by decide) (fun q9 => absurd q9 (show ¬ bI true = 0 by decide)) (fun _ => ?_)
    refine z_iconst CX (v := 1) dX6_goes_36 (by decide) ?_
    refine z_goto CX 41 dX6_goes_37 (by decide) ?_
    exact z_zret CX dX6_goes_41 rfl (by first | rfl | exact bI_nar _) rfl (congrArg (fun z => modH w hs k z A) ((congrArg (upd _ 5) (Int32.add_zero _)).trans sT_5)) (Or.inl rfl)
set_option maxHeartbeats 4000000 in
set_option maxRecDepth 100000 in
theorem c_rdH {l : Launch} {w : Wt} {hs : Hs} {n : Option Nat} {k : Nat} {u : Nat → Int32} {A : Nat → Nat → Int32} {y len : Nat} {x5 : Int32} (hu : u 2 = nI len) (hl : len ≤ 120) (hy : y < 200) (hO : OKr (A 2))  {q1 : Nat × Bool} {v1 : Int32} (e1 : dgS (A 6) len 0 3 (y, true) = q1) (w1 : dgV (A 6) len 0 3 (y, true) = v1) {q2 : Nat × Bool} {v2 : Int32} (e2 : dgS (A 6) len 0 5 q1 = q2) (w2 : dgV (A 6) len 0 5 q1 = v2) {q3 : Nat × Bool} {v3 : Int32} (e3 : twS (A 6) len 0 39 q2 = q3) (w3 : twV (A 6) len 0 39 q2 = v3) : ∃ v : Int32, Cn l w mX6_readHook 0 0 [.ref (wB w + k)] (modH w hs k (sT5 u y true x5) A) n (modH w hs k (sT5 u q3.1 q3.2 (exR q3.2 (pfH (A 2) v1 v2 v3) (A 2) x5).2) (upA A 2 (exR q3.2 (pfH (A 2) v1 v2 v3) (A 2) x5).1)) n (some (.int v)) := by
  have hb1 : q1.1 < 201 := by rw [← e1]; exact Nat.lt_of_le_of_lt dgS_le.2 (by show y + 1 < 201; omega)
  have hb2 : q2.1 < 202 := by rw [← e2]; exact Nat.lt_of_le_of_lt dgS_le.2 (by omega)
  have hb3 : q3.1 < 204 := by rw [← e3]; exact Nat.lt_of_le_of_lt twS_le.2 (by omega)
  obtain ⟨o, o0, o1, o2⟩ := dgV_n (t := A 6) (len := len) (a := 0) (b := 3) (q := (y, true)) (by omega) (by omega)
  have o3 : v1 = nI o := w1.symm.trans o2
  subst o3
  by_cases hc : icl (A 2) (gN (A 2)) v2 v3 = true
  · have hp : pfH (A 2) (nI o) v2 v3 = (true, hokF (A 2) o v2 v3) := by
      unfold pfH; rw [if_pos ⟨⟨nI_pos' (by omega), nI_le (b := 3) o1 (by omega)⟩, hc⟩, nI_clamp (by omega)]
    cases hg : q3.2 with
    | false =>
      apply Exists.intro
      refine Cn.of (d := mX6_readHook) (by decide +kernel) (Nat.le_of_ble_eq_true rfl) ?_
      intro p e R s m args below meth c CX
      replace CX : Ctx p s m args meth c R w RX6 "readHook" cX6_readHook 4 (some .int) 5 112 0 0 := CX
      show ZW p l e R s m args below meth c w 4 _ _ 0 0 (MQ below (Qn w _ _ _) args s 0 0 (wA w)) 0 [(0, .ref (wB w + k))] []
      refine z_aload_n CX 0 dX6_readHook_0 rfl rfl ?_
      refine z_iconst CX (v := 0) dX6_readHook_1 (by decide) ?_
      refine z_iconst CX (v := 3) dX6_readHook_2 (by decide) ?_
      refine z_callV1 CX dX6_readHook_3 cv_X6_141 (c_digit (q := (y, true)) hu hl (Nat.lt_trans (show y < 200 by omega) (by omega)) _ _) mo_0 rfl rfl (Nat.le_of_ble_eq_true rfl) ⟨Nat.le_of_ble_eq_true rfl, Nat.le_of_ble_eq_true rfl⟩ ⟨Nat.le_refl _, Nat.le_refl _⟩ ?_
      rw [e1, w1]
      refine z_istore_n CX 1 dX6_readHook_6 rfl (by decide) ?_
      refine z_aload_n CX 0 dX6_readHook_7 rfl rfl ?_
      refine z_iconst CX (v := 0) dX6_readHook_8 (by decide) ?_
      refine z_iconst CX (v := 5) dX6_readHook_9 (by decide) ?_
      refine z_callV1 CX dX6_readHook_10 cv_X6_141 (c_digit (q := q1) hu hl (Nat.lt_trans hb1 (by omega)) _ _) mo_0 rfl rfl (Nat.le_of_ble_eq_true rfl) ⟨Nat.le_of_ble_eq_true rfl, Nat.le_of_ble_eq_true rfl⟩ ⟨Nat.le_refl _, Nat.le_refl _⟩ ?_
      rw [e2, w2]
      refine z_istore_n CX 2 dX6_readHook_13 rfl (by decide) ?_
      refine z_aload_n CX 0 dX6_readHook_14 rfl rfl ?_
      refine z_iconst CX (v := 0) dX6_readHook_15 (by decide) ?_
      refine z_bipush CX (v := 39) dX6_readHook_16 (by decide) ?_
      refine z_callV1 CX dX6_readHook_18 cv_X6_148 (c_two (q := q2) hu hl (Nat.lt_trans hb2 (by omega)) _ _) mo_0 rfl rfl (Nat.le_of_ble_eq_true rfl) ⟨Nat.le_of_ble_eq_true rfl, Nat.le_of_ble_eq_true rfl⟩ ⟨Nat.le_refl _, Nat.le_refl _⟩ ?_
      rw [e3, w3]
      refine z_istore_n CX 3 dX6_readHook_21 rfl (by decide) ?_
      refine z_aload_n CX 0 dX6_readHook_22 rfl rfl ?_
      refine z_aload_n CX 0 dX6_readHook_23 rfl rfl ?_
      refine z_get CX dX6_readHook_24 fg_X6_16 mo_0 rfl ?_
      refine z_iload_n CX 2 dX6_readHook_27 rfl rfl ?_
      refine z_iload_n CX 3 dX6_readHook_28 rfl rfl ?_
      refine z_callS1 CX dX6_readHook_29 cs_X6_111 (Cn.row mq_2 mq_2 (a := k + 3) (c_isC hO.1.1 v2 v3)) rfl rfl (Nat.le_of_ble_eq_true rfl) ⟨Nat.le_of_ble_eq_true rfl, Nat.le_of_ble_eq_true rfl⟩ ⟨Nat.le_refl _, Nat.le_refl _⟩ ?_
      rw [hc]
      refine z_callV1 CX dX6_readHook_32 cv_X6_154 (c_goes (cn := true)) mo_0 rfl rfl (Nat.le_of_ble_eq_true rfl) ⟨Nat.le_of_ble_eq_true rfl, Nat.le_of_ble_eq_true rfl⟩ ⟨Nat.le_refl _, Nat.le_refl _⟩ ?_
      refine z_if_eq CX 51 dX6_readHook_35 (by decide) (fun _ => ?_) (fun q9 => absurd (by rw [hg]; rfl) q9)
      refine z_iconst CX (v := 0) dX6_readHook_51 (by decide) ?_
      exact z_iret CX dX6_readHook_52 rfl rfl (by unfold exR; rw [hg]; show modH w hs k _ A = modH w hs k _ (upA A 2 (A 2)); rw [upA_id]; rfl) (Or.inl rfl)
    | true =>
      apply Exists.intro
      refine Cn.of (d := mX6_readHook) (by decide +kernel) (Nat.le_of_ble_eq_true rfl) ?_
      intro p e R s m args below meth c CX
      replace CX : Ctx p s m args meth c R w RX6 "readHook" cX6_readHook 4 (some .int) 5 112 0 0 := CX
      show ZW p l e R s m args below meth c w 4 _ _ 0 0 (MQ below (Qn w _ _ _) args s 0 0 (wA w)) 0 [(0, .ref (wB w + k))] []
      refine z_aload_n CX 0 dX6_readHook_0 rfl rfl ?_
      refine z_iconst CX (v := 0) dX6_readHook_1 (by decide) ?_
      refine z_iconst CX (v := 3) dX6_readHook_2 (by decide) ?_
      refine z_callV1 CX dX6_readHook_3 cv_X6_141 (c_digit (q := (y, true)) hu hl (Nat.lt_trans (show y < 200 by omega) (by omega)) _ _) mo_0 rfl rfl (Nat.le_of_ble_eq_true rfl) ⟨Nat.le_of_ble_eq_true rfl, Nat.le_of_ble_eq_true rfl⟩ ⟨Nat.le_refl _, Nat.le_refl _⟩ ?_
      rw [e1, w1]
      refine z_istore_n CX 1 dX6_readHook_6 rfl (by decide) ?_
      refine z_aload_n CX 0 dX6_readHook_7 rfl rfl ?_
      refine z_iconst CX (v := 0) dX6_readHook_8 (by decide) ?_
      refine z_iconst CX (v := 5) dX6_readHook_9 (by decide) ?_
      refine z_callV1 CX dX6_readHook_10 cv_X6_141 (c_digit (q := q1) hu hl (Nat.lt_trans hb1 (by omega)) _ _) mo_0 rfl rfl (Nat.le_of_ble_eq_true rfl) ⟨Nat.le_of_ble_eq_true rfl, Nat.le_of_ble_eq_true rfl⟩ ⟨Nat.le_refl _, Nat.le_refl _⟩ ?_
      rw [e2, w2]
      refine z_istore_n CX 2 dX6_readHook_13 rfl (by decide) ?_
      refine z_aload_n CX 0 dX6_readHook_14 rfl rfl ?_
      refine z_iconst CX (v := 0) dX6_readHook_15 (by decide) ?_
      refine z_bipush CX (v := 39) dX6_readHook_16 (by decide) ?_
      refine z_callV1 CX dX6_readHook_18 cv_X6_148 (c_two (q := q2) hu hl (Nat.lt_trans hb2 (by omega)) _ _) mo_0 rfl rfl (Nat.le_of_ble_eq_true rfl) ⟨Nat.le_of_ble_eq_true rfl, Nat.le_of_ble_eq_true rfl⟩ ⟨Nat.le_refl _, Nat.le_refl _⟩ ?_
      rw [e3, w3]
      refine z_istore_n CX 3 dX6_readHook_21 rfl (by decide) ?_
      refine z_aload_n CX 0 dX6_readHook_22 rfl rfl ?_
      refine z_aload_n CX 0 dX6_readHook_23 rfl rfl ?_
      refine z_get CX dX6_readHook_24 fg_X6_16 mo_0 rfl ?_
      refine z_iload_n CX 2 dX6_readHook_27 rfl rfl ?_
      refine z_iload_n CX 3 dX6_readHook_28 rfl rfl ?_
      refine z_callS1 CX dX6_readHook_29 cs_X6_111 (Cn.row mq_2 mq_2 (a := k + 3) (c_isC hO.1.1 v2 v3)) rfl rfl (Nat.le_of_ble_eq_true rfl) ⟨Nat.le_of_ble_eq_true rfl, Nat.le_of_ble_eq_true rfl⟩ ⟨Nat.le_refl _, Nat.le_refl _⟩ ?_
      rw [hc]
      refine z_callV1 CX dX6_readHook_32 cv_X6_154 (c_goes (cn := true)) mo_0 rfl rfl (Nat.le_of_ble_eq_true rfl) ⟨Nat.le_of_ble_eq_true rfl, Nat.le_of_ble_eq_true rfl⟩ ⟨Nat.le_refl _, Nat.le_refl _⟩ ?_
      refine z_if_eq CX 51 dX6_readHook_35 (by decide) (fun q9 => absurd q9 (by rw [hg]; decide)) (fun _ => ?_)
      refine z_aload_n CX 0 dX6_readHook_38 rfl rfl ?_
      refine z_get CX dX6_readHook_39 fg_X6_16 mo_0 rfl ?_
      refine z_iload_n CX 1 dX6_readHook_42 rfl rfl ?_
      refine z_iload_n CX 2 dX6_readHook_43 rfl rfl ?_
      refine z_iload_n CX 3 dX6_readHook_44 rfl rfl ?_
      refine z_callS1 CX dX6_readHook_45 cs_X6_172 (Cn.row mq_2 mr_2 (a := k + 3) (c_goHk hO.1.2.1 (by have := hO.2.2; omega) (by omega) v2 v3)) rfl rfl (Nat.le_of_ble_eq_true rfl) ⟨Nat.le_of_ble_eq_true rfl, Nat.le_of_ble_eq_true rfl⟩ ⟨Nat.le_refl _, Nat.le_refl _⟩ ?_
      refine z_goto CX 52 dX6_readHook_48 (by decide) ?_
      exact z_iret CX dX6_readHook_52 rfl rfl (by rw [hp]; unfold exR; rw [hg]; rfl) (Or.inl rfl)
  · have hc : icl (A 2) (gN (A 2)) v2 v3 = false := by revert hc; cases icl (A 2) (gN (A 2)) v2 v3 <;> simp
    have hp : pfH (A 2) (nI o) v2 v3 = (false, A 2) := by
      unfold pfH; rw [if_neg (fun z => by rw [hc] at z; exact absurd z.2 (by decide))]
    cases hg : q3.2 with
    | false =>
      apply Exists.intro
      refine Cn.of (d := mX6_readHook) (by decide +kernel) (Nat.le_of_ble_eq_true rfl) ?_
      intro p e R s m args below meth c CX
      replace CX : Ctx p s m args meth c R w RX6 "readHook" cX6_readHook 4 (some .int) 5 112 0 0 := CX
      show ZW p l e R s m args below meth c w 4 _ _ 0 0 (MQ below (Qn w _ _ _) args s 0 0 (wA w)) 0 [(0, .ref (wB w + k))] []
      refine z_aload_n CX 0 dX6_readHook_0 rfl rfl ?_
      refine z_iconst CX (v := 0) dX6_readHook_1 (by decide) ?_
      refine z_iconst CX (v := 3) dX6_readHook_2 (by decide) ?_
      refine z_callV1 CX dX6_readHook_3 cv_X6_141 (c_digit (q := (y, true)) hu hl (Nat.lt_trans (show y < 200 by omega) (by omega)) _ _) mo_0 rfl rfl (Nat.le_of_ble_eq_true rfl) ⟨Nat.le_of_ble_eq_true rfl, Nat.le_of_ble_eq_true rfl⟩ ⟨Nat.le_refl _, Nat.le_refl _⟩ ?_
      rw [e1, w1]
      refine z_istore_n CX 1 dX6_readHook_6 rfl (by decide) ?_
      refine z_aload_n CX 0 dX6_readHook_7 rfl rfl ?_
      refine z_iconst CX (v := 0) dX6_readHook_8 (by decide) ?_
      refine z_iconst CX (v := 5) dX6_readHook_9 (by decide) ?_
      refine z_callV1 CX dX6_readHook_10 cv_X6_141 (c_digit (q := q1) hu hl (Nat.lt_trans hb1 (by omega)) _ _) mo_0 rfl rfl (Nat.le_of_ble_eq_true rfl) ⟨Nat.le_of_ble_eq_true rfl, Nat.le_of_ble_eq_true rfl⟩ ⟨Nat.le_refl _, Nat.le_refl _⟩ ?_
      rw [e2, w2]
      refine z_istore_n CX 2 dX6_readHook_13 rfl (by decide) ?_
      refine z_aload_n CX 0 dX6_readHook_14 rfl rfl ?_
      refine z_iconst CX (v := 0) dX6_readHook_15 (by decide) ?_
      refine z_bipush CX (v := 39) dX6_readHook_16 (by decide) ?_
      refine z_callV1 CX dX6_readHook_18 cv_X6_148 (c_two (q := q2) hu hl (Nat.lt_trans hb2 (by omega)) _ _) mo_0 rfl rfl (Nat.le_of_ble_eq_true rfl) ⟨Nat.le_of_ble_eq_true rfl, Nat.le_of_ble_eq_true rfl⟩ ⟨Nat.le_refl _, Nat.le_refl _⟩ ?_
      rw [e3, w3]
      refine z_istore_n CX 3 dX6_readHook_21 rfl (by decide) ?_
      refine z_aload_n CX 0 dX6_readHook_22 rfl rfl ?_
      refine z_aload_n CX 0 dX6_readHook_23 rfl rfl ?_
      refine z_get CX dX6_readHook_24 fg_X6_16 mo_0 rfl ?_
      refine z_iload_n CX 2 dX6_readHook_27 rfl rfl ?_
      refine z_iload_n CX 3 dX6_readHook_28 rfl rfl ?_
      refine z_callS1 CX dX6_readHook_29 cs_X6_111 (Cn.row mq_2 mq_2 (a := k + 3) (c_isC hO.1.1 v2 v3)) rfl rfl (Nat.le_of_ble_eq_true rfl) ⟨Nat.le_of_ble_eq_true rfl, Nat.le_of_ble_eq_true rfl⟩ ⟨Nat.le_refl _, Nat.le_refl _⟩ ?_
      rw [hc]
      refine z_callV1 CX dX6_readHook_32 cv_X6_154 (c_goes (cn := false)) mo_0 rfl rfl (Nat.le_of_ble_eq_true rfl) ⟨Nat.le_of_ble_eq_true rfl, Nat.le_of_ble_eq_true rfl⟩ ⟨Nat.le_refl _, Nat.le_refl _⟩ ?_
      refine z_if_eq CX 51 dX6_readHook_35 (by decide) (fun _ => ?_) (fun q9 => absurd (by rw [hg]; rfl) q9)
      refine z_iconst CX (v := 0) dX6_readHook_51 (by decide) ?_
      exact z_iret CX dX6_readHook_52 rfl rfl (by unfold exR; rw [hg]; show modH w hs k _ A = modH w hs k _ (upA A 2 (A 2)); rw [upA_id]; rfl) (Or.inl rfl)
    | true =>
      apply Exists.intro
      refine Cn.of (d := mX6_readHook) (by decide +kernel) (Nat.le_of_ble_eq_true rfl) ?_
      intro p e R s m args below meth c CX
      replace CX : Ctx p s m args meth c R w RX6 "readHook" cX6_readHook 4 (some .int) 5 112 0 0 := CX
      show ZW p l e R s m args below meth c w 4 _ _ 0 0 (MQ below (Qn w _ _ _) args s 0 0 (wA w)) 0 [(0, .ref (wB w + k))] []
      refine z_aload_n CX 0 dX6_readHook_0 rfl rfl ?_
      refine z_iconst CX (v := 0) dX6_readHook_1 (by decide) ?_
      refine z_iconst CX (v := 3) dX6_readHook_2 (by decide) ?_
      refine z_callV1 CX dX6_readHook_3 cv_X6_141 (c_digit (q := (y, true)) hu hl (Nat.lt_trans (show y < 200 by omega) (by omega)) _ _) mo_0 rfl rfl (Nat.le_of_ble_eq_true rfl) ⟨Nat.le_of_ble_eq_true rfl, Nat.le_of_ble_eq_true rfl⟩ ⟨Nat.le_refl _, Nat.le_refl _⟩ ?_
      rw [e1, w1]
      refine z_istore_n CX 1 dX6_readHook_6 rfl (by decide) ?_
      refine z_aload_n CX 0 dX6_readHook_7 rfl rfl ?_
      refine z_iconst CX (v := 0) dX6_readHook_8 (by decide) ?_
      refine z_iconst CX (v := 5) dX6_readHook_9 (by decide) ?_
      refine z_callV1 CX dX6_readHook_10 cv_X6_141 (c_digit (q := q1) hu hl (Nat.lt_trans hb1 (by omega)) _ _) mo_0 rfl rfl (Nat.le_of_ble_eq_true rfl) ⟨Nat.le_of_ble_eq_true rfl, Nat.le_of_ble_eq_true rfl⟩ ⟨Nat.le_refl _, Nat.le_refl _⟩ ?_
      rw [e2, w2]
      refine z_istore_n CX 2 dX6_readHook_13 rfl (by decide) ?_
      refine z_aload_n CX 0 dX6_readHook_14 rfl rfl ?_
      refine z_iconst CX (v := 0) dX6_readHook_15 (by decide) ?_
      refine z_bipush CX (v := 39) dX6_readHook_16 (by decide) ?_
      refine z_callV1 CX dX6_readHook_18 cv_X6_148 (c_two (q := q2) hu hl (Nat.lt_trans hb2 (by omega)) _ _) mo_0 rfl rfl (Nat.le_of_ble_eq_true rfl) ⟨Nat.le_of_ble_eq_true rfl, Nat.le_of_ble_eq_true rfl⟩ ⟨Nat.le_refl _, Nat.le_refl _⟩ ?_
      rw [e3, w3]
      refine z_istore_n CX 3 dX6_readHook_21 rfl (by decide) ?_
      refine z_aload_n CX 0 dX6_readHook_22 rfl rfl ?_
      refine z_aload_n CX 0 dX6_readHook_23 rfl rfl ?_
      refine z_get CX dX6_readHook_24 fg_X6_16 mo_0 rfl ?_
      refine z_iload_n CX 2 dX6_readHook_27 rfl rfl ?_
      refine z_iload_n CX 3 dX6_readHook_28 rfl rfl ?_
      refine z_callS1 CX dX6_readHook_29 cs_X6_111 (Cn.row mq_2 mq_2 (a := k + 3) (c_isC hO.1.1 v2 v3)) rfl rfl (Nat.le_of_ble_eq_true rfl) ⟨Nat.le_of_ble_eq_true rfl, Nat.le_of_ble_eq_true rfl⟩ ⟨Nat.le_refl _, Nat.le_refl _⟩ ?_
      rw [hc]
      refine z_callV1 CX dX6_readHook_32 cv_X6_154 (c_goes (cn := false)) mo_0 rfl rfl (Nat.le_of_ble_eq_true rfl) ⟨Nat.le_of_ble_eq_true rfl, Nat.le_of_ble_eq_true rfl⟩ ⟨Nat.le_refl _, Nat.le_refl _⟩ ?_
      refine z_if_eq CX 51 dX6_readHook_35 (by decide) (fun _ => ?_) (fun q9 => absurd (by rw [hg]; rfl) q9)
      refine z_iconst CX (v := 0) dX6_readHook_51 (by decide) ?_
      exact z_iret CX dX6_readHook_52 rfl rfl (by rw [hp]; unfold exR; rw [hg]; show modH w hs k _ A = modH w hs k _ (upA A 2 (A 2)); rw [upA_id]; rfl) (Or.inl rfl)
theorem dgV_r {t : Nat → Int32} {len : Nat} {q : Nat × Bool} {lo hi v : Int32} (e : dgV t len lo hi q = v) (h : lo ≤ hi) : lo ≤ v ∧ v ≤ hi := e ▸ dgV_rng h
theorem twV_r {t : Nat → Int32} {len a b : Nat} {q : Nat × Bool} {v : Int32} (e : twV t len (nI a) (nI b) q = v) (h : a ≤ b) (hb : b < 100) : nI a ≤ v ∧ v ≤ nI b := by
  obtain ⟨i, i1, i2, i3⟩ := twV_n (t := t) (len := len) (q := q) h hb
  rw [← e, i3]
  exact ⟨nI_le i1 (by omega), nI_le i2 (by omega)⟩
set_option maxHeartbeats 4000000 in
set_option maxRecDepth 100000 in
theorem c_rdG {l : Launch} {w : Wt} {hs : Hs} {n : Option Nat} {k : Nat} {u : Nat → Int32} {A : Nat → Nat → Int32} {y len : Nat} {x5 : Int32} (hu : u 2 = nI len) (hl : len ≤ 120) (hy : y < 200) (hO : OKr (A 2))  {q1 : Nat × Bool} {v1 : Int32} (e1 : twS (A 6) len 4 40 (y, true) = q1) (w1 : twV (A 6) len 4 40 (y, true) = v1) {q2 : Nat × Bool} {v2 : Int32} (e2 : dgS (A 6) len 0 5 q1 = q2) (w2 : dgV (A 6) len 0 5 q1 = v2) {q3 : Nat × Bool} {v3 : Int32} (e3 : dgS (A 6) len 0 5 q2 = q3) (w3 : dgV (A 6) len 0 5 q2 = v3) {q4 : Nat × Bool} {v4 : Int32} (e4 : twS (A 6) len 0 39 q3 = q4) (w4 : twV (A 6) len 0 39 q3 = v4) : ∃ v : Int32, Cn l w mX6_readGutter 0 0 [.ref (wB w + k)] (modH w hs k (sT5 u y true x5) A) n (modH w hs k (sT5 u q4.1 q4.2 (exR q4.2 (pfG (A 2) v1 v2 v3 v4) (A 2) x5).2) (upA A 2 (exR q4.2 (pfG (A 2) v1 v2 v3 v4) (A 2) x5).1)) n (some (.int v)) := by
  have hb1 : q1.1 < 202 := by rw [← e1]; exact Nat.lt_of_le_of_lt twS_le.2 (by show y + 2 < 202; omega)
  have hb2 : q2.1 < 203 := by rw [← e2]; exact Nat.lt_of_le_of_lt dgS_le.2 (by omega)
  have hb3 : q3.1 < 204 := by rw [← e3]; exact Nat.lt_of_le_of_lt dgS_le.2 (by omega)
  have hb4 : q4.1 < 206 := by rw [← e4]; exact Nat.lt_of_le_of_lt twS_le.2 (by omega)
  have r1 := twV_r (a := 4) (b := 40) w1 (by omega) (by omega)
  have r2 := dgV_r w2 (by decide)
  have h6 := hO.1.1.2.1
  by_cases hn : gN (A 2) < 6
  · by_cases hf : (decide (gN (A 2) = 0) || icl (A 2) (gN (A 2)) v3 v4) = true
    · have hp : pfG (A 2) v1 v2 v3 v4 = (true, adgF (A 2) (gN (A 2)) v1 v2 v3 v4) := by
        unfold pfG; rw [if_pos ⟨⟨r1, r2⟩, hn, (Bool.or_eq_true_iff.mp hf).imp of_decide_eq_true id⟩]
      cases hg : q4.2 with
      | false =>
        apply Exists.intro
        refine Cn.of (d := mX6_readGutter) (by decide +kernel) (Nat.le_of_ble_eq_true rfl) ?_
        intro p e R s m args below meth c CX
        replace CX : Ctx p s m args meth c R w RX6 "readGutter" cX6_readGutter 5 (some .int) 4 90 0 0 := CX
        show ZW p l e R s m args below meth c w 5 _ _ 0 0 (MQ below (Qn w _ _ _) args s 0 0 (wA w)) 0 [(0, .ref (wB w + k))] []
        refine z_aload_n CX 0 dX6_readGutter_0 rfl rfl ?_
        refine z_iconst CX (v := 4) dX6_readGutter_1 (by decide) ?_
        refine z_bipush CX (v := 40) dX6_readGutter_2 (by decide) ?_
        refine z_callV1 CX dX6_readGutter_4 cv_X6_148 (c_two (q := (y, true)) hu hl (Nat.lt_trans (show y < 200 by omega) (by omega)) _ _) mo_0 rfl rfl (Nat.le_of_ble_eq_true rfl) ⟨Nat.le_of_ble_eq_true rfl, Nat.le_of_ble_eq_true rfl⟩ ⟨Nat.le_refl _, Nat.le_refl _⟩ ?_
        rw [e1, w1]
        refine z_istore_n CX 1 dX6_readGutter_7 rfl (by decide) ?_
        refine z_aload_n CX 0 dX6_readGutter_8 rfl rfl ?_
        refine z_iconst CX (v := 0) dX6_readGutter_9 (by decide) ?_
        refine z_iconst CX (v := 5) dX6_readGutter_10 (by decide) ?_
        refine z_callV1 CX dX6_readGutter_11 cv_X6_141 (c_digit (q := q1) hu hl (Nat.lt_trans hb1 (by omega)) _ _) mo_0 rfl rfl (Nat.le_of_ble_eq_true rfl) ⟨Nat.le_of_ble_eq_true rfl, Nat.le_of_ble_eq_true rfl⟩ ⟨Nat.le_refl _, Nat.le_refl _⟩ ?_
        rw [e2, w2]
        refine z_istore_n CX 2 dX6_readGutter_14 rfl (by decide) ?_
        refine z_aload_n CX 0 dX6_readGutter_15 rfl rfl ?_
        refine z_iconst CX (v := 0) dX6_readGutter_16 (by decide) ?_
        refine z_iconst CX (v := 5) dX6_readGutter_17 (by decide) ?_
        refine z_callV1 CX dX6_readGutter_18 cv_X6_141 (c_digit (q := q2) hu hl (Nat.lt_trans hb2 (by omega)) _ _) mo_0 rfl rfl (Nat.le_of_ble_eq_true rfl) ⟨Nat.le_of_ble_eq_true rfl, Nat.le_of_ble_eq_true rfl⟩ ⟨Nat.le_refl _, Nat.le_refl _⟩ ?_
        rw [e3, w3]
        refine z_istore_n CX 3 dX6_readGutter_21 rfl (by decide) ?_
        refine z_aload_n CX 0 dX6_readGutter_22 rfl rfl ?_
        refine z_iconst CX (v := 0) dX6_readGutter_23 (by decide) ?_
        refine z_bipush CX (v := 39) dX6_readGutter_24 (by decide) ?_
        refine z_callV1 CX dX6_readGutter_26 cv_X6_148 (c_two (q := q3) hu hl (Nat.lt_trans hb3 (by omega)) _ _) mo_0 rfl rfl (Nat.le_of_ble_eq_true rfl) ⟨Nat.le_of_ble_eq_true rfl, Nat.le_of_ble_eq_true rfl⟩ ⟨Nat.le_refl _, Nat.le_refl _⟩ ?_
        rw [e4, w4]
        refine z_istore CX dX6_readGutter_29 (by decide) ?_
        refine z_aload_n CX 0 dX6_readGutter_31 rfl rfl ?_
        refine z_aload_n CX 0 dX6_readGutter_32 rfl rfl ?_
        refine z_get CX dX6_readGutter_33 fg_X6_16 mo_0 rfl ?_
        refine z_sipush CX (v := 146) dX6_readGutter_36 (by decide) ?_
        refine z_ia CX (j := 146) dX6_readGutter_39 mo_3 rfl (by omega) (by decide) ?_
        refine z_bipush CX (v := 6) dX6_readGutter_40 (by decide) ?_
        rw [show A 2 146 = nI (gN (A 2)) from hO.1.1.1]
        refine z_icmp_ge CX 62 dX6_readGutter_42 (by decide) (fun q9 => absurd q9 (nI_ge (b := 6) hn (by omega))) (fun _ => ?_)
        refine z_aload_n CX 0 dX6_readGutter_45 rfl rfl ?_
        refine z_get CX dX6_readGutter_46 fg_X6_16 mo_0 rfl ?_
        refine z_iload_n CX 3 dX6_readGutter_49 rfl rfl ?_
        refine z_iload CX dX6_readGutter_50 rfl ?_
        refine z_callS1 CX dX6_readGutter_52 cs_X6_151 (Cn.row mq_2 mq_2 (a := k + 3) (c_flow hO.1.1 v3 v4)) rfl rfl (Nat.le_of_ble_eq_true rfl) ⟨Nat.le_of_ble_eq_true rfl, Nat.le_of_ble_eq_true rfl⟩ ⟨Nat.le_refl _, Nat.le_refl _⟩ ?_
        rw [hf]
        refine z_if_eq CX 62 dX6_readGutter_55 (by decide) (fun q9 => absurd q9 (by decide)) (fun _ => ?_)
        refine z_iconst CX (v := 1) dX6_readGutter_58 (by decide) ?_
        refine z_goto CX 63 dX6_readGutter_59 (by decide) ?_
        refine z_callV1 CX dX6_readGutter_63 cv_X6_154 (c_goes (cn := true)) mo_0 rfl rfl (Nat.le_of_ble_eq_true rfl) ⟨Nat.le_of_ble_eq_true rfl, Nat.le_of_ble_eq_true rfl⟩ ⟨Nat.le_refl _, Nat.le_refl _⟩ ?_
        refine z_if_eq CX 84 dX6_readGutter_66 (by decide) (fun _ => ?_) (fun q9 => absurd (by rw [hg]; rfl) q9)
        refine z_iconst CX (v := 0) dX6_readGutter_84 (by decide) ?_
        exact z_iret CX dX6_readGutter_85 rfl rfl (by unfold exR; rw [hg]; show modH w hs k _ A = modH w hs k _ (upA A 2 (A 2)); rw [upA_id]; rfl) (Or.inl rfl)
      | true =>
        apply Exists.intro
        refine Cn.of (d := mX6_readGutter) (by decide +kernel) (Nat.le_of_ble_eq_true rfl) ?_
        intro p e R s m args below meth c CX
        replace CX : Ctx p s m args meth c R w RX6 "readGutter" cX6_readGutter 5 (some .int) 4 90 0 0 := CX
        show ZW p l e R s m args below meth c w 5 _ _ 0 0 (MQ below (Qn w _ _ _) args s 0 0 (wA w)) 0 [(0, .ref (wB w + k))] []
        refine z_aload_n CX 0 dX6_readGutter_0 rfl rfl ?_
        refine z_iconst CX (v := 4) dX6_readGutter_1 (by decide) ?_
        refine z_bipush CX (v := 40) dX6_readGutter_2 (by decide) ?_
        refine z_callV1 CX dX6_readGutter_4 cv_X6_148 (c_two (q := (y, true)) hu hl (Nat.lt_trans (show y < 200 by omega) (by omega)) _ _) mo_0 rfl rfl (Nat.le_of_ble_eq_true rfl) ⟨Nat.le_of_ble_eq_true rfl, Nat.le_of_ble_eq_true rfl⟩ ⟨Nat.le_refl _, Nat.le_refl _⟩ ?_
        rw [e1, w1]
        refine z_istore_n CX 1 dX6_readGutter_7 rfl (by decide) ?_
        refine z_aload_n CX 0 dX6_readGutter_8 rfl rfl ?_
        refine z_iconst CX (v := 0) dX6_readGutter_9 (by decide) ?_
        refine z_iconst CX (v := 5) dX6_readGutter_10 (by decide) ?_
        refine z_callV1 CX dX6_readGutter_11 cv_X6_141 (c_digit (q := q1) hu hl (Nat.lt_trans hb1 (by omega)) _ _) mo_0 rfl rfl (Nat.le_of_ble_eq_true rfl) ⟨Nat.le_of_ble_eq_true rfl, Nat.le_of_ble_eq_true rfl⟩ ⟨Nat.le_refl _, Nat.le_refl _⟩ ?_
        rw [e2, w2]
        refine z_istore_n CX 2 dX6_readGutter_14 rfl (by decide) ?_
        refine z_aload_n CX 0 dX6_readGutter_15 rfl rfl ?_
        refine z_iconst CX (v := 0) dX6_readGutter_16 (by decide) ?_
        refine z_iconst CX (v := 5) dX6_readGutter_17 (by decide) ?_
        refine z_callV1 CX dX6_readGutter_18 cv_X6_141 (c_digit (q := q2) hu hl (Nat.lt_trans hb2 (by omega)) _ _) mo_0 rfl rfl (Nat.le_of_ble_eq_true rfl) ⟨Nat.le_of_ble_eq_true rfl, Nat.le_of_ble_eq_true rfl⟩ ⟨Nat.le_refl _, Nat.le_refl _⟩ ?_
        rw [e3, w3]
        refine z_istore_n CX 3 dX6_readGutter_21 rfl (by decide) ?_
        refine z_aload_n CX 0 dX6_readGutter_22 rfl rfl ?_
        refine z_iconst CX (v := 0) dX6_readGutter_23 (by decide) ?_
        refine z_bipush CX (v := 39) dX6_readGutter_24 (by decide) ?_
        refine z_callV1 CX dX6_readGutter_26 cv_X6_148 (c_two (q := q3) hu hl (Nat.lt_trans hb3 (by omega)) _ _) mo_0 rfl rfl (Nat.le_of_ble_eq_true rfl) ⟨Nat.le_of_ble_eq_true rfl, Nat.le_of_ble_eq_true rfl⟩ ⟨Nat.le_refl _, Nat.le_refl _⟩ ?_
        rw [e4, w4]
        refine z_istore CX dX6_readGutter_29 (by decide) ?_
        refine z_aload_n CX 0 dX6_readGutter_31 rfl rfl ?_
        refine z_aload_n CX 0 dX6_readGutter_32 rfl rfl ?_
        refine z_get CX dX6_readGutter_33 fg_X6_16 mo_0 rfl ?_
        refine z_sipush CX (v := 146) dX6_readGutter_36 (by decide) ?_
        refine z_ia CX (j := 146) dX6_readGutter_39 mo_3 rfl (by omega) (by decide) ?_
        refine z_bipush CX (v := 6) dX6_readGutter_40 (by decide) ?_
        rw [show A 2 146 = nI (gN (A 2)) from hO.1.1.1]
        refine z_icmp_ge CX 62 dX6_readGutter_42 (by decide) (fun q9 => absurd q9 (nI_ge (b := 6) hn (by omega))) (fun _ => ?_)
        refine z_aload_n CX 0 dX6_readGutter_45 rfl rfl ?_
        refine z_get CX dX6_readGutter_46 fg_X6_16 mo_0 rfl ?_
        refine z_iload_n CX 3 dX6_readGutter_49 rfl rfl ?_
        refine z_iload CX dX6_readGutter_50 rfl ?_
        refine z_callS1 CX dX6_readGutter_52 cs_X6_151 (Cn.row mq_2 mq_2 (a := k + 3) (c_flow hO.1.1 v3 v4)) rfl rfl (Nat.le_of_ble_eq_true rfl) ⟨Nat.le_of_ble_eq_true rfl, Nat.le_of_ble_eq_true rfl⟩ ⟨Nat.le_refl _, Nat.le_refl _⟩ ?_
        rw [hf]
        refine z_if_eq CX 62 dX6_readGutter_55 (by decide) (fun q9 => absurd q9 (by decide)) (fun _ => ?_)
        refine z_iconst CX (v := 1) dX6_readGutter_58 (by decide) ?_
        refine z_goto CX 63 dX6_readGutter_59 (by decide) ?_
        refine z_callV1 CX dX6_readGutter_63 cv_X6_154 (c_goes (cn := true)) mo_0 rfl rfl (Nat.le_of_ble_eq_true rfl) ⟨Nat.le_of_ble_eq_true rfl, Nat.le_of_ble_eq_true rfl⟩ ⟨Nat.le_refl _, Nat.le_refl _⟩ ?_
        refine z_if_eq CX 84 dX6_readGutter_66 (by decide) (fun q9 => absurd q9 (by rw [hg]; decide)) (fun _ => ?_)
        refine z_aload_n CX 0 dX6_readGutter_69 rfl rfl ?_
        refine z_get CX dX6_readGutter_70 fg_X6_16 mo_0 rfl ?_
        refine z_iload_n CX 1 dX6_readGutter_73 rfl rfl ?_
        refine z_iload_n CX 2 dX6_readGutter_74 rfl rfl ?_
        refine z_iload_n CX 3 dX6_readGutter_75 rfl rfl ?_
        refine z_iload CX dX6_readGutter_76 rfl ?_
        refine z_callS1 CX dX6_readGutter_78 cs_X6_158 (Cn.row mq_2 mr_2 (a := k + 3) (c_addG hO.1.1.1 hn v1 v2 v3 v4)) rfl rfl (Nat.le_of_ble_eq_true rfl) ⟨Nat.le_of_ble_eq_true rfl, Nat.le_of_ble_eq_true rfl⟩ ⟨Nat.le_refl _, Nat.le_refl _⟩ ?_
        refine z_goto CX 85 dX6_readGutter_81 (by decide) ?_
        exact z_iret CX dX6_readGutter_85 rfl rfl (by rw [hp]; unfold exR; rw [hg]; rfl) (Or.inl rfl)
    · have hf9 : (decide (gN (A 2) = 0) || icl (A 2) (gN (A 2)) v3 v4) = false := Bool.eq_false_iff.mpr hf
      have hp : pfG (A 2) v1 v2 v3 v4 = (false, A 2) := by
        unfold pfG; rw [if_neg (fun z => hf (Bool.or_eq_true_iff.mpr (z.2.2.imp decide_eq_true id)))]
      cases hg : q4.2 with
      | false =>
        apply Exists.intro
        refine Cn.of (d := mX6_readGutter) (by decide +kernel) (Nat.le_of_ble_eq_true rfl) ?_
        intro p e R s m args below meth c CX
        replace CX : Ctx p s m args meth c R w RX6 "readGutter" cX6_readGutter 5 (some .int) 4 90 0 0 := CX
        show ZW p l e R s m args below meth c w 5 _ _ 0 0 (MQ below (Qn w _ _ _) args s 0 0 (wA w)) 0 [(0, .ref (wB w + k))] []
        refine z_aload_n CX 0 dX6_readGutter_0 rfl rfl ?_
        refine z_iconst CX (v := 4) dX6_readGutter_1 (by decide) ?_
        refine z_bipush CX (v := 40) dX6_readGutter_2 (by decide) ?_
        refine z_callV1 CX dX6_readGutter_4 cv_X6_148 (c_two (q := (y, true)) hu hl (Nat.lt_trans (show y < 200 by omega) (by omega)) _ _) mo_0 rfl rfl (Nat.le_of_ble_eq_true rfl) ⟨Nat.le_of_ble_eq_true rfl, Nat.le_of_ble_eq_true rfl⟩ ⟨Nat.le_refl _, Nat.le_refl _⟩ ?_
        rw [e1, w1]
        refine z_istore_n CX 1 dX6_readGutter_7 rfl (by decide) ?_
        refine z_aload_n CX 0 dX6_readGutter_8 rfl rfl ?_
        refine z_iconst CX (v := 0) dX6_readGutter_9 (by decide) ?_
        refine z_iconst CX (v := 5) dX6_readGutter_10 (by decide) ?_
        refine z_callV1 CX dX6_readGutter_11 cv_X6_141 (c_digit (q := q1) hu hl (Nat.lt_trans hb1 (by omega)) _ _) mo_0 rfl rfl (Nat.le_of_ble_eq_true rfl) ⟨Nat.le_of_ble_eq_true rfl, Nat.le_of_ble_eq_true rfl⟩ ⟨Nat.le_refl _, Nat.le_refl _⟩ ?_
        rw [e2, w2]
        refine z_istore_n CX 2 dX6_readGutter_14 rfl (by decide) ?_
        refine z_aload_n CX 0 dX6_readGutter_15 rfl rfl ?_
        refine z_iconst CX (v := 0) dX6_readGutter_16 (by decide) ?_
        refine z_iconst CX (v := 5) dX6_readGutter_17 (by decide) ?_
        refine z_callV1 CX dX6_readGutter_18 cv_X6_141 (c_digit (q := q2) hu hl (Nat.lt_trans hb2 (by omega)) _ _) mo_0 rfl rfl (Nat.le_of_ble_eq_true rfl) ⟨Nat.le_of_ble_eq_true rfl, Nat.le_of_ble_eq_true rfl⟩ ⟨Nat.le_refl _, Nat.le_refl _⟩ ?_
        rw [e3, w3]
        refine z_istore_n CX 3 dX6_readGutter_21 rfl (by decide) ?_
        refine z_aload_n CX 0 dX6_readGutter_22 rfl rfl ?_
        refine z_iconst CX (v := 0) dX6_readGutter_23 (by decide) ?_
        refine z_bipush CX (v := 39) dX6_readGutter_24 (by decide) ?_
        refine z_callV1 CX dX6_readGutter_26 cv_X6_148 (c_two (q := q3) hu hl (Nat.lt_trans hb3 (by omega)) _ _) mo_0 rfl rfl (Nat.le_of_ble_eq_true rfl) ⟨Nat.le_of_ble_eq_true rfl, Nat.le_of_ble_eq_true rfl⟩ ⟨Nat.le_refl _, Nat.le_refl _⟩ ?_
        rw [e4, w4]
        refine z_istore CX dX6_readGutter_29 (by decide) ?_
        refine z_aload_n CX 0 dX6_readGutter_31 rfl rfl ?_
        refine z_aload_n CX 0 dX6_readGutter_32 rfl rfl ?_
        refine z_get CX dX6_readGutter_33 fg_X6_16 mo_0 rfl ?_
        refine z_sipush CX (v := 146) dX6_readGutter_36 (by decide) ?_
        refine z_ia CX (j := 146) dX6_readGutter_39 mo_3 rfl (by omega) (by decide) ?_
        refine z_bipush CX (v := 6) dX6_readGutter_40 (by decide) ?_
        rw [show A 2 146 = nI (gN (A 2)) from hO.1.1.1]
        refine z_icmp_ge CX 62 dX6_readGutter_42 (by decide) (fun q9 => absurd q9 (nI_ge (b := 6) hn (by omega))) (fun _ => ?_)
        refine z_aload_n CX 0 dX6_readGutter_45 rfl rfl ?_
        refine z_get CX dX6_readGutter_46 fg_X6_16 mo_0 rfl ?_
        refine z_iload_n CX 3 dX6_readGutter_49 rfl rfl ?_
        refine z_iload CX dX6_readGutter_50 rfl ?_
        refine z_callS1 CX dX6_readGutter_52 cs_X6_151 (Cn.row mq_2 mq_2 (a := k + 3) (c_flow hO.1.1 v3 v4)) rfl rfl (Nat.le_of_ble_eq_true rfl) ⟨Nat.le_of_ble_eq_true rfl, Nat.le_of_ble_eq_true rfl⟩ ⟨Nat.le_refl _, Nat.le_refl _⟩ ?_
        rw [hf9]
        refine z_if_eq CX 62 dX6_readGutter_55 (by decide) (fun _ => ?_) (fun q9 => absurd rfl q9)
        refine z_iconst CX (v := 0) dX6_readGutter_62 (by decide) ?_
        refine z_callV1 CX dX6_readGutter_63 cv_X6_154 (c_goes (cn := false)) mo_0 rfl rfl (Nat.le_of_ble_eq_true rfl) ⟨Nat.le_of_ble_eq_true rfl, Nat.le_of_ble_eq_true rfl⟩ ⟨Nat.le_refl _, Nat.le_refl _⟩ ?_
        refine z_if_eq CX 84 dX6_readGutter_66 (by decide) (fun _ => ?_) (fun q9 => absurd (by rw [hg]; rfl) q9)
        refine z_iconst CX (v := 0) dX6_readGutter_84 (by decide) ?_
        exact z_iret CX dX6_readGutter_85 rfl rfl (by unfold exR; rw [hg]; show modH w hs k _ A = modH w hs k _ (upA A 2 (A 2)); rw [upA_id]; rfl) (Or.inl rfl)
      | true =>
        apply Exists.intro
        refine Cn.of (d := mX6_readGutter) (by decide +kernel) (Nat.le_of_ble_eq_true rfl) ?_
        intro p e R s m args below meth c CX
        replace CX : Ctx p s m args meth c R w RX6 "readGutter" cX6_readGutter 5 (some .int) 4 90 0 0 := CX
        show ZW p l e R s m args below meth c w 5 _ _ 0 0 (MQ below (Qn w _ _ _) args s 0 0 (wA w)) 0 [(0, .ref (wB w + k))] []
        refine z_aload_n CX 0 dX6_readGutter_0 rfl rfl ?_
        refine z_iconst CX (v := 4) dX6_readGutter_1 (by decide) ?_
        refine z_bipush CX (v := 40) dX6_readGutter_2 (by decide) ?_
        refine z_callV1 CX dX6_readGutter_4 cv_X6_148 (c_two (q := (y, true)) hu hl (Nat.lt_trans (show y < 200 by omega) (by omega)) _ _) mo_0 rfl rfl (Nat.le_of_ble_eq_true rfl) ⟨Nat.le_of_ble_eq_true rfl, Nat.le_of_ble_eq_true rfl⟩ ⟨Nat.le_refl _, Nat.le_refl _⟩ ?_
        rw [e1, w1]
        refine z_istore_n CX 1 dX6_readGutter_7 rfl (by decide) ?_
        refine z_aload_n CX 0 dX6_readGutter_8 rfl rfl ?_
        refine z_iconst CX (v := 0) dX6_readGutter_9 (by decide) ?_
        refine z_iconst CX (v := 5) dX6_readGutter_10 (by decide) ?_
        refine z_callV1 CX dX6_readGutter_11 cv_X6_141 (c_digit (q := q1) hu hl (Nat.lt_trans hb1 (by omega)) _ _) mo_0 rfl rfl (Nat.le_of_ble_eq_true rfl) ⟨Nat.le_of_ble_eq_true rfl, Nat.le_of_ble_eq_true rfl⟩ ⟨Nat.le_refl _, Nat.le_refl _⟩ ?_
        rw [e2, w2]
        refine z_istore_n CX 2 dX6_readGutter_14 rfl (by decide) ?_
        refine z_aload_n CX 0 dX6_readGutter_15 rfl rfl ?_
        refine z_iconst CX (v := 0) dX6_readGutter_16 (by decide) ?_
        refine z_iconst CX (v := 5) dX6_readGutter_17 (by decide) ?_
        refine z_callV1 CX dX6_readGutter_18 cv_X6_141 (c_digit (q := q2) hu hl (Nat.lt_trans hb2 (by omega)) _ _) mo_0 rfl rfl (Nat.le_of_ble_eq_true rfl) ⟨Nat.le_of_ble_eq_true rfl, Nat.le_of_ble_eq_true rfl⟩ ⟨Nat.le_refl _, Nat.le_refl _⟩ ?_
        rw [e3, w3]
        refine z_istore_n CX 3 dX6_readGutter_21 rfl (by decide) ?_
        refine z_aload_n CX 0 dX6_readGutter_22 rfl rfl ?_
        refine z_iconst CX (v := 0) dX6_readGutter_23 (by decide) ?_
        refine z_bipush CX (v := 39) dX6_readGutter_24 (by decide) ?_
        refine z_callV1 CX dX6_readGutter_26 cv_X6_148 (c_two (q := q3) hu hl (Nat.lt_trans hb3 (by omega)) _ _) mo_0 rfl rfl (Nat.le_of_ble_eq_true rfl) ⟨Nat.le_of_ble_eq_true rfl, Nat.le_of_ble_eq_true rfl⟩ ⟨Nat.le_refl _, Nat.le_refl _⟩ ?_
        rw [e4, w4]
        refine z_istore CX dX6_readGutter_29 (by decide) ?_
        refine z_aload_n CX 0 dX6_readGutter_31 rfl rfl ?_
        refine z_aload_n CX 0 dX6_readGutter_32 rfl rfl ?_
        refine z_get CX dX6_readGutter_33 fg_X6_16 mo_0 rfl ?_
        refine z_sipush CX (v := 146) dX6_readGutter_36 (by decide) ?_
        refine z_ia CX (j := 146) dX6_readGutter_39 mo_3 rfl (by omega) (by decide) ?_
        refine z_bipush CX (v := 6) dX6_readGutter_40 (by decide) ?_
        rw [show A 2 146 = nI (gN (A 2)) from hO.1.1.1]
        refine z_icmp_ge CX 62 dX6_readGutter_42 (by decide) (fun q9 => absurd q9 (nI_ge (b := 6) hn (by omega))) (fun _ => ?_)
        refine z_aload_n CX 0 dX6_readGutter_45 rfl rfl ?_
        refine z_get CX dX6_readGutter_46 fg_X6_16 mo_0 rfl ?_
        refine z_iload_n CX 3 dX6_readGutter_49 rfl rfl ?_
        refine z_iload CX dX6_readGutter_50 rfl ?_
        refine z_callS1 CX dX6_readGutter_52 cs_X6_151 (Cn.row mq_2 mq_2 (a := k + 3) (c_flow hO.1.1 v3 v4)) rfl rfl (Nat.le_of_ble_eq_true rfl) ⟨Nat.le_of_ble_eq_true rfl, Nat.le_of_ble_eq_true rfl⟩ ⟨Nat.le_refl _, Nat.le_refl _⟩ ?_
        rw [hf9]
        refine z_if_eq CX 62 dX6_readGutter_55 (by decide) (fun _ => ?_) (fun q9 => absurd rfl q9)
        refine z_iconst CX (v := 0) dX6_readGutter_62 (by decide) ?_
        refine z_callV1 CX dX6_readGutter_63 cv_X6_154 (c_goes (cn := false)) mo_0 rfl rfl (Nat.le_of_ble_eq_true rfl) ⟨Nat.le_of_ble_eq_true rfl, Nat.le_of_ble_eq_true rfl⟩ ⟨Nat.le_refl _, Nat.le_refl _⟩ ?_
        refine z_if_eq CX 84 dX6_readGutter_66 (by decide) (fun _ => ?_) (fun q9 => absurd (by rw [hg]; rfl) q9)
        refine z_iconst CX (v := 0) dX6_readGutter_84 (by decide) ?_
        exact z_iret CX dX6_readGutter_85 rfl rfl (by rw [hp]; unfold exR; rw [hg]; show modH w hs k _ A = modH w hs k _ (upA A 2 (A 2)); rw [upA_id]; rfl) (Or.inl rfl)
  · have hp : pfG (A 2) v1 v2 v3 v4 = (false, A 2) := by
      unfold pfG; rw [if_neg (fun z => hn z.2.1)]
    cases hg : q4.2 with
    | false =>
      apply Exists.intro
      refine Cn.of (d := mX6_readGutter) (by decide +kernel) (Nat.le_of_ble_eq_true rfl) ?_
      intro p e R s m args below meth c CX
      replace CX : Ctx p s m args meth c R w RX6 "readGutter" cX6_readGutter 5 (some .int) 4 90 0 0 := CX
      show ZW p l e R s m args below meth c w 5 _ _ 0 0 (MQ below (Qn w _ _ _) args s 0 0 (wA w)) 0 [(0, .ref (wB w + k))] []
      refine z_aload_n CX 0 dX6_readGutter_0 rfl rfl ?_
      refine z_iconst CX (v := 4) dX6_readGutter_1 (by decide) ?_
      refine z_bipush CX (v := 40) dX6_readGutter_2 (by decide) ?_
      refine z_callV1 CX dX6_readGutter_4 cv_X6_148 (c_two (q := (y, true)) hu hl (Nat.lt_trans (show y < 200 by omega) (by omega)) _ _) mo_0 rfl rfl (Nat.le_of_ble_eq_true rfl) ⟨Nat.le_of_ble_eq_true rfl, Nat.le_of_ble_eq_true rfl⟩ ⟨Nat.le_refl _, Nat.le_refl _⟩ ?_
      rw [e1, w1]
      refine z_istore_n CX 1 dX6_readGutter_7 rfl (by decide) ?_
      refine z_aload_n CX 0 dX6_readGutter_8 rfl rfl ?_
      refine z_iconst CX (v := 0) dX6_readGutter_9 (by decide) ?_
      refine z_iconst CX (v := 5) dX6_readGutter_10 (by decide) ?_
      refine z_callV1 CX dX6_readGutter_11 cv_X6_141 (c_digit (q := q1) hu hl (Nat.lt_trans hb1 (by omega)) _ _) mo_0 rfl rfl (Nat.le_of_ble_eq_true rfl) ⟨Nat.le_of_ble_eq_true rfl, Nat.le_of_ble_eq_true rfl⟩ ⟨Nat.le_refl _, Nat.le_refl _⟩ ?_
      rw [e2, w2]
      refine z_istore_n CX 2 dX6_readGutter_14 rfl (by decide) ?_
      refine z_aload_n CX 0 dX6_readGutter_15 rfl rfl ?_
      refine z_iconst CX (v := 0) dX6_readGutter_16 (by decide) ?_
      refine z_iconst CX (v := 5) dX6_readGutter_17 (by decide) ?_
      refine z_callV1 CX dX6_readGutter_18 cv_X6_141 (c_digit (q := q2) hu hl (Nat.lt_trans hb2 (by omega)) _ _) mo_0 rfl rfl (Nat.le_of_ble_eq_true rfl) ⟨Nat.le_of_ble_eq_true rfl, Nat.le_of_ble_eq_true rfl⟩ ⟨Nat.le_refl _, Nat.le_refl _⟩ ?_
      rw [e3, w3]
      refine z_istore_n CX 3 dX6_readGutter_21 rfl (by decide) ?_
      refine z_aload_n CX 0 dX6_readGutter_22 rfl rfl ?_
      refine z_iconst CX (v := 0) dX6_readGutter_23 (by decide) ?_
      refine z_bipush CX (v := 39) dX6_readGutter_24 (by decide) ?_
      refine z_callV1 CX dX6_readGutter_26 cv_X6_148 (c_two (q := q3) hu hl (Nat.lt_trans hb3 (by omega)) _ _) mo_0 rfl rfl (Nat.le_of_ble_eq_true rfl) ⟨Nat.le_of_ble_eq_true rfl, Nat.le_of_ble_eq_true rfl⟩ ⟨Nat.le_refl _, Nat.le_refl _⟩ ?_
      rw [e4, w4]
      refine z_istore CX dX6_readGutter_29 (by decide) ?_
      refine z_aload_n CX 0 dX6_readGutter_31 rfl rfl ?_
      refine z_aload_n CX 0 dX6_readGutter_32 rfl rfl ?_
      refine z_get CX dX6_readGutter_33 fg_X6_16 mo_0 rfl ?_
      refine z_sipush CX (v := 146) dX6_readGutter_36 (by decide) ?_
      refine z_ia CX (j := 146) dX6_readGutter_39 mo_3 rfl (by omega) (by decide) ?_
      refine z_bipush CX (v := 6) dX6_readGutter_40 (by decide) ?_
      rw [show A 2 146 = nI (gN (A 2)) from hO.1.1.1]
      refine z_icmp_ge CX 62 dX6_readGutter_42 (by decide) (fun _ => ?_) (fun q9 => absurd (nI_le (a := 6) (by omega) (by omega)) q9)
      refine z_iconst CX (v := 0) dX6_readGutter_62 (by decide) ?_
      refine z_callV1 CX dX6_readGutter_63 cv_X6_154 (c_goes (cn := false)) mo_0 rfl rfl (Nat.le_of_ble_eq_true rfl) ⟨Nat.le_of_ble_eq_true rfl, Nat.le_of_ble_eq_true rfl⟩ ⟨Nat.le_refl _, Nat.le_refl _⟩ ?_
      refine z_if_eq CX 84 dX6_readGutter_66 (by decide) (fun _ => ?_) (fun q9 => absurd (by rw [hg]; rfl) q9)
      refine z_iconst CX (v := 0) dX6_readGutter_84 (by decide) ?_
      exact z_iret CX dX6_readGutter_85 rfl rfl (by unfold exR; rw [hg]; show modH w hs k _ A = modH w hs k _ (upA A 2 (A 2)); rw [upA_id]; rfl) (Or.inl rfl)
    | true =>
      apply Exists.intro
      refine Cn.of (d := mX6_readGutter) (by decide +kernel) (Nat.le_of_ble_eq_true rfl) ?_
      intro p e R s m args below meth c CX
      replace CX : Ctx p s m args meth c R w RX6 "readGutter" cX6_readGutter 5 (some .int) 4 90 0 0 := CX
      show ZW p l e R s m args below meth c w 5 _ _ 0 0 (MQ below (Qn w _ _ _) args s 0 0 (wA w)) 0 [(0, .ref (wB w + k))] []
      refine z_aload_n CX 0 dX6_readGutter_0 rfl rfl ?_
      refine z_iconst CX (v := 4) dX6_readGutter_1 (by decide) ?_
      refine z_bipush CX (v := 40) dX6_readGutter_2 (by decide) ?_
      refine z_callV1 CX dX6_readGutter_4 cv_X6_148 (c_two (q := (y, true)) hu hl (Nat.lt_trans (show y < 200 by omega) (by omega)) _ _) mo_0 rfl rfl (Nat.le_of_ble_eq_true rfl) ⟨Nat.le_of_ble_eq_true rfl, Nat.le_of_ble_eq_true rfl⟩ ⟨Nat.le_refl _, Nat.le_refl _⟩ ?_
      rw [e1, w1]
      refine z_istore_n CX 1 dX6_readGutter_7 rfl (by decide) ?_
      refine z_aload_n CX 0 dX6_readGutter_8 rfl rfl ?_
      refine z_iconst CX (v := 0) dX6_readGutter_9 (by decide) ?_
      refine z_iconst CX (v := 5) dX6_readGutter_10 (by decide) ?_
      refine z_callV1 CX dX6_readGutter_11 cv_X6_141 (c_digit (q := q1) hu hl (Nat.lt_trans hb1 (by omega)) _ _) mo_0 rfl rfl (Nat.le_of_ble_eq_true rfl) ⟨Nat.le_of_ble_eq_true rfl, Nat.le_of_ble_eq_true rfl⟩ ⟨Nat.le_refl _, Nat.le_refl _⟩ ?_
      rw [e2, w2]
      refine z_istore_n CX 2 dX6_readGutter_14 rfl (by decide) ?_
      refine z_aload_n CX 0 dX6_readGutter_15 rfl rfl ?_
      refine z_iconst CX (v := 0) dX6_readGutter_16 (by decide) ?_
      refine z_iconst CX (v := 5) dX6_readGutter_17 (by decide) ?_
      refine z_callV1 CX dX6_readGutter_18 cv_X6_141 (c_digit (q := q2) hu hl (Nat.lt_trans hb2 (by omega)) _ _) mo_0 rfl rfl (Nat.le_of_ble_eq_true rfl) ⟨Nat.le_of_ble_eq_true rfl, Nat.le_of_ble_eq_true rfl⟩ ⟨Nat.le_refl _, Nat.le_refl _⟩ ?_
      rw [e3, w3]
      refine z_istore_n CX 3 dX6_readGutter_21 rfl (by decide) ?_
      refine z_aload_n CX 0 dX6_readGutter_22 rfl rfl ?_
      refine z_iconst CX (v := 0) dX6_readGutter_23 (by decide) ?_
      refine z_bipush CX (v := 39) dX6_readGutter_24 (by decide) ?_
      refine z_callV1 CX dX6_readGutter_26 cv_X6_148 (c_two (q := q3) hu hl (Nat.lt_trans hb3 (by omega)) _ _) mo_0 rfl rfl (Nat.le_of_ble_eq_true rfl) ⟨Nat.le_of_ble_eq_true rfl, Nat.le_of_ble_eq_true rfl⟩ ⟨Nat.le_refl _, Nat.le_refl _⟩ ?_
      rw [e4, w4]
      refine z_istore CX dX6_readGutter_29 (by decide) ?_
      refine z_aload_n CX 0 dX6_readGutter_31 rfl rfl ?_
      refine z_aload_n CX 0 dX6_readGutter_32 rfl rfl ?_
      refine z_get CX dX6_readGutter_33 fg_X6_16 mo_0 rfl ?_
      refine z_sipush CX (v := 146) dX6_readGutter_36 (by decide) ?_
      refine z_ia CX (j := 146) dX6_readGutter_39 mo_3 rfl (by omega) (by decide) ?_
      refine z_bipush CX (v := 6) dX6_readGutter_40 (by decide) ?_
      rw [show A 2 146 = nI (gN (A 2)) from hO.1.1.1]
      refine z_icmp_ge CX 62 dX6_readGutter_42 (by decide) (fun _ => ?_) (fun q9 => absurd (nI_le (a := 6) (by omega) (by omega)) q9)
      refine z_iconst CX (v := 0) dX6_readGutter_62 (by decide) ?_
      refine z_callV1 CX dX6_readGutter_63 cv_X6_154 (c_goes (cn := false)) mo_0 rfl rfl (Nat.le_of_ble_eq_true rfl) ⟨Nat.le_of_ble_eq_true rfl, Nat.le_of_ble_eq_true rfl⟩ ⟨Nat.le_refl _, Nat.le_refl _⟩ ?_
      refine z_if_eq CX 84 dX6_readGutter_66 (by decide) (fun _ => ?_) (fun q9 => absurd (by rw [hg]; rfl) q9)
      refine z_iconst CX (v := 0) dX6_readGutter_84 (by decide) ?_
      exact z_iret CX dX6_readGutter_85 rfl rfl (by rw [hp]; unfold exR; rw [hg]; show modH w hs k _ A = modH w hs k _ (upA A 2 (A 2)); rw [upA_id]; rfl) (Or.inl rfl)
set_option maxHeartbeats 4000000 in
set_option maxRecDepth 100000 in
theorem c_rdB {l : Launch} {w : Wt} {hs : Hs} {n : Option Nat} {k : Nat} {u : Nat → Int32} {A : Nat → Nat → Int32} {y len : Nat} {x5 : Int32} (hu : u 2 = nI len) (hl : len ≤ 120) (hy : y < 200) (hO : OKr (A 2))  {q1 : Nat × Bool} {v1 : Int32} (e1 : dgS (A 6) len 1 9 (y, true) = q1) (w1 : dgV (A 6) len 1 9 (y, true) = v1) {q2 : Nat × Bool} {v2 : Int32} (e2 : dgS (A 6) len 0 3 q1 = q2) (w2 : dgV (A 6) len 0 3 q1 = v2) {q3 : Nat × Bool} {v3 : Int32} (e3 : dgS (A 6) len 0 3 q2 = q3) (w3 : dgV (A 6) len 0 3 q2 = v3) : ∃ v : Int32, Cn l w mX6_readBoat 0 0 [.ref (wB w + k)] (modH w hs k (sT5 u y true x5) A) n (modH w hs k (sT5 u q3.1 q3.2 (exR q3.2 (pfB (A 2) v1 v2 v3) (A 2) x5).2) (upA A 2 (exR q3.2 (pfB (A 2) v1 v2 v3) (A 2) x5).1)) n (some (.int v)) := by
  have hb1 : q1.1 < 201 := by rw [← e1]; exact Nat.lt_of_le_of_lt dgS_le.2 (by show y + 1 < 201; omega)
  have hb2 : q2.1 < 202 := by rw [← e2]; exact Nat.lt_of_le_of_lt dgS_le.2 (by omega)
  have hb3 : q3.1 < 203 := by rw [← e3]; exact Nat.lt_of_le_of_lt dgS_le.2 (by omega)
  have r1 := dgV_r w1 (by decide)
  have r2 := dgV_r w2 (by decide)
  have r3 := dgV_r w3 (by decide)
  have h6 := hO.2.2
  by_cases hn : bN (A 2) < 10
  · have hp : pfB (A 2) v1 v2 v3 = (true, adbF (A 2) (bN (A 2)) v1 v2 v3) := by
      unfold pfB; rw [if_pos ⟨r3, ⟨r1, r2⟩, hn⟩]
    cases hg : q3.2 with
    | false =>
      apply Exists.intro
      refine Cn.of (d := mX6_readBoat) (by decide +kernel) (Nat.le_of_ble_eq_true rfl) ?_
      intro p e R s m args below meth c CX
      replace CX : Ctx p s m args meth c R w RX6 "readBoat" cX6_readBoat 4 (some .int) 2 48 0 0 := CX
      show ZW p l e R s m args below meth c w 4 _ _ 0 0 (MQ below (Qn w _ _ _) args s 0 0 (wA w)) 0 [(0, .ref (wB w + k))] []
      refine z_aload_n CX 0 dX6_readBoat_0 rfl rfl ?_
      refine z_iconst CX (v := 1) dX6_readBoat_1 (by decide) ?_
      refine z_bipush CX (v := 9) dX6_readBoat_2 (by decide) ?_
      refine z_callV1 CX dX6_readBoat_4 cv_X6_141 (c_digit (q := (y, true)) hu hl (Nat.lt_trans (show y < 200 by omega) (by omega)) _ _) mo_0 rfl rfl (Nat.le_of_ble_eq_true rfl) ⟨Nat.le_of_ble_eq_true rfl, Nat.le_of_ble_eq_true rfl⟩ ⟨Nat.le_refl _, Nat.le_refl _⟩ ?_
      rw [e1, w1]
      refine z_istore_n CX 1 dX6_readBoat_7 rfl (by decide) ?_
      refine z_aload_n CX 0 dX6_readBoat_8 rfl rfl ?_
      refine z_iconst CX (v := 0) dX6_readBoat_9 (by decide) ?_
      refine z_iconst CX (v := 3) dX6_readBoat_10 (by decide) ?_
      refine z_callV1 CX dX6_readBoat_11 cv_X6_141 (c_digit (q := q1) hu hl (Nat.lt_trans hb1 (by omega)) _ _) mo_0 rfl rfl (Nat.le_of_ble_eq_true rfl) ⟨Nat.le_of_ble_eq_true rfl, Nat.le_of_ble_eq_true rfl⟩ ⟨Nat.le_refl _, Nat.le_refl _⟩ ?_
      rw [e2, w2]
      refine z_istore_n CX 2 dX6_readBoat_14 rfl (by decide) ?_
      refine z_aload_n CX 0 dX6_readBoat_15 rfl rfl ?_
      refine z_iconst CX (v := 0) dX6_readBoat_16 (by decide) ?_
      refine z_iconst CX (v := 3) dX6_readBoat_17 (by decide) ?_
      refine z_callV1 CX dX6_readBoat_18 cv_X6_141 (c_digit (q := q2) hu hl (Nat.lt_trans hb2 (by omega)) _ _) mo_0 rfl rfl (Nat.le_of_ble_eq_true rfl) ⟨Nat.le_of_ble_eq_true rfl, Nat.le_of_ble_eq_true rfl⟩ ⟨Nat.le_refl _, Nat.le_refl _⟩ ?_
      rw [e3, w3]
      refine z_istore_n CX 3 dX6_readBoat_21 rfl (by decide) ?_
      refine z_aload_n CX 0 dX6_readBoat_22 rfl rfl ?_
      refine z_aload_n CX 0 dX6_readBoat_23 rfl rfl ?_
      refine z_get CX dX6_readBoat_24 fg_X6_16 mo_0 rfl ?_
      refine z_sipush CX (v := 147) dX6_readBoat_27 (by decide) ?_
      refine z_ia CX (j := 147) dX6_readBoat_30 mo_3 rfl (by omega) (by decide) ?_
      refine z_bipush CX (v := 10) dX6_readBoat_31 (by decide) ?_
      rw [show A 2 147 = nI (bN (A 2)) from hO.1.2.1]
      refine z_icmp_ge CX 40 dX6_readBoat_33 (by decide) (fun q9 => absurd q9 (nI_ge (b := 10) hn (by omega))) (fun _ => ?_)
      refine z_iconst CX (v := 1) dX6_readBoat_36 (by decide) ?_
      refine z_goto CX 41 dX6_readBoat_37 (by decide) ?_
      refine z_callV1 CX dX6_readBoat_41 cv_X6_154 (c_goes (cn := true)) mo_0 rfl rfl (Nat.le_of_ble_eq_true rfl) ⟨Nat.le_of_ble_eq_true rfl, Nat.le_of_ble_eq_true rfl⟩ ⟨Nat.le_refl _, Nat.le_refl _⟩ ?_
      refine z_if_eq CX 60 dX6_readBoat_44 (by decide) (fun _ => ?_) (fun q9 => absurd (by rw [hg]; rfl) q9)
      refine z_iconst CX (v := 0) dX6_readBoat_60 (by decide) ?_
      exact z_iret CX dX6_readBoat_61 rfl rfl (by unfold exR; rw [hg]; show modH w hs k _ A = modH w hs k _ (upA A 2 (A 2)); rw [upA_id]; rfl) (Or.inl rfl)
    | true =>
      apply Exists.intro
      refine Cn.of (d := mX6_readBoat) (by decide +kernel) (Nat.le_of_ble_eq_true rfl) ?_
      intro p e R s m args below meth c CX
      replace CX : Ctx p s m args meth c R w RX6 "readBoat" cX6_readBoat 4 (some .int) 2 48 0 0 := CX
      show ZW p l e R s m args below meth c w 4 _ _ 0 0 (MQ below (Qn w _ _ _) args s 0 0 (wA w)) 0 [(0, .ref (wB w + k))] []
      refine z_aload_n CX 0 dX6_readBoat_0 rfl rfl ?_
      refine z_iconst CX (v := 1) dX6_readBoat_1 (by decide) ?_
      refine z_bipush CX (v := 9) dX6_readBoat_2 (by decide) ?_
      refine z_callV1 CX dX6_readBoat_4 cv_X6_141 (c_digit (q := (y, true)) hu hl (Nat.lt_trans (show y < 200 by omega) (by omega)) _ _) mo_0 rfl rfl (Nat.le_of_ble_eq_true rfl) ⟨Nat.le_of_ble_eq_true rfl, Nat.le_of_ble_eq_true rfl⟩ ⟨Nat.le_refl _, Nat.le_refl _⟩ ?_
      rw [e1, w1]
      refine z_istore_n CX 1 dX6_readBoat_7 rfl (by decide) ?_
      refine z_aload_n CX 0 dX6_readBoat_8 rfl rfl ?_
      refine z_iconst CX (v := 0) dX6_readBoat_9 (by decide) ?_
      refine z_iconst CX (v := 3) dX6_readBoat_10 (by decide) ?_
      refine z_callV1 CX dX6_readBoat_11 cv_X6_141 (c_digit (q := q1) hu hl (Nat.lt_trans hb1 (by omega)) _ _) mo_0 rfl rfl (Nat.le_of_ble_eq_true rfl) ⟨Nat.le_of_ble_eq_true rfl, Nat.le_of_ble_eq_true rfl⟩ ⟨Nat.le_refl _, Nat.le_refl _⟩ ?_
      rw [e2, w2]
      refine z_istore_n CX 2 dX6_readBoat_14 rfl (by decide) ?_
      refine z_aload_n CX 0 dX6_readBoat_15 rfl rfl ?_
      refine z_iconst CX (v := 0) dX6_readBoat_16 (by decide) ?_
      refine z_iconst CX (v := 3) dX6_readBoat_17 (by decide) ?_
      refine z_callV1 CX dX6_readBoat_18 cv_X6_141 (c_digit (q := q2) hu hl (Nat.lt_trans hb2 (by omega)) _ _) mo_0 rfl rfl (Nat.le_of_ble_eq_true rfl) ⟨Nat.le_of_ble_eq_true rfl, Nat.le_of_ble_eq_true rfl⟩ ⟨Nat.le_refl _, Nat.le_refl _⟩ ?_
      rw [e3, w3]
      refine z_istore_n CX 3 dX6_readBoat_21 rfl (by decide) ?_
      refine z_aload_n CX 0 dX6_readBoat_22 rfl rfl ?_
      refine z_aload_n CX 0 dX6_readBoat_23 rfl rfl ?_
      refine z_get CX dX6_readBoat_24 fg_X6_16 mo_0 rfl ?_
      refine z_sipush CX (v := 147) dX6_readBoat_27 (by decide) ?_
      refine z_ia CX (j := 147) dX6_readBoat_30 mo_3 rfl (by omega) (by decide) ?_
      refine z_bipush CX (v := 10) dX6_readBoat_31 (by decide) ?_
      rw [show A 2 147 = nI (bN (A 2)) from hO.1.2.1]
      refine z_icmp_ge CX 40 dX6_readBoat_33 (by decide) (fun q9 => absurd q9 (nI_ge (b := 10) hn (by omega))) (fun _ => ?_)
      refine z_iconst CX (v := 1) dX6_readBoat_36 (by decide) ?_
      refine z_goto CX 41 dX6_readBoat_37 (by decide) ?_
      refine z_callV1 CX dX6_readBoat_41 cv_X6_154 (c_goes (cn := true)) mo_0 rfl rfl (Nat.le_of_ble_eq_true rfl) ⟨Nat.le_of_ble_eq_true rfl, Nat.le_of_ble_eq_true rfl⟩ ⟨Nat.le_refl _, Nat.le_refl _⟩ ?_
      refine z_if_eq CX 60 dX6_readBoat_44 (by decide) (fun q9 => absurd q9 (by rw [hg]; decide)) (fun _ => ?_)
      refine z_aload_n CX 0 dX6_readBoat_47 rfl rfl ?_
      refine z_get CX dX6_readBoat_48 fg_X6_16 mo_0 rfl ?_
      refine z_iload_n CX 1 dX6_readBoat_51 rfl rfl ?_
      refine z_iload_n CX 2 dX6_readBoat_52 rfl rfl ?_
      refine z_iload_n CX 3 dX6_readBoat_53 rfl rfl ?_
      refine z_callS1 CX dX6_readBoat_54 cs_X6_162 (Cn.row mq_2 mr_2 (a := k + 3) (c_addB hO.1.2.1 (by omega) v1 v2 v3)) rfl rfl (Nat.le_of_ble_eq_true rfl) ⟨Nat.le_of_ble_eq_true rfl, Nat.le_of_ble_eq_true rfl⟩ ⟨Nat.le_refl _, Nat.le_refl _⟩ ?_
      refine z_goto CX 61 dX6_readBoat_57 (by decide) ?_
      exact z_iret CX dX6_readBoat_61 rfl rfl (by rw [hp]; unfold exR; rw [hg]; rfl) (Or.inl rfl)
  · have hp : pfB (A 2) v1 v2 v3 = (false, A 2) := by
      unfold pfB; rw [if_neg (fun z => hn z.2.2)]
    cases hg : q3.2 with
    | false =>
      apply Exists.intro
      refine Cn.of (d := mX6_readBoat) (by decide +kernel) (Nat.le_of_ble_eq_true rfl) ?_
      intro p e R s m args below meth c CX
      replace CX : Ctx p s m args meth c R w RX6 "readBoat" cX6_readBoat 4 (some .int) 2 48 0 0 := CX
      show ZW p l e R s m args below meth c w 4 _ _ 0 0 (MQ below (Qn w _ _ _) args s 0 0 (wA w)) 0 [(0, .ref (wB w + k))] []
      refine z_aload_n CX 0 dX6_readBoat_0 rfl rfl ?_
      refine z_iconst CX (v := 1) dX6_readBoat_1 (by decide) ?_
      refine z_bipush CX (v := 9) dX6_readBoat_2 (by decide) ?_
      refine z_callV1 CX dX6_readBoat_4 cv_X6_141 (c_digit (q := (y, true)) hu hl (Nat.lt_trans (show y < 200 by omega) (by omega)) _ _) mo_0 rfl rfl (Nat.le_of_ble_eq_true rfl) ⟨Nat.le_of_ble_eq_true rfl, Nat.le_of_ble_eq_true rfl⟩ ⟨Nat.le_refl _, Nat.le_refl _⟩ ?_
      rw [e1, w1]
      refine z_istore_n CX 1 dX6_readBoat_7 rfl (by decide) ?_
      refine z_aload_n CX 0 dX6_readBoat_8 rfl rfl ?_
      refine z_iconst CX (v := 0) dX6_readBoat_9 (by decide) ?_
      refine z_iconst CX (v := 3) dX6_readBoat_10 (by decide) ?_
      refine z_callV1 CX dX6_readBoat_11 cv_X6_141 (c_digit (q := q1) hu hl (Nat.lt_trans hb1 (by omega)) _ _) mo_0 rfl rfl (Nat.le_of_ble_eq_true rfl) ⟨Nat.le_of_ble_eq_true rfl, Nat.le_of_ble_eq_true rfl⟩ ⟨Nat.le_refl _, Nat.le_refl _⟩ ?_
      rw [e2, w2]
      refine z_istore_n CX 2 dX6_readBoat_14 rfl (by decide) ?_
      refine z_aload_n CX 0 dX6_readBoat_15 rfl rfl ?_
      refine z_iconst CX (v := 0) dX6_readBoat_16 (by decide) ?_
      refine z_iconst CX (v := 3) dX6_readBoat_17 (by decide) ?_
      refine z_callV1 CX dX6_readBoat_18 cv_X6_141 (c_digit (q := q2) hu hl (Nat.lt_trans hb2 (by omega)) _ _) mo_0 rfl rfl (Nat.le_of_ble_eq_true rfl) ⟨Nat.le_of_ble_eq_true rfl, Nat.le_of_ble_eq_true rfl⟩ ⟨Nat.le_refl _, Nat.le_refl _⟩ ?_
      rw [e3, w3]
      refine z_istore_n CX 3 dX6_readBoat_21 rfl (by decide) ?_
      refine z_aload_n CX 0 dX6_readBoat_22 rfl rfl ?_
      refine z_aload_n CX 0 dX6_readBoat_23 rfl rfl ?_
      refine z_get CX dX6_readBoat_24 fg_X6_16 mo_0 rfl ?_
      refine z_sipush CX (v := 147) dX6_readBoat_27 (by decide) ?_
      refine z_ia CX (j := 147) dX6_readBoat_30 mo_3 rfl (by omega) (by decide) ?_
      refine z_bipush CX (v := 10) dX6_readBoat_31 (by decide) ?_
      rw [show A 2 147 = nI (bN (A 2)) from hO.1.2.1]
      refine z_icmp_ge CX 40 dX6_readBoat_33 (by decide) (fun _ => ?_) (fun q9 => absurd (nI_le (a := 10) (by omega) (by omega)) q9)
      refine z_iconst CX (v := 0) dX6_readBoat_40 (by decide) ?_
      refine z_callV1 CX dX6_readBoat_41 cv_X6_154 (c_goes (cn := false)) mo_0 rfl rfl (Nat.le_of_ble_eq_true rfl) ⟨Nat.le_of_ble_eq_true rfl, Nat.le_of_ble_eq_true rfl⟩ ⟨Nat.le_refl _, Nat.le_refl _⟩ ?_
      refine z_if_eq CX 60 dX6_readBoat_44 (by decide) (fun _ => ?_) (fun q9 => absurd (by rw [hg]; rfl) q9)
      refine z_iconst CX (v := 0) dX6_readBoat_60 (by decide) ?_
      exact z_iret CX dX6_readBoat_61 rfl rfl (by unfold exR; rw [hg]; show modH w hs k _ A = modH w hs k _ (upA A 2 (A 2)); rw [upA_id]; rfl) (Or.inl rfl)
    | true =>
      apply Exists.intro
      refine Cn.of (d := mX6_readBoat) (by decide +kernel) (Nat.le_of_ble_eq_true rfl) ?_
      intro p e R s m args below meth c CX
      replace CX : Ctx p s m args meth c R w RX6 "readBoat" cX6_readBoat 4 (some .int) 2 48 0 0 := CX
      show ZW p l e R s m args below meth c w 4 _ _ 0 0 (MQ below (Qn w _ _ _) args s 0 0 (wA w)) 0 [(0, .ref (wB w + k))] []
      refine z_aload_n CX 0 dX6_readBoat_0 rfl rfl ?_
      refine z_iconst CX (v := 1) dX6_readBoat_1 (by decide) ?_
      refine z_bipush CX (v := 9) dX6_readBoat_2 (by decide) ?_
      refine z_callV1 CX dX6_readBoat_4 cv_X6_141 (c_digit (q := (y, true)) hu hl (Nat.lt_trans (show y < 200 by omega) (by omega)) _ _) mo_0 rfl rfl (Nat.le_of_ble_eq_true rfl) ⟨Nat.le_of_ble_eq_true rfl, Nat.le_of_ble_eq_true rfl⟩ ⟨Nat.le_refl _, Nat.le_refl _⟩ ?_
      rw [e1, w1]
      refine z_istore_n CX 1 dX6_readBoat_7 rfl (by decide) ?_
      refine z_aload_n CX 0 dX6_readBoat_8 rfl rfl ?_
      refine z_iconst CX (v := 0) dX6_readBoat_9 (by decide) ?_
      refine z_iconst CX (v := 3) dX6_readBoat_10 (by decide) ?_
      refine z_callV1 CX dX6_readBoat_11 cv_X6_141 (c_digit (q := q1) hu hl (Nat.lt_trans hb1 (by omega)) _ _) mo_0 rfl rfl (Nat.le_of_ble_eq_true rfl) ⟨Nat.le_of_ble_eq_true rfl, Nat.le_of_ble_eq_true rfl⟩ ⟨Nat.le_refl _, Nat.le_refl _⟩ ?_
      rw [e2, w2]
      refine z_istore_n CX 2 dX6_readBoat_14 rfl (by decide) ?_
      refine z_aload_n CX 0 dX6_readBoat_15 rfl rfl ?_
      refine z_iconst CX (v := 0) dX6_readBoat_16 (by decide) ?_
      refine z_iconst CX (v := 3) dX6_readBoat_17 (by decide) ?_
      refine z_callV1 CX dX6_readBoat_18 cv_X6_141 (c_digit (q := q2) hu hl (Nat.lt_trans hb2 (by omega)) _ _) mo_0 rfl rfl (Nat.le_of_ble_eq_true rfl) ⟨Nat.le_of_ble_eq_true rfl, Nat.le_of_ble_eq_true rfl⟩ ⟨Nat.le_refl _, Nat.le_refl _⟩ ?_
      rw [e3, w3]
      refine z_istore_n CX 3 dX6_readBoat_21 rfl (by decide) ?_
      refine z_aload_n CX 0 dX6_readBoat_22 rfl rfl ?_
      refine z_aload_n CX 0 dX6_readBoat_23 rfl rfl ?_
      refine z_get CX dX6_readBoat_24 fg_X6_16 mo_0 rfl ?_
      refine z_sipush CX (v := 147) dX6_readBoat_27 (by decide) ?_
      refine z_ia CX (j := 147) dX6_readBoat_30 mo_3 rfl (by omega) (by decide) ?_
      refine z_bipush CX (v := 10) dX6_readBoat_31 (by decide) ?_
      rw [show A 2 147 = nI (bN (A 2)) from hO.1.2.1]
      refine z_icmp_ge CX 40 dX6_readBoat_33 (by decide) (fun _ => ?_) (fun q9 => absurd (nI_le (a := 10) (by omega) (by omega)) q9)
      refine z_iconst CX (v := 0) dX6_readBoat_40 (by decide) ?_
      refine z_callV1 CX dX6_readBoat_41 cv_X6_154 (c_goes (cn := false)) mo_0 rfl rfl (Nat.le_of_ble_eq_true rfl) ⟨Nat.le_of_ble_eq_true rfl, Nat.le_of_ble_eq_true rfl⟩ ⟨Nat.le_refl _, Nat.le_refl _⟩ ?_
      refine z_if_eq CX 60 dX6_readBoat_44 (by decide) (fun _ => ?_) (fun q9 => absurd (by rw [hg]; rfl) q9)
      refine z_iconst CX (v := 0) dX6_readBoat_60 (by decide) ?_
      exact z_iret CX dX6_readBoat_61 rfl rfl (by rw [hp]; unfold exR; rw [hg]; show modH w hs k _ A = modH w hs k _ (upA A 2 (A 2)); rw [upA_id]; rfl) (Or.inl rfl)
set_option maxHeartbeats 4000000 in
set_option maxRecDepth 100000 in
theorem c_rdL {l : Launch} {w : Wt} {hs : Hs} {n : Option Nat} {k : Nat} {u : Nat → Int32} {A : Nat → Nat → Int32} {y len : Nat} {x5 : Int32} (hu : u 2 = nI len) (hl : len ≤ 120) (hy : y < 200) (hO : OKr (A 2))  {q1 : Nat × Bool} {v1 : Int32} (e1 : dgS (A 6) len 0 9 (y, true) = q1) (w1 : dgV (A 6) len 0 9 (y, true) = v1) {q2 : Nat × Bool} {v2 : Int32} (e2 : dgS (A 6) len 0 5 q1 = q2) (w2 : dgV (A 6) len 0 5 q1 = v2) : ∃ v : Int32, Cn l w mX6_readLaunch 0 0 [.ref (wB w + k)] (modH w hs k (sT5 u y true x5) A) n (modH w hs k (sT5 u q2.1 q2.2 (exR q2.2 (pfL (A 2) v1 v2) (A 2) x5).2) (upA A 2 (exR q2.2 (pfL (A 2) v1 v2) (A 2) x5).1)) n (some (.int v)) := by
  have hb1 : q1.1 < 201 := by rw [← e1]; exact Nat.lt_of_le_of_lt dgS_le.2 (by show y + 1 < 201; omega)
  have hb2 : q2.1 < 202 := by rw [← e2]; exact Nat.lt_of_le_of_lt dgS_le.2 (by omega)
  have h9 := hO.2.2
  have h6 := hO.1.1.2.1
  by_cases hb : 0 ≤ v1 ∧ v1 < nI (bN (A 2))
  · obtain ⟨i, i1, i2, i3⟩ := nI_box (by omega) hb
    subst i2
    by_cases hg9 : 0 ≤ v2 ∧ v2 < nI (gN (A 2))
    · obtain ⟨g, g1, g2, g3⟩ := nI_box (by omega) hg9
      subst g2
      by_cases hs9 : A 2 (24 + 10 * i + 3) = 0
      · have hp : pfL (A 2) (nI i) (nI g) = (true, lnF (A 2) (bN (A 2)) i (nI g)) := by
          unfold pfL; rw [i3, if_pos ⟨⟨hb, hg9⟩, hs9⟩]
        cases hg : q2.2 with
        | false =>
          apply Exists.intro
          refine Cn.of (d := mX6_readLaunch) (by decide +kernel) (Nat.le_of_ble_eq_true rfl) ?_
          intro p e R s m args below meth c CX
          replace CX : Ctx p s m args meth c R w RX6 "readLaunch" cX6_readLaunch 3 (some .int) 4 86 0 0 := CX
          show ZW p l e R s m args below meth c w 3 _ _ 0 0 (MQ below (Qn w _ _ _) args s 0 0 (wA w)) 0 [(0, .ref (wB w + k))] []
          refine z_aload_n CX 0 dX6_readLaunch_0 rfl rfl ?_
          refine z_iconst CX (v := 0) dX6_readLaunch_1 (by decide) ?_
          refine z_bipush CX (v := 9) dX6_readLaunch_2 (by decide) ?_
          refine z_callV1 CX dX6_readLaunch_4 cv_X6_141 (c_digit (q := (y, true)) hu hl (Nat.lt_trans (show y < 200 by omega) (by omega)) _ _) mo_0 rfl rfl (Nat.le_of_ble_eq_true rfl) ⟨Nat.le_of_ble_eq_true rfl, Nat.le_of_ble_eq_true rfl⟩ ⟨Nat.le_refl _, Nat.le_refl _⟩ ?_
          rw [e1, w1]
          refine z_istore_n CX 1 dX6_readLaunch_7 rfl (by decide) ?_
          refine z_aload_n CX 0 dX6_readLaunch_8 rfl rfl ?_
          refine z_iconst CX (v := 0) dX6_readLaunch_9 (by decide) ?_
          refine z_iconst CX (v := 5) dX6_readLaunch_10 (by decide) ?_
          refine z_callV1 CX dX6_readLaunch_11 cv_X6_141 (c_digit (q := q1) hu hl (Nat.lt_trans hb1 (by omega)) _ _) mo_0 rfl rfl (Nat.le_of_ble_eq_true rfl) ⟨Nat.le_of_ble_eq_true rfl, Nat.le_of_ble_eq_true rfl⟩ ⟨Nat.le_refl _, Nat.le_refl _⟩ ?_
          rw [e2, w2]
          refine z_istore_n CX 2 dX6_readLaunch_14 rfl (by decide) ?_
          refine z_aload_n CX 0 dX6_readLaunch_15 rfl rfl ?_
          refine z_aload_n CX 0 dX6_readLaunch_16 rfl rfl ?_
          refine z_get CX dX6_readLaunch_17 fg_X6_16 mo_0 rfl ?_
          refine z_iload_n CX 1 dX6_readLaunch_20 rfl rfl ?_
          refine z_callS1 CX dX6_readLaunch_21 cs_X6_166 (Cn.row mq_2 mq_2 (a := k + 3) (c_isB hO.1.2.1 (by have := hO.2.2; omega) _)) rfl rfl (Nat.le_of_ble_eq_true rfl) ⟨Nat.le_of_ble_eq_true rfl, Nat.le_of_ble_eq_true rfl⟩ ⟨Nat.le_refl _, Nat.le_refl _⟩ ?_
          refine z_if_eq CX 53 dX6_readLaunch_24 (by decide) (fun q9 => absurd q9 (by rw [bI_1 hb]; decide)) (fun _ => ?_)
          refine z_aload_n CX 0 dX6_readLaunch_27 rfl rfl ?_
          refine z_get CX dX6_readLaunch_28 fg_X6_16 mo_0 rfl ?_
          refine z_iload_n CX 2 dX6_readLaunch_31 rfl rfl ?_
          refine z_callS1 CX dX6_readLaunch_32 cs_X6_46 (Cn.row mq_2 mq_2 (a := k + 3) (c_isG hO.1.1.1 (by have := hO.1.1.2.1; omega) _)) rfl rfl (Nat.le_of_ble_eq_true rfl) ⟨Nat.le_of_ble_eq_true rfl, Nat.le_of_ble_eq_true rfl⟩ ⟨Nat.le_refl _, Nat.le_refl _⟩ ?_
          refine z_if_eq CX 53 dX6_readLaunch_35 (by decide) (fun q9 => absurd q9 (by rw [bI_1 hg9]; decide)) (fun _ => ?_)
          refine z_aload_n CX 0 dX6_readLaunch_38 rfl rfl ?_
          refine z_get CX dX6_readLaunch_39 fg_X6_16 mo_0 rfl ?_
          refine z_iload_n CX 1 dX6_readLaunch_42 rfl rfl ?_
          refine z_callS1 CX dX6_readLaunch_43 cs_X6_64 (Cn.row mq_2 mq_2 (a := k + 3) (c_state (b := i) (by omega))) rfl rfl (Nat.le_of_ble_eq_true rfl) ⟨Nat.le_of_ble_eq_true rfl, Nat.le_of_ble_eq_true rfl⟩ ⟨Nat.le_refl _, Nat.le_refl _⟩ ?_
          refine z_if_ne CX 53 dX6_readLaunch_46 (by decide) (fun q9 => absurd q9 (fun z => z hs9)) (fun _ => ?_)
          refine z_iconst CX (v := 1) dX6_readLaunch_49 (by decide) ?_
          refine z_goto CX 54 dX6_readLaunch_50 (by decide) ?_
          refine z_callV1 CX dX6_readLaunch_54 cv_X6_154 (c_goes (cn := true)) mo_0 rfl rfl (Nat.le_of_ble_eq_true rfl) ⟨Nat.le_of_ble_eq_true rfl, Nat.le_of_ble_eq_true rfl⟩ ⟨Nat.le_refl _, Nat.le_refl _⟩ ?_
          refine z_if_eq CX 72 dX6_readLaunch_57 (by decide) (fun _ => ?_) (fun q9 => absurd (by rw [hg]; rfl) q9)
          refine z_iconst CX (v := 0) dX6_readLaunch_72 (by decide) ?_
          exact z_iret CX dX6_readLaunch_73 rfl rfl (by unfold exR; rw [hg]; show modH w hs k _ A = modH w hs k _ (upA A 2 (A 2)); rw [upA_id]; rfl) (Or.inl rfl)
        | true =>
          apply Exists.intro
          refine Cn.of (d := mX6_readLaunch) (by decide +kernel) (Nat.le_of_ble_eq_true rfl) ?_
          intro p e R s m args below meth c CX
          replace CX : Ctx p s m args meth c R w RX6 "readLaunch" cX6_readLaunch 3 (some .int) 4 86 0 0 := CX
          show ZW p l e R s m args below meth c w 3 _ _ 0 0 (MQ below (Qn w _ _ _) args s 0 0 (wA w)) 0 [(0, .ref (wB w + k))] []
          refine z_aload_n CX 0 dX6_readLaunch_0 rfl rfl ?_
          refine z_iconst CX (v := 0) dX6_readLaunch_1 (by decide) ?_
          refine z_bipush CX (v := 9) dX6_readLaunch_2 (by decide) ?_
          refine z_callV1 CX dX6_readLaunch_4 cv_X6_141 (c_digit (q := (y, true)) hu hl (Nat.lt_trans (show y < 200 by omega) (by omega)) _ _) mo_0 rfl rfl (Nat.le_of_ble_eq_true rfl) ⟨Nat.le_of_ble_eq_true rfl, Nat.le_of_ble_eq_true rfl⟩ ⟨Nat.le_refl _, Nat.le_refl _⟩ ?_
          rw [e1, w1]
          refine z_istore_n CX 1 dX6_readLaunch_7 rfl (by decide) ?_
          refine z_aload_n CX 0 dX6_readLaunch_8 rfl rfl ?_
          refine z_iconst CX (v := 0) dX6_readLaunch_9 (by decide) ?_
          refine z_iconst CX (v := 5) dX6_readLaunch_10 (by decide) ?_
          refine z_callV1 CX dX6_readLaunch_11 cv_X6_141 (c_digit (q := q1) hu hl (Nat.lt_trans hb1 (by omega)) _ _) mo_0 rfl rfl (Nat.le_of_ble_eq_true rfl) ⟨Nat.le_of_ble_eq_true rfl, Nat.le_of_ble_eq_true rfl⟩ ⟨Nat.le_refl _, Nat.le_refl _⟩ ?_
          rw [e2, w2]
          refine z_istore_n CX 2 dX6_readLaunch_14 rfl (by decide) ?_
          refine z_aload_n CX 0 dX6_readLaunch_15 rfl rfl ?_
          refine z_aload_n CX 0 dX6_readLaunch_16 rfl rfl ?_
          refine z_get CX dX6_readLaunch_17 fg_X6_16 mo_0 rfl ?_
          refine z_iload_n CX 1 dX6_readLaunch_20 rfl rfl ?_
          refine z_callS1 CX dX6_readLaunch_21 cs_X6_166 (Cn.row mq_2 mq_2 (a := k + 3) (c_isB hO.1.2.1 (by have := hO.2.2; omega) _)) rfl rfl (Nat.le_of_ble_eq_true rfl) ⟨Nat.le_of_ble_eq_true rfl, Nat.le_of_ble_eq_true rfl⟩ ⟨Nat.le_refl _, Nat.le_refl _⟩ ?_
          refine z_if_eq CX 53 dX6_readLaunch_24 (by decide) (fun q9 => absurd q9 (by rw [bI_1 hb]; decide)) (fun _ => ?_)
          refine z_aload_n CX 0 dX6_readLaunch_27 rfl rfl ?_
          refine z_get CX dX6_readLaunch_28 fg_X6_16 mo_0 rfl ?_
          refine z_iload_n CX 2 dX6_readLaunch_31 rfl rfl ?_
          refine z_callS1 CX dX6_readLaunch_32 cs_X6_46 (Cn.row mq_2 mq_2 (a := k + 3) (c_isG hO.1.1.1 (by have := hO.1.1.2.1; omega) _)) rfl rfl (Nat.le_of_ble_eq_true rfl) ⟨Nat.le_of_ble_eq_true rfl, Nat.le_of_ble_eq_true rfl⟩ ⟨Nat.le_refl _, Nat.le_refl _⟩ ?_
          refine z_if_eq CX 53 dX6_readLaunch_35 (by decide) (fun q9 => absurd q9 (by rw [bI_1 hg9]; decide)) (fun _ => ?_)
          refine z_aload_n CX 0 dX6_readLaunch_38 rfl rfl ?_
          refine z_get CX dX6_readLaunch_39 fg_X6_16 mo_0 rfl ?_
          refine z_iload_n CX 1 dX6_readLaunch_42 rfl rfl ?_
          refine z_callS1 CX dX6_readLaunch_43 cs_X6_64 (Cn.row mq_2 mq_2 (a := k + 3) (c_state (b := i) (by omega))) rfl rfl (Nat.le_of_ble_eq_true rfl) ⟨Nat.le_of_ble_eq_true rfl, Nat.le_of_ble_eq_true rfl⟩ ⟨Nat.le_refl _, Nat.le_refl _⟩ ?_
          refine z_if_ne CX 53 dX6_readLaunch_46 (by decide) (fun q9 => absurd q9 (fun z => z hs9)) (fun _ => ?_)
          refine z_iconst CX (v := 1) dX6_readLaunch_49 (by decide) ?_
          refine z_goto CX 54 dX6_readLaunch_50 (by decide) ?_
          refine z_callV1 CX dX6_readLaunch_54 cv_X6_154 (c_goes (cn := true)) mo_0 rfl rfl (Nat.le_of_ble_eq_true rfl) ⟨Nat.le_of_ble_eq_true rfl, Nat.le_of_ble_eq_true rfl⟩ ⟨Nat.le_refl _, Nat.le_refl _⟩ ?_
          refine z_if_eq CX 72 dX6_readLaunch_57 (by decide) (fun q9 => absurd q9 (by rw [hg]; decide)) (fun _ => ?_)
          refine z_aload_n CX 0 dX6_readLaunch_60 rfl rfl ?_
          refine z_get CX dX6_readLaunch_61 fg_X6_16 mo_0 rfl ?_
          refine z_iload_n CX 1 dX6_readLaunch_64 rfl rfl ?_
          refine z_iload_n CX 2 dX6_readLaunch_65 rfl rfl ?_
          refine z_callS1 CX dX6_readLaunch_66 cs_X6_169 (Cn.row mq_2 mr_2 (a := k + 3) (c_goL hO.1.1 hO.1.2.1 (by omega) (by omega) g1)) rfl rfl (Nat.le_of_ble_eq_true rfl) ⟨Nat.le_of_ble_eq_true rfl, Nat.le_of_ble_eq_true rfl⟩ ⟨Nat.le_refl _, Nat.le_refl _⟩ ?_
          refine z_goto CX 73 dX6_readLaunch_69 (by decide) ?_
          exact z_iret CX dX6_readLaunch_73 rfl rfl (by rw [hp]; unfold exR; rw [hg]; rfl) (Or.inl rfl)
      · have hp : pfL (A 2) (nI i) (nI g) = (false, A 2) := by
          unfold pfL; rw [i3, if_neg (fun z => hs9 z.2)]
        cases hg : q2.2 with
        | false =>
          apply Exists.intro
          refine Cn.of (d := mX6_readLaunch) (by decide +kernel) (Nat.le_of_ble_eq_true rfl) ?_
          intro p e R s m args below meth c CX
          replace CX : Ctx p s m args meth c R w RX6 "readLaunch" cX6_readLaunch 3 (some .int) 4 86 0 0 := CX
          show ZW p l e R s m args below meth c w 3 _ _ 0 0 (MQ below (Qn w _ _ _) args s 0 0 (wA w)) 0 [(0, .ref (wB w + k))] []
          refine z_aload_n CX 0 dX6_readLaunch_0 rfl rfl ?_
          refine z_iconst CX (v := 0) dX6_readLaunch_1 (by decide) ?_
          refine z_bipush CX (v := 9) dX6_readLaunch_2 (by decide) ?_
          refine z_callV1 CX dX6_readLaunch_4 cv_X6_141 (c_digit (q := (y, true)) hu hl (Nat.lt_trans (show y < 200 by omega) (by omega)) _ _) mo_0 rfl rfl (Nat.le_of_ble_eq_true rfl) ⟨Nat.le_of_ble_eq_true rfl, Nat.le_of_ble_eq_true rfl⟩ ⟨Nat.le_refl _, Nat.le_refl _⟩ ?_
          rw [e1, w1]
          refine z_istore_n CX 1 dX6_readLaunch_7 rfl (by decide) ?_
          refine z_aload_n CX 0 dX6_readLaunch_8 rfl rfl ?_
          refine z_iconst CX (v := 0) dX6_readLaunch_9 (by decide) ?_
          refine z_iconst CX (v := 5) dX6_readLaunch_10 (by decide) ?_
          refine z_callV1 CX dX6_readLaunch_11 cv_X6_141 (c_digit (q := q1) hu hl (Nat.lt_trans hb1 (by omega)) _ _) mo_0 rfl rfl (Nat.le_of_ble_eq_true rfl) ⟨Nat.le_of_ble_eq_true rfl, Nat.le_of_ble_eq_true rfl⟩ ⟨Nat.le_refl _, Nat.le_refl _⟩ ?_
          rw [e2, w2]
          refine z_istore_n CX 2 dX6_readLaunch_14 rfl (by decide) ?_
          refine z_aload_n CX 0 dX6_readLaunch_15 rfl rfl ?_
          refine z_aload_n CX 0 dX6_readLaunch_16 rfl rfl ?_
          refine z_get CX dX6_readLaunch_17 fg_X6_16 mo_0 rfl ?_
          refine z_iload_n CX 1 dX6_readLaunch_20 rfl rfl ?_
          refine z_callS1 CX dX6_readLaunch_21 cs_X6_166 (Cn.row mq_2 mq_2 (a := k + 3) (c_isB hO.1.2.1 (by have := hO.2.2; omega) _)) rfl rfl (Nat.le_of_ble_eq_true rfl) ⟨Nat.le_of_ble_eq_true rfl, Nat.le_of_ble_eq_true rfl⟩ ⟨Nat.le_refl _, Nat.le_refl _⟩ ?_
          refine z_if_eq CX 53 dX6_readLaunch_24 (by decide) (fun q9 => absurd q9 (by rw [bI_1 hb]; decide)) (fun _ => ?_)
          refine z_aload_n CX 0 dX6_readLaunch_27 rfl rfl ?_
          refine z_get CX dX6_readLaunch_28 fg_X6_16 mo_0 rfl ?_
          refine z_iload_n CX 2 dX6_readLaunch_31 rfl rfl ?_
          refine z_callS1 CX dX6_readLaunch_32 cs_X6_46 (Cn.row mq_2 mq_2 (a := k + 3) (c_isG hO.1.1.1 (by have := hO.1.1.2.1; omega) _)) rfl rfl (Nat.le_of_ble_eq_true rfl) ⟨Nat.le_of_ble_eq_true rfl, Nat.le_of_ble_eq_true rfl⟩ ⟨Nat.le_refl _, Nat.le_refl _⟩ ?_
          refine z_if_eq CX 53 dX6_readLaunch_35 (by decide) (fun q9 => absurd q9 (by rw [bI_1 hg9]; decide)) (fun _ => ?_)
          refine z_aload_n CX 0 dX6_readLaunch_38 rfl rfl ?_
          refine z_get CX dX6_readLaunch_39 fg_X6_16 mo_0 rfl ?_
          refine z_iload_n CX 1 dX6_readLaunch_42 rfl rfl ?_
          refine z_callS1 CX dX6_readLaunch_43 cs_X6_64 (Cn.row mq_2 mq_2 (a := k + 3) (c_state (b := i) (by omega))) rfl rfl (Nat.le_of_ble_eq_true rfl) ⟨Nat.le_of_ble_eq_true rfl, Nat.le_of_ble_eq_true rfl⟩ ⟨Nat.le_refl _, Nat.le_refl _⟩ ?_
          refine z_if_ne CX 53 dX6_readLaunch_46 (by decide) (fun _ => ?_) (fun q9 => absurd q9 hs9)
          refine z_iconst CX (v := 0) dX6_readLaunch_53 (by decide) ?_
          refine z_callV1 CX dX6_readLaunch_54 cv_X6_154 (c_goes (cn := false)) mo_0 rfl rfl (Nat.le_of_ble_eq_true rfl) ⟨Nat.le_of_ble_eq_true rfl, Nat.le_of_ble_eq_true rfl⟩ ⟨Nat.le_refl _, Nat.le_refl _⟩ ?_
          refine z_if_eq CX 72 dX6_readLaunch_57 (by decide) (fun _ => ?_) (fun q9 => absurd (by rw [hg]; rfl) q9)
          refine z_iconst CX (v := 0) dX6_readLaunch_72 (by decide) ?_
          exact z_iret CX dX6_readLaunch_73 rfl rfl (by unfold exR; rw [hg]; show modH w hs k _ A = modH w hs k _ (upA A 2 (A 2)); rw [upA_id]; rfl) (Or.inl rfl)
        | true =>
          apply Exists.intro
          refine Cn.of (d := mX6_readLaunch) (by decide +kernel) (Nat.le_of_ble_eq_true rfl) ?_
          intro p e R s m args below meth c CX
          replace CX : Ctx p s m args meth c R w RX6 "readLaunch" cX6_readLaunch 3 (some .int) 4 86 0 0 := CX
          show ZW p l e R s m args below meth c w 3 _ _ 0 0 (MQ below (Qn w _ _ _) args s 0 0 (wA w)) 0 [(0, .ref (wB w + k))] []
          refine z_aload_n CX 0 dX6_readLaunch_0 rfl rfl ?_
          refine z_iconst CX (v := 0) dX6_readLaunch_1 (by decide) ?_
          refine z_bipush CX (v := 9) dX6_readLaunch_2 (by decide) ?_
          refine z_callV1 CX dX6_readLaunch_4 cv_X6_141 (c_digit (q := (y, true)) hu hl (Nat.lt_trans (show y < 200 by omega) (by omega)) _ _) mo_0 rfl rfl (Nat.le_of_ble_eq_true rfl) ⟨Nat.le_of_ble_eq_true rfl, Nat.le_of_ble_eq_true rfl⟩ ⟨Nat.le_refl _, Nat.le_refl _⟩ ?_
          rw [e1, w1]
          refine z_istore_n CX 1 dX6_readLaunch_7 rfl (by decide) ?_
          refine z_aload_n CX 0 dX6_readLaunch_8 rfl rfl ?_
          refine z_iconst CX (v := 0) dX6_readLaunch_9 (by decide) ?_
          refine z_iconst CX (v := 5) dX6_readLaunch_10 (by decide) ?_
          refine z_callV1 CX dX6_readLaunch_11 cv_X6_141 (c_digit (q := q1) hu hl (Nat.lt_trans hb1 (by omega)) _ _) mo_0 rfl rfl (Nat.le_of_ble_eq_true rfl) ⟨Nat.le_of_ble_eq_true rfl, Nat.le_of_ble_eq_true rfl⟩ ⟨Nat.le_refl _, Nat.le_refl _⟩ ?_
          rw [e2, w2]
          refine z_istore_n CX 2 dX6_readLaunch_14 rfl (by decide) ?_
          refine z_aload_n CX 0 dX6_readLaunch_15 rfl rfl ?_
          refine z_aload_n CX 0 dX6_readLaunch_16 rfl rfl ?_
          refine z_get CX dX6_readLaunch_17 fg_X6_16 mo_0 rfl ?_
          refine z_iload_n CX 1 dX6_readLaunch_20 rfl rfl ?_
          refine z_callS1 CX dX6_readLaunch_21 cs_X6_166 (Cn.row mq_2 mq_2 (a := k + 3) (c_isB hO.1.2.1 (by have := hO.2.2; omega) _)) rfl rfl (Nat.le_of_ble_eq_true rfl) ⟨Nat.le_of_ble_eq_true rfl, Nat.le_of_ble_eq_true rfl⟩ ⟨Nat.le_refl _, Nat.le_refl _⟩ ?_
          refine z_if_eq CX 53 dX6_readLaunch_24 (by decide) (fun q9 => absurd q9 (by rw [bI_1 hb]; decide)) (fun _ => ?_)
          refine z_aload_n CX 0 dX6_readLaunch_27 rfl rfl ?_
          refine z_get CX dX6_readLaunch_28 fg_X6_16 mo_0 rfl ?_
          refine z_iload_n CX 2 dX6_readLaunch_31 rfl rfl ?_
          refine z_callS1 CX dX6_readLaunch_32 cs_X6_46 (Cn.row mq_2 mq_2 (a := k + 3) (c_isG hO.1.1.1 (by have := hO.1.1.2.1; omega) _)) rfl rfl (Nat.le_of_ble_eq_true rfl) ⟨Nat.le_of_ble_eq_true rfl, Nat.le_of_ble_eq_true rfl⟩ ⟨Nat.le_refl _, Nat.le_refl _⟩ ?_
          refine z_if_eq CX 53 dX6_readLaunch_35 (by decide) (fun q9 => absurd q9 (by rw [bI_1 hg9]; decide)) (fun _ => ?_)
          refine z_aload_n CX 0 dX6_readLaunch_38 rfl rfl ?_
          refine z_get CX dX6_readLaunch_39 fg_X6_16 mo_0 rfl ?_
          refine z_iload_n CX 1 dX6_readLaunch_42 rfl rfl ?_
          refine z_callS1 CX dX6_readLaunch_43 cs_X6_64 (Cn.row mq_2 mq_2 (a := k + 3) (c_state (b := i) (by omega))) rfl rfl (Nat.le_of_ble_eq_true rfl) ⟨Nat.le_of_ble_eq_true rfl, Nat.le_of_ble_eq_true rfl⟩ ⟨Nat.le_refl _, Nat.le_refl _⟩ ?_
          refine z_if_ne CX 53 dX6_readLaunch_46 (by decide) (fun _ => ?_) (fun q9 => absurd q9 hs9)
          refine z_iconst CX (v := 0) dX6_readLaunch_53 (by decide) ?_
          refine z_callV1 CX dX6_readLaunch_54 cv_X6_154 (c_goes (cn := false)) mo_0 rfl rfl (Nat.le_of_ble_eq_true rfl) ⟨Nat.le_of_ble_eq_true rfl, Nat.le_of_ble_eq_true rfl⟩ ⟨Nat.le_refl _, Nat.le_refl _⟩ ?_
          refine z_if_eq CX 72 dX6_readLaunch_57 (by decide) (fun _ => ?_) (fun q9 => absurd (by rw [hg]; rfl) q9)
          refine z_iconst CX (v := 0) dX6_readLaunch_72 (by decide) ?_
          exact z_iret CX dX6_readLaunch_73 rfl rfl (by rw [hp]; unfold exR; rw [hg]; show modH w hs k _ A = modH w hs k _ (upA A 2 (A 2)); rw [upA_id]; rfl) (Or.inl rfl)
    · have hp : pfL (A 2) (nI i) v2 = (false, A 2) := by
        unfold pfL; rw [if_neg (fun z => hg9 z.1.2)]
      cases hg : q2.2 with
      | false =>
        apply Exists.intro
        refine Cn.of (d := mX6_readLaunch) (by decide +kernel) (Nat.le_of_ble_eq_true rfl) ?_
        intro p e R s m args below meth c CX
        replace CX : Ctx p s m args meth c R w RX6 "readLaunch" cX6_readLaunch 3 (some .int) 4 86 0 0 := CX
        show ZW p l e R s m args below meth c w 3 _ _ 0 0 (MQ below (Qn w _ _ _) args s 0 0 (wA w)) 0 [(0, .ref (wB w + k))] []
        refine z_aload_n CX 0 dX6_readLaunch_0 rfl rfl ?_
        refine z_iconst CX (v := 0) dX6_readLaunch_1 (by decide) ?_
        refine z_bipush CX (v := 9) dX6_readLaunch_2 (by decide) ?_
        refine z_callV1 CX dX6_readLaunch_4 cv_X6_141 (c_digit (q := (y, true)) hu hl (Nat.lt_trans (show y < 200 by omega) (by omega)) _ _) mo_0 rfl rfl (Nat.le_of_ble_eq_true rfl) ⟨Nat.le_of_ble_eq_true rfl, Nat.le_of_ble_eq_true rfl⟩ ⟨Nat.le_refl _, Nat.le_refl _⟩ ?_
        rw [e1, w1]
        refine z_istore_n CX 1 dX6_readLaunch_7 rfl (by decide) ?_
        refine z_aload_n CX 0 dX6_readLaunch_8 rfl rfl ?_
        refine z_iconst CX (v := 0) dX6_readLaunch_9 (by decide) ?_
        refine z_iconst CX (v := 5) dX6_readLaunch_10 (by decide) ?_
        refine z_callV1 CX dX6_readLaunch_11 cv_X6_141 (c_digit (q := q1) hu hl (Nat.lt_trans hb1 (by omega)) _ _) mo_0 rfl rfl (Nat.le_of_ble_eq_true rfl) ⟨Nat.le_of_ble_eq_true rfl, Nat.le_of_ble_eq_true rfl⟩ ⟨Nat.le_refl _, Nat.le_refl _⟩ ?_
        rw [e2, w2]
        refine z_istore_n CX 2 dX6_readLaunch_14 rfl (by decide) ?_
        refine z_aload_n CX 0 dX6_readLaunch_15 rfl rfl ?_
        refine z_aload_n CX 0 dX6_readLaunch_16 rfl rfl ?_
        refine z_get CX dX6_readLaunch_17 fg_X6_16 mo_0 rfl ?_
        refine z_iload_n CX 1 dX6_readLaunch_20 rfl rfl ?_
        refine z_callS1 CX dX6_readLaunch_21 cs_X6_166 (Cn.row mq_2 mq_2 (a := k + 3) (c_isB hO.1.2.1 (by have := hO.2.2; omega) _)) rfl rfl (Nat.le_of_ble_eq_true rfl) ⟨Nat.le_of_ble_eq_true rfl, Nat.le_of_ble_eq_true rfl⟩ ⟨Nat.le_refl _, Nat.le_refl _⟩ ?_
        refine z_if_eq CX 53 dX6_readLaunch_24 (by decide) (fun q9 => absurd q9 (by rw [bI_1 hb]; decide)) (fun _ => ?_)
        refine z_aload_n CX 0 dX6_readLaunch_27 rfl rfl ?_
        refine z_get CX dX6_readLaunch_28 fg_X6_16 mo_0 rfl ?_
        refine z_iload_n CX 2 dX6_readLaunch_31 rfl rfl ?_
        refine z_callS1 CX dX6_readLaunch_32 cs_X6_46 (Cn.row mq_2 mq_2 (a := k + 3) (c_isG hO.1.1.1 (by have := hO.1.1.2.1; omega) _)) rfl rfl (Nat.le_of_ble_eq_true rfl) ⟨Nat.le_of_ble_eq_true rfl, Nat.le_of_ble_eq_true rfl⟩ ⟨Nat.le_refl _, Nat.le_refl _⟩ ?_
        refine z_if_eq CX 53 dX6_readLaunch_35 (by decide) (fun _ => ?_) (fun q9 => absurd (bI_0 hg9) q9)
        refine z_iconst CX (v := 0) dX6_readLaunch_53 (by decide) ?_
        refine z_callV1 CX dX6_readLaunch_54 cv_X6_154 (c_goes (cn := false)) mo_0 rfl rfl (Nat.le_of_ble_eq_true rfl) ⟨Nat.le_of_ble_eq_true rfl, Nat.le_of_ble_eq_true rfl⟩ ⟨Nat.le_refl _, Nat.le_refl _⟩ ?_
        refine z_if_eq CX 72 dX6_readLaunch_57 (by decide) (fun _ => ?_) (fun q9 => absurd (by rw [hg]; rfl) q9)
        refine z_iconst CX (v := 0) dX6_readLaunch_72 (by decide) ?_
        exact z_iret CX dX6_readLaunch_73 rfl rfl (by unfold exR; rw [hg]; show modH w hs k _ A = modH w hs k _ (upA A 2 (A 2)); rw [upA_id]; rfl) (Or.inl rfl)
      | true =>
        apply Exists.intro
        refine Cn.of (d := mX6_readLaunch) (by decide +kernel) (Nat.le_of_ble_eq_true rfl) ?_
        intro p e R s m args below meth c CX
        replace CX : Ctx p s m args meth c R w RX6 "readLaunch" cX6_readLaunch 3 (some .int) 4 86 0 0 := CX
        show ZW p l e R s m args below meth c w 3 _ _ 0 0 (MQ below (Qn w _ _ _) args s 0 0 (wA w)) 0 [(0, .ref (wB w + k))] []
        refine z_aload_n CX 0 dX6_readLaunch_0 rfl rfl ?_
        refine z_iconst CX (v := 0) dX6_readLaunch_1 (by decide) ?_
        refine z_bipush CX (v := 9) dX6_readLaunch_2 (by decide) ?_
        refine z_callV1 CX dX6_readLaunch_4 cv_X6_141 (c_digit (q := (y, true)) hu hl (Nat.lt_trans (show y < 200 by omega) (by omega)) _ _) mo_0 rfl rfl (Nat.le_of_ble_eq_true rfl) ⟨Nat.le_of_ble_eq_true rfl, Nat.le_of_ble_eq_true rfl⟩ ⟨Nat.le_refl _, Nat.le_refl _⟩ ?_
        rw [e1, w1]
        refine z_istore_n CX 1 dX6_readLaunch_7 rfl (by decide) ?_
        refine z_aload_n CX 0 dX6_readLaunch_8 rfl rfl ?_
        refine z_iconst CX (v := 0) dX6_readLaunch_9 (by decide) ?_
        refine z_iconst CX (v := 5) dX6_readLaunch_10 (by decide) ?_
        refine z_callV1 CX dX6_readLaunch_11 cv_X6_141 (c_digit (q := q1) hu hl (Nat.lt_trans hb1 (by omega)) _ _) mo_0 rfl rfl (Nat.le_of_ble_eq_true rfl) ⟨Nat.le_of_ble_eq_true rfl, Nat.le_of_ble_eq_true rfl⟩ ⟨Nat.le_refl _, Nat.le_refl _⟩ ?_
        rw [e2, w2]
        refine z_istore_n CX 2 dX6_readLaunch_14 rfl (by decide) ?_
        refine z_aload_n CX 0 dX6_readLaunch_15 rfl rfl ?_
        refine z_aload_n CX 0 dX6_readLaunch_16 rfl rfl ?_
        refine z_get CX dX6_readLaunch_17 fg_X6_16 mo_0 rfl ?_
        refine z_iload_n CX 1 dX6_readLaunch_20 rfl rfl ?_
        refine z_callS1 CX dX6_readLaunch_21 cs_X6_166 (Cn.row mq_2 mq_2 (a := k + 3) (c_isB hO.1.2.1 (by have := hO.2.2; omega) _)) rfl rfl (Nat.le_of_ble_eq_true rfl) ⟨Nat.le_of_ble_eq_true rfl, Nat.le_of_ble_eq_true rfl⟩ ⟨Nat.le_refl _, Nat.le_refl _⟩ ?_
        refine z_if_eq CX 53 dX6_readLaunch_24 (by decide) (fun q9 => absurd q9 (by rw [bI_1 hb]; decide)) (fun _ => ?_)
        refine z_aload_n CX 0 dX6_readLaunch_27 rfl rfl ?_
        refine z_get CX dX6_readLaunch_28 fg_X6_16 mo_0 rfl ?_
        refine z_iload_n CX 2 dX6_readLaunch_31 rfl rfl ?_
        refine z_callS1 CX dX6_readLaunch_32 cs_X6_46 (Cn.row mq_2 mq_2 (a := k + 3) (c_isG hO.1.1.1 (by have := hO.1.1.2.1; omega) _)) rfl rfl (Nat.le_of_ble_eq_true rfl) ⟨Nat.le_of_ble_eq_true rfl, Nat.le_of_ble_eq_true rfl⟩ ⟨Nat.le_refl _, Nat.le_refl _⟩ ?_
        refine z_if_eq CX 53 dX6_readLaunch_35 (by decide) (fun _ => ?_) (fun q9 => absurd (bI_0 hg9) q9)
        refine z_iconst CX (v := 0) dX6_readLaunch_53 (by decide) ?_
        refine z_callV1 CX dX6_readLaunch_54 cv_X6_154 (c_goes (cn := false)) mo_0 rfl rfl (Nat.le_of_ble_eq_true rfl) ⟨Nat.le_of_ble_eq_true rfl, Nat.le_of_ble_eq_true rfl⟩ ⟨Nat.le_refl _, Nat.le_refl _⟩ ?_
        refine z_if_eq CX 72 dX6_readLaunch_57 (by decide) (fun _ => ?_) (fun q9 => absurd (by rw [hg]; rfl) q9)
        refine z_iconst CX (v := 0) dX6_readLaunch_72 (by decide) ?_
        exact z_iret CX dX6_readLaunch_73 rfl rfl (by rw [hp]; unfold exR; rw [hg]; show modH w hs k _ A = modH w hs k _ (upA A 2 (A 2)); rw [upA_id]; rfl) (Or.inl rfl)
  · have hp : pfL (A 2) v1 v2 = (false, A 2) := by
      unfold pfL; rw [if_neg (fun z => hb z.1.1)]
    cases hg : q2.2 with
    | false =>
      apply Exists.intro
      refine Cn.of (d := mX6_readLaunch) (by decide +kernel) (Nat.le_of_ble_eq_true rfl) ?_
      intro p e R s m args below meth c CX
      replace CX : Ctx p s m args meth c R w RX6 "readLaunch" cX6_readLaunch 3 (some .int) 4 86 0 0 := CX
      show ZW p l e R s m args below meth c w 3 _ _ 0 0 (MQ below (Qn w _ _ _) args s 0 0 (wA w)) 0 [(0, .ref (wB w + k))] []
      refine z_aload_n CX 0 dX6_readLaunch_0 rfl rfl ?_
      refine z_iconst CX (v := 0) dX6_readLaunch_1 (by decide) ?_
      refine z_bipush CX (v := 9) dX6_readLaunch_2 (by decide) ?_
      refine z_callV1 CX dX6_readLaunch_4 cv_X6_141 (c_digit (q := (y, true)) hu hl (Nat.lt_trans (show y < 200 by omega) (by omega)) _ _) mo_0 rfl rfl (Nat.le_of_ble_eq_true rfl) ⟨Nat.le_of_ble_eq_true rfl, Nat.le_of_ble_eq_true rfl⟩ ⟨Nat.le_refl _, Nat.le_refl _⟩ ?_
      rw [e1, w1]
      refine z_istore_n CX 1 dX6_readLaunch_7 rfl (by decide) ?_
      refine z_aload_n CX 0 dX6_readLaunch_8 rfl rfl ?_
      refine z_iconst CX (v := 0) dX6_readLaunch_9 (by decide) ?_
      refine z_iconst CX (v := 5) dX6_readLaunch_10 (by decide) ?_
      refine z_callV1 CX dX6_readLaunch_11 cv_X6_141 (c_digit (q := q1) hu hl (Nat.lt_trans hb1 (by omega)) _ _) mo_0 rfl rfl (Nat.le_of_ble_eq_true rfl) ⟨Nat.le_of_ble_eq_true rfl, Nat.le_of_ble_eq_true rfl⟩ ⟨Nat.le_refl _, Nat.le_refl _⟩ ?_
      rw [e2, w2]
      refine z_istore_n CX 2 dX6_readLaunch_14 rfl (by decide) ?_
      refine z_aload_n CX 0 dX6_readLaunch_15 rfl rfl ?_
      refine z_aload_n CX 0 dX6_readLaunch_16 rfl rfl ?_
      refine z_get CX dX6_readLaunch_17 fg_X6_16 mo_0 rfl ?_
      refine z_iload_n CX 1 dX6_readLaunch_20 rfl rfl ?_
      refine z_callS1 CX dX6_readLaunch_21 cs_X6_166 (Cn.row mq_2 mq_2 (a := k + 3) (c_isB hO.1.2.1 (by have := hO.2.2; omega) _)) rfl rfl (Nat.le_of_ble_eq_true rfl) ⟨Nat.le_of_ble_eq_true rfl, Nat.le_of_ble_eq_true rfl⟩ ⟨Nat.le_refl _, Nat.le_refl _⟩ ?_
      refine z_if_eq CX 53 dX6_readLaunch_24 (by decide) (fun _ => ?_) (fun q9 => absurd (bI_0 hb) q9)
      refine z_iconst CX (v := 0) dX6_readLaunch_53 (by decide) ?_
      refine z_callV1 CX dX6_readLaunch_54 cv_X6_154 (c_goes (cn := false)) mo_0 rfl rfl (Nat.le_of_ble_eq_true rfl) ⟨Nat.le_of_ble_eq_true rfl, Nat.le_of_ble_eq_true rfl⟩ ⟨Nat.le_refl _, Nat.le_refl _⟩ ?_
      refine z_if_eq CX 72 dX6_readLaunch_57 (by decide) (fun _ => ?_) (fun q9 => absurd (by rw [hg]; rfl) q9)
      refine z_iconst CX (v := 0) dX6_readLaunch_72 (by decide) ?_
      exact z_iret CX dX6_readLaunch_73 rfl rfl (by unfold exR; rw [hg]; show modH w hs k _ A = modH w hs k _ (upA A 2 (A 2)); rw [upA_id]; rfl) (Or.inl rfl)
    | true =>
      apply Exists.intro
      refine Cn.of (d := mX6_readLaunch) (by decide +kernel) (Nat.le_of_ble_eq_true rfl) ?_
      intro p e R s m args below meth c CX
      replace CX : Ctx p s m args meth c R w RX6 "readLaunch" cX6_readLaunch 3 (some .int) 4 86 0 0 := CX
      show ZW p l e R s m args below meth c w 3 _ _ 0 0 (MQ below (Qn w _ _ _) args s 0 0 (wA w)) 0 [(0, .ref (wB w + k))] []
      refine z_aload_n CX 0 dX6_readLaunch_0 rfl rfl ?_
      refine z_iconst CX (v := 0) dX6_readLaunch_1 (by decide) ?_
      refine z_bipush CX (v := 9) dX6_readLaunch_2 (by decide) ?_
      refine z_callV1 CX dX6_readLaunch_4 cv_X6_141 (c_digit (q := (y, true)) hu hl (Nat.lt_trans (show y < 200 by omega) (by omega)) _ _) mo_0 rfl rfl (Nat.le_of_ble_eq_true rfl) ⟨Nat.le_of_ble_eq_true rfl, Nat.le_of_ble_eq_true rfl⟩ ⟨Nat.le_refl _, Nat.le_refl _⟩ ?_
      rw [e1, w1]
      refine z_istore_n CX 1 dX6_readLaunch_7 rfl (by decide) ?_
      refine z_aload_n CX 0 dX6_readLaunch_8 rfl rfl ?_
      refine z_iconst CX (v := 0) dX6_readLaunch_9 (by decide) ?_
      refine z_iconst CX (v := 5) dX6_readLaunch_10 (by decide) ?_
      refine z_callV1 CX dX6_readLaunch_11 cv_X6_141 (c_digit (q := q1) hu hl (Nat.lt_trans hb1 (by omega)) _ _) mo_0 rfl rfl (Nat.le_of_ble_eq_true rfl) ⟨Nat.le_of_ble_eq_true rfl, Nat.le_of_ble_eq_true rfl⟩ ⟨Nat.le_refl _, Nat.le_refl _⟩ ?_
      rw [e2, w2]
      refine z_istore_n CX 2 dX6_readLaunch_14 rfl (by decide) ?_
      refine z_aload_n CX 0 dX6_readLaunch_15 rfl rfl ?_
      refine z_aload_n CX 0 dX6_readLaunch_16 rfl rfl ?_
      refine z_get CX dX6_readLaunch_17 fg_X6_16 mo_0 rfl ?_
      refine z_iload_n CX 1 dX6_readLaunch_20 rfl rfl ?_
      refine z_callS1 CX dX6_readLaunch_21 cs_X6_166 (Cn.row mq_2 mq_2 (a := k + 3) (c_isB hO.1.2.1 (by have := hO.2.2; omega) _)) rfl rfl (Nat.le_of_ble_eq_true rfl) ⟨Nat.le_of_ble_eq_true rfl, Nat.le_of_ble_eq_true rfl⟩ ⟨Nat.le_refl _, Nat.le_refl _⟩ ?_
      refine z_if_eq CX 53 dX6_readLaunch_24 (by decide) (fun _ => ?_) (fun q9 => absurd (bI_0 hb) q9)
      refine z_iconst CX (v := 0) dX6_readLaunch_53 (by decide) ?_
      refine z_callV1 CX dX6_readLaunch_54 cv_X6_154 (c_goes (cn := false)) mo_0 rfl rfl (Nat.le_of_ble_eq_true rfl) ⟨Nat.le_of_ble_eq_true rfl, Nat.le_of_ble_eq_true rfl⟩ ⟨Nat.le_refl _, Nat.le_refl _⟩ ?_
      refine z_if_eq CX 72 dX6_readLaunch_57 (by decide) (fun _ => ?_) (fun q9 => absurd (by rw [hg]; rfl) q9)
      refine z_iconst CX (v := 0) dX6_readLaunch_72 (by decide) ?_
      exact z_iret CX dX6_readLaunch_73 rfl rfl (by rw [hp]; unfold exR; rw [hg]; show modH w hs k _ A = modH w hs k _ (upA A 2 (A 2)); rw [upA_id]; rfl) (Or.inl rfl)
set_option maxHeartbeats 4000000 in
set_option maxRecDepth 100000 in
theorem c_rdC {l : Launch} {w : Wt} {hs : Hs} {n : Option Nat} {k : Nat} {u : Nat → Int32} {A : Nat → Nat → Int32} {y len : Nat} {x5 : Int32} (hu : u 2 = nI len) (hl : len ≤ 120) (hy : y < 200) (hO : OKr (A 2))  {q1 : Nat × Bool} {v1 : Int32} (e1 : dgS (A 6) len 0 3 (y, true) = q1) (w1 : dgV (A 6) len 0 3 (y, true) = v1) {q2 : Nat × Bool} {v2 : Int32} (e2 : dgS (A 6) len 0 9 q1 = q2) (w2 : dgV (A 6) len 0 9 q1 = v2) : ∃ v : Int32, Cn l w mX6_readClaim 0 0 [.ref (wB w + k)] (modH w hs k (sT5 u y true x5) A) n (modH w hs k (sT5 u q2.1 q2.2 (exR q2.2 (pfC (A 2) v1 v2) (A 2) x5).2) (upA A 2 (exR q2.2 (pfC (A 2) v1 v2) (A 2) x5).1)) n (some (.int v)) := by
  have hb1 : q1.1 < 201 := by rw [← e1]; exact Nat.lt_of_le_of_lt dgS_le.2 (by show y + 1 < 201; omega)
  have hb2 : q2.1 < 202 := by rw [← e2]; exact Nat.lt_of_le_of_lt dgS_le.2 (by omega)
  have h9 := hO.2.2
  obtain ⟨o, o0, o1, o2⟩ := dgV_n (t := A 6) (len := len) (a := 0) (b := 3) (q := (y, true)) (by omega) (by omega)
  have o3 : v1 = nI o := w1.symm.trans o2
  subst o3
  have r1 : 0 ≤ nI o ∧ nI o ≤ 3 := ⟨nI_pos' (by omega), nI_le (b := 3) o1 (by omega)⟩
  have o4 : (nI o).toNatClampNeg = o := nI_clamp (by omega)
  by_cases hb : 0 ≤ v2 ∧ v2 < nI (bN (A 2))
  · obtain ⟨i, i1, i2, i3⟩ := nI_box (by omega) hb
    subst i2
    by_cases hs9 : whyF (A 2) o i = 0
    · have hp : pfC (A 2) (nI o) (nI i) = (true, clmF (A 2) o i) := by
        unfold pfC; rw [i3, o4, if_pos ⟨⟨r1, hb⟩, hs9⟩]
      cases hg : q2.2 with
      | false =>
        apply Exists.intro
        refine Cn.of (d := mX6_readClaim) (by decide +kernel) (Nat.le_of_ble_eq_true rfl) ?_
        intro p e R s m args below meth c CX
        replace CX : Ctx p s m args meth c R w RX6 "readClaim" cX6_readClaim 3 (some .int) 4 89 0 0 := CX
        show ZW p l e R s m args below meth c w 3 _ _ 0 0 (MQ below (Qn w _ _ _) args s 0 0 (wA w)) 0 [(0, .ref (wB w + k))] []
        refine z_aload_n CX 0 dX6_readClaim_0 rfl rfl ?_
        refine z_iconst CX (v := 0) dX6_readClaim_1 (by decide) ?_
        refine z_iconst CX (v := 3) dX6_readClaim_2 (by decide) ?_
        refine z_callV1 CX dX6_readClaim_3 cv_X6_141 (c_digit (q := (y, true)) hu hl (Nat.lt_trans (show y < 200 by omega) (by omega)) _ _) mo_0 rfl rfl (Nat.le_of_ble_eq_true rfl) ⟨Nat.le_of_ble_eq_true rfl, Nat.le_of_ble_eq_true rfl⟩ ⟨Nat.le_refl _, Nat.le_refl _⟩ ?_
        rw [e1, w1]
        refine z_istore_n CX 1 dX6_readClaim_6 rfl (by decide) ?_
        refine z_aload_n CX 0 dX6_readClaim_7 rfl rfl ?_
        refine z_iconst CX (v := 0) dX6_readClaim_8 (by decide) ?_
        refine z_bipush CX (v := 9) dX6_readClaim_9 (by decide) ?_
        refine z_callV1 CX dX6_readClaim_11 cv_X6_141 (c_digit (q := q1) hu hl (Nat.lt_trans hb1 (by omega)) _ _) mo_0 rfl rfl (Nat.le_of_ble_eq_true rfl) ⟨Nat.le_of_ble_eq_true rfl, Nat.le_of_ble_eq_true rfl⟩ ⟨Nat.le_refl _, Nat.le_refl _⟩ ?_
        rw [e2, w2]
        refine z_istore_n CX 2 dX6_readClaim_14 rfl (by decide) ?_
        refine z_aload_n CX 0 dX6_readClaim_15 rfl rfl ?_
        refine z_aload_n CX 0 dX6_readClaim_16 rfl rfl ?_
        refine z_get CX dX6_readClaim_17 fg_X6_16 mo_0 rfl ?_
        refine z_iload_n CX 2 dX6_readClaim_20 rfl rfl ?_
        refine z_callS1 CX dX6_readClaim_21 cs_X6_166 (Cn.row mq_2 mq_2 (a := k + 3) (c_isB hO.1.2.1 (by have := hO.2.2; omega) _)) rfl rfl (Nat.le_of_ble_eq_true rfl) ⟨Nat.le_of_ble_eq_true rfl, Nat.le_of_ble_eq_true rfl⟩ ⟨Nat.le_refl _, Nat.le_refl _⟩ ?_
        refine z_if_eq CX 43 dX6_readClaim_24 (by decide) (fun q9 => absurd q9 (by rw [bI_1 hb]; decide)) (fun _ => ?_)
        refine z_aload_n CX 0 dX6_readClaim_27 rfl rfl ?_
        refine z_get CX dX6_readClaim_28 fg_X6_16 mo_0 rfl ?_
        refine z_iload_n CX 1 dX6_readClaim_31 rfl rfl ?_
        refine z_iload_n CX 2 dX6_readClaim_32 rfl rfl ?_
        refine z_callS1 CX dX6_readClaim_33 cs_X6_102 (Cn.row mq_2 mq_2 (a := k + 3) (c_why (o := o) (b := i) (by omega) (by omega))) rfl rfl (Nat.le_of_ble_eq_true rfl) ⟨Nat.le_of_ble_eq_true rfl, Nat.le_of_ble_eq_true rfl⟩ ⟨Nat.le_refl _, Nat.le_refl _⟩ ?_
        refine z_if_ne CX 43 dX6_readClaim_36 (by decide) (fun q9 => absurd q9 (fun z => z hs9)) (fun _ => ?_)
        refine z_iconst CX (v := 1) dX6_readClaim_39 (by decide) ?_
        refine z_goto CX 44 dX6_readClaim_40 (by decide) ?_
        refine z_callV1 CX dX6_readClaim_44 cv_X6_154 (c_goes (cn := true)) mo_0 rfl rfl (Nat.le_of_ble_eq_true rfl) ⟨Nat.le_of_ble_eq_true rfl, Nat.le_of_ble_eq_true rfl⟩ ⟨Nat.le_refl _, Nat.le_refl _⟩ ?_
        refine z_if_eq CX 62 dX6_readClaim_47 (by decide) (fun _ => ?_) (fun q9 => absurd (by rw [hg]; rfl) q9)
        refine z_iconst CX (v := 0) dX6_readClaim_62 (by decide) ?_
        exact z_iret CX dX6_readClaim_63 rfl rfl (by unfold exR; rw [hg]; show modH w hs k _ A = modH w hs k _ (upA A 2 (A 2)); rw [upA_id]; rfl) (Or.inl rfl)
      | true =>
        apply Exists.intro
        refine Cn.of (d := mX6_readClaim) (by decide +kernel) (Nat.le_of_ble_eq_true rfl) ?_
        intro p e R s m args below meth c CX
        replace CX : Ctx p s m args meth c R w RX6 "readClaim" cX6_readClaim 3 (some .int) 4 89 0 0 := CX
        show ZW p l e R s m args below meth c w 3 _ _ 0 0 (MQ below (Qn w _ _ _) args s 0 0 (wA w)) 0 [(0, .ref (wB w + k))] []
        refine z_aload_n CX 0 dX6_readClaim_0 rfl rfl ?_
        refine z_iconst CX (v := 0) dX6_readClaim_1 (by decide) ?_
        refine z_iconst CX (v := 3) dX6_readClaim_2 (by decide) ?_
        refine z_callV1 CX dX6_readClaim_3 cv_X6_141 (c_digit (q := (y, true)) hu hl (Nat.lt_trans (show y < 200 by omega) (by omega)) _ _) mo_0 rfl rfl (Nat.le_of_ble_eq_true rfl) ⟨Nat.le_of_ble_eq_true rfl, Nat.le_of_ble_eq_true rfl⟩ ⟨Nat.le_refl _, Nat.le_refl _⟩ ?_
        rw [e1, w1]
        refine z_istore_n CX 1 dX6_readClaim_6 rfl (by decide) ?_
        refine z_aload_n CX 0 dX6_readClaim_7 rfl rfl ?_
        refine z_iconst CX (v := 0) dX6_readClaim_8 (by decide) ?_
        refine z_bipush CX (v := 9) dX6_readClaim_9 (by decide) ?_
        refine z_callV1 CX dX6_readClaim_11 cv_X6_141 (c_digit (q := q1) hu hl (Nat.lt_trans hb1 (by omega)) _ _) mo_0 rfl rfl (Nat.le_of_ble_eq_true rfl) ⟨Nat.le_of_ble_eq_true rfl, Nat.le_of_ble_eq_true rfl⟩ ⟨Nat.le_refl _, Nat.le_refl _⟩ ?_
        rw [e2, w2]
        refine z_istore_n CX 2 dX6_readClaim_14 rfl (by decide) ?_
        refine z_aload_n CX 0 dX6_readClaim_15 rfl rfl ?_
        refine z_aload_n CX 0 dX6_readClaim_16 rfl rfl ?_
        refine z_get CX dX6_readClaim_17 fg_X6_16 mo_0 rfl ?_
        refine z_iload_n CX 2 dX6_readClaim_20 rfl rfl ?_
        refine z_callS1 CX dX6_readClaim_21 cs_X6_166 (Cn.row mq_2 mq_2 (a := k + 3) (c_isB hO.1.2.1 (by have := hO.2.2; omega) _)) rfl rfl (Nat.le_of_ble_eq_true rfl) ⟨Nat.le_of_ble_eq_true rfl, Nat.le_of_ble_eq_true rfl⟩ ⟨Nat.le_refl _, Nat.le_refl _⟩ ?_
        refine z_if_eq CX 43 dX6_readClaim_24 (by decide) (fun q9 => absurd q9 (by rw [bI_1 hb]; decide)) (fun _ => ?_)
        refine z_aload_n CX 0 dX6_readClaim_27 rfl rfl ?_
        refine z_get CX dX6_readClaim_28 fg_X6_16 mo_0 rfl ?_
        refine z_iload_n CX 1 dX6_readClaim_31 rfl rfl ?_
        refine z_iload_n CX 2 dX6_readClaim_32 rfl rfl ?_
        refine z_callS1 CX dX6_readClaim_33 cs_X6_102 (Cn.row mq_2 mq_2 (a := k + 3) (c_why (o := o) (b := i) (by omega) (by omega))) rfl rfl (Nat.le_of_ble_eq_true rfl) ⟨Nat.le_of_ble_eq_true rfl, Nat.le_of_ble_eq_true rfl⟩ ⟨Nat.le_refl _, Nat.le_refl _⟩ ?_
        refine z_if_ne CX 43 dX6_readClaim_36 (by decide) (fun q9 => absurd q9 (fun z => z hs9)) (fun _ => ?_)
        refine z_iconst CX (v := 1) dX6_readClaim_39 (by decide) ?_
        refine z_goto CX 44 dX6_readClaim_40 (by decide) ?_
        refine z_callV1 CX dX6_readClaim_44 cv_X6_154 (c_goes (cn := true)) mo_0 rfl rfl (Nat.le_of_ble_eq_true rfl) ⟨Nat.le_of_ble_eq_true rfl, Nat.le_of_ble_eq_true rfl⟩ ⟨Nat.le_refl _, Nat.le_refl _⟩ ?_
        refine z_if_eq CX 62 dX6_readClaim_47 (by decide) (fun q9 => absurd q9 (by rw [hg]; decide)) (fun _ => ?_)
        refine z_aload_n CX 0 dX6_readClaim_50 rfl rfl ?_
        refine z_get CX dX6_readClaim_51 fg_X6_16 mo_0 rfl ?_
        refine z_iload_n CX 1 dX6_readClaim_54 rfl rfl ?_
        refine z_iload_n CX 2 dX6_readClaim_55 rfl rfl ?_
        refine z_callS1 CX dX6_readClaim_56 cs_X6_175 (Cn.row mq_2 mr_2 (a := k + 3) (c_goCl (o := o) (b := i) (by omega) (by omega))) rfl rfl (Nat.le_of_ble_eq_true rfl) ⟨Nat.le_of_ble_eq_true rfl, Nat.le_of_ble_eq_true rfl⟩ ⟨Nat.le_refl _, Nat.le_refl _⟩ ?_
        refine z_goto CX 63 dX6_readClaim_59 (by decide) ?_
        exact z_iret CX dX6_readClaim_63 rfl rfl (by rw [hp]; unfold exR; rw [hg]; rfl) (Or.inl rfl)
    · have hp : pfC (A 2) (nI o) (nI i) = (false, A 2) := by
        unfold pfC; rw [i3, o4, if_neg (fun z => hs9 z.2)]
      cases hg : q2.2 with
      | false =>
        apply Exists.intro
        refine Cn.of (d := mX6_readClaim) (by decide +kernel) (Nat.le_of_ble_eq_true rfl) ?_
        intro p e R s m args below meth c CX
        replace CX : Ctx p s m args meth c R w RX6 "readClaim" cX6_readClaim 3 (some .int) 4 89 0 0 := CX
        show ZW p l e R s m args below meth c w 3 _ _ 0 0 (MQ below (Qn w _ _ _) args s 0 0 (wA w)) 0 [(0, .ref (wB w + k))] []
        refine z_aload_n CX 0 dX6_readClaim_0 rfl rfl ?_
        refine z_iconst CX (v := 0) dX6_readClaim_1 (by decide) ?_
        refine z_iconst CX (v := 3) dX6_readClaim_2 (by decide) ?_
        refine z_callV1 CX dX6_readClaim_3 cv_X6_141 (c_digit (q := (y, true)) hu hl (Nat.lt_trans (show y < 200 by omega) (by omega)) _ _) mo_0 rfl rfl (Nat.le_of_ble_eq_true rfl) ⟨Nat.le_of_ble_eq_true rfl, Nat.le_of_ble_eq_true rfl⟩ ⟨Nat.le_refl _, Nat.le_refl _⟩ ?_
        rw [e1, w1]
        refine z_istore_n CX 1 dX6_readClaim_6 rfl (by decide) ?_
        refine z_aload_n CX 0 dX6_readClaim_7 rfl rfl ?_
        refine z_iconst CX (v := 0) dX6_readClaim_8 (by decide) ?_
        refine z_bipush CX (v := 9) dX6_readClaim_9 (by decide) ?_
        refine z_callV1 CX dX6_readClaim_11 cv_X6_141 (c_digit (q := q1) hu hl (Nat.lt_trans hb1 (by omega)) _ _) mo_0 rfl rfl (Nat.le_of_ble_eq_true rfl) ⟨Nat.le_of_ble_eq_true rfl, Nat.le_of_ble_eq_true rfl⟩ ⟨Nat.le_refl _, Nat.le_refl _⟩ ?_
        rw [e2, w2]
        refine z_istore_n CX 2 dX6_readClaim_14 rfl (by decide) ?_
        refine z_aload_n CX 0 dX6_readClaim_15 rfl rfl ?_
        refine z_aload_n CX 0 dX6_readClaim_16 rfl rfl ?_
        refine z_get CX dX6_readClaim_17 fg_X6_16 mo_0 rfl ?_
        refine z_iload_n CX 2 dX6_readClaim_20 rfl rfl ?_
        refine z_callS1 CX dX6_readClaim_21 cs_X6_166 (Cn.row mq_2 mq_2 (a := k + 3) (c_isB hO.1.2.1 (by have := hO.2.2; omega) _)) rfl rfl (Nat.le_of_ble_eq_true rfl) ⟨Nat.le_of_ble_eq_true rfl, Nat.le_of_ble_eq_true rfl⟩ ⟨Nat.le_refl _, Nat.le_refl _⟩ ?_
        refine z_if_eq CX 43 dX6_readClaim_24 (by decide) (fun q9 => absurd q9 (by rw [bI_1 hb]; decide)) (fun _ => ?_)
        refine z_aload_n CX 0 dX6_readClaim_27 rfl rfl ?_
        refine z_get CX dX6_readClaim_28 fg_X6_16 mo_0 rfl ?_
        refine z_iload_n CX 1 dX6_readClaim_31 rfl rfl ?_
        refine z_iload_n CX 2 dX6_readClaim_32 rfl rfl ?_
        refine z_callS1 CX dX6_readClaim_33 cs_X6_102 (Cn.row mq_2 mq_2 (a := k + 3) (c_why (o := o) (b := i) (by omega) (by omega))) rfl rfl (Nat.le_of_ble_eq_true rfl) ⟨Nat.le_of_ble_eq_true rfl, Nat.le_of_ble_eq_true rfl⟩ ⟨Nat.le_refl _, Nat.le_refl _⟩ ?_
        refine z_if_ne CX 43 dX6_readClaim_36 (by decide) (fun _ => ?_) (fun q9 => absurd q9 hs9)
        refine z_iconst CX (v := 0) dX6_readClaim_43 (by decide) ?_
        refine z_callV1 CX dX6_readClaim_44 cv_X6_154 (c_goes (cn := false)) mo_0 rfl rfl (Nat.le_of_ble_eq_true rfl) ⟨Nat.le_of_ble_eq_true rfl, Nat.le_of_ble_eq_true rfl⟩ ⟨Nat.le_refl _, Nat.le_refl _⟩ ?_
        refine z_if_eq CX 62 dX6_readClaim_47 (by decide) (fun _ => ?_) (fun q9 => absurd (by rw [hg]; rfl) q9)
        refine z_iconst CX (v := 0) dX6_readClaim_62 (by decide) ?_
        exact z_iret CX dX6_readClaim_63 rfl rfl (by unfold exR; rw [hg]; show modH w hs k _ A = modH w hs k _ (upA A 2 (A 2)); rw [upA_id]; rfl) (Or.inl rfl)
      | true =>
        apply Exists.intro
        refine Cn.of (d := mX6_readClaim) (by decide +kernel) (Nat.le_of_ble_eq_true rfl) ?_
        intro p e R s m args below meth c CX
        replace CX : Ctx p s m args meth c R w RX6 "readClaim" cX6_readClaim 3 (some .int) 4 89 0 0 := CX
        show ZW p l e R s m args below meth c w 3 _ _ 0 0 (MQ below (Qn w _ _ _) args s 0 0 (wA w)) 0 [(0, .ref (wB w + k))] []
        refine z_aload_n CX 0 dX6_readClaim_0 rfl rfl ?_
        refine z_iconst CX (v := 0) dX6_readClaim_1 (by decide) ?_
        refine z_iconst CX (v := 3) dX6_readClaim_2 (by decide) ?_
        refine z_callV1 CX dX6_readClaim_3 cv_X6_141 (c_digit (q := (y, true)) hu hl (Nat.lt_trans (show y < 200 by omega) (by omega)) _ _) mo_0 rfl rfl (Nat.le_of_ble_eq_true rfl) ⟨Nat.le_of_ble_eq_true rfl, Nat.le_of_ble_eq_true rfl⟩ ⟨Nat.le_refl _, Nat.le_refl _⟩ ?_
        rw [e1, w1]
        refine z_istore_n CX 1 dX6_readClaim_6 rfl (by decide) ?_
        refine z_aload_n CX 0 dX6_readClaim_7 rfl rfl ?_
        refine z_iconst CX (v := 0) dX6_readClaim_8 (by decide) ?_
        refine z_bipush CX (v := 9) dX6_readClaim_9 (by decide) ?_
        refine z_callV1 CX dX6_readClaim_11 cv_X6_141 (c_digit (q := q1) hu hl (Nat.lt_trans hb1 (by omega)) _ _) mo_0 rfl rfl (Nat.le_of_ble_eq_true rfl) ⟨Nat.le_of_ble_eq_true rfl, Nat.le_of_ble_eq_true rfl⟩ ⟨Nat.le_refl _, Nat.le_refl _⟩ ?_
        rw [e2, w2]
        refine z_istore_n CX 2 dX6_readClaim_14 rfl (by decide) ?_
        refine z_aload_n CX 0 dX6_readClaim_15 rfl rfl ?_
        refine z_aload_n CX 0 dX6_readClaim_16 rfl rfl ?_
        refine z_get CX dX6_readClaim_17 fg_X6_16 mo_0 rfl ?_
        refine z_iload_n CX 2 dX6_readClaim_20 rfl rfl ?_
        refine z_callS1 CX dX6_readClaim_21 cs_X6_166 (Cn.row mq_2 mq_2 (a := k + 3) (c_isB hO.1.2.1 (by have := hO.2.2; omega) _)) rfl rfl (Nat.le_of_ble_eq_true rfl) ⟨Nat.le_of_ble_eq_true rfl, Nat.le_of_ble_eq_true rfl⟩ ⟨Nat.le_refl _, Nat.le_refl _⟩ ?_
        refine z_if_eq CX 43 dX6_readClaim_24 (by decide) (fun q9 => absurd q9 (by rw [bI_1 hb]; decide)) (fun _ => ?_)
        refine z_aload_n CX 0 dX6_readClaim_27 rfl rfl ?_
        refine z_get CX dX6_readClaim_28 fg_X6_16 mo_0 rfl ?_
        refine z_iload_n CX 1 dX6_readClaim_31 rfl rfl ?_
        refine z_iload_n CX 2 dX6_readClaim_32 rfl rfl ?_
        refine z_callS1 CX dX6_readClaim_33 cs_X6_102 (Cn.row mq_2 mq_2 (a := k + 3) (c_why (o := o) (b := i) (by omega) (by omega))) rfl rfl (Nat.le_of_ble_eq_true rfl) ⟨Nat.le_of_ble_eq_true rfl, Nat.le_of_ble_eq_true rfl⟩ ⟨Nat.le_refl _, Nat.le_refl _⟩ ?_
        refine z_if_ne CX 43 dX6_readClaim_36 (by decide) (fun _ => ?_) (fun q9 => absurd q9 hs9)
        refine z_iconst CX (v := 0) dX6_readClaim_43 (by decide) ?_
        refine z_callV1 CX dX6_readClaim_44 cv_X6_154 (c_goes (cn := false)) mo_0 rfl rfl (Nat.le_of_ble_eq_true rfl) ⟨Nat.le_of_ble_eq_true rfl, Nat.le_of_ble_eq_true rfl⟩ ⟨Nat.le_refl _, Nat.le_refl _⟩ ?_
        refine z_if_eq CX 62 dX6_readClaim_47 (by decide) (fun _ => ?_) (fun q9 => absurd (by rw [hg]; rfl) q9)
        refine z_iconst CX (v := 0) dX6_readClaim_62 (by decide) ?_
        exact z_iret CX dX6_readClaim_63 rfl rfl (by rw [hp]; unfold exR; rw [hg]; show modH w hs k _ A = modH w hs k _ (upA A 2 (A 2)); rw [upA_id]; rfl) (Or.inl rfl)
  · have hp : pfC (A 2) (nI o) v2 = (false, A 2) := by
      unfold pfC; rw [if_neg (fun z => hb z.1.2)]
    cases hg : q2.2 with
    | false =>
      apply Exists.intro
      refine Cn.of (d := mX6_readClaim) (by decide +kernel) (Nat.le_of_ble_eq_true rfl) ?_
      intro p e R s m args below meth c CX
      replace CX : Ctx p s m args meth c R w RX6 "readClaim" cX6_readClaim 3 (some .int) 4 89 0 0 := CX
      show ZW p l e R s m args below meth c w 3 _ _ 0 0 (MQ below (Qn w _ _ _) args s 0 0 (wA w)) 0 [(0, .ref (wB w + k))] []
      refine z_aload_n CX 0 dX6_readClaim_0 rfl rfl ?_
      refine z_iconst CX (v := 0) dX6_readClaim_1 (by decide) ?_
      refine z_iconst CX (v := 3) dX6_readClaim_2 (by decide) ?_
      refine z_callV1 CX dX6_readClaim_3 cv_X6_141 (c_digit (q := (y, true)) hu hl (Nat.lt_trans (show y < 200 by omega) (by omega)) _ _) mo_0 rfl rfl (Nat.le_of_ble_eq_true rfl) ⟨Nat.le_of_ble_eq_true rfl, Nat.le_of_ble_eq_true rfl⟩ ⟨Nat.le_refl _, Nat.le_refl _⟩ ?_
      rw [e1, w1]
      refine z_istore_n CX 1 dX6_readClaim_6 rfl (by decide) ?_
      refine z_aload_n CX 0 dX6_readClaim_7 rfl rfl ?_
      refine z_iconst CX (v := 0) dX6_readClaim_8 (by decide) ?_
      refine z_bipush CX (v := 9) dX6_readClaim_9 (by decide) ?_
      refine z_callV1 CX dX6_readClaim_11 cv_X6_141 (c_digit (q := q1) hu hl (Nat.lt_trans hb1 (by omega)) _ _) mo_0 rfl rfl (Nat.le_of_ble_eq_true rfl) ⟨Nat.le_of_ble_eq_true rfl, Nat.le_of_ble_eq_true rfl⟩ ⟨Nat.le_refl _, Nat.le_refl _⟩ ?_
      rw [e2, w2]
      refine z_istore_n CX 2 dX6_readClaim_14 rfl (by decide) ?_
      refine z_aload_n CX 0 dX6_readClaim_15 rfl rfl ?_
      refine z_aload_n CX 0 dX6_readClaim_16 rfl rfl ?_
      refine z_get CX dX6_readClaim_17 fg_X6_16 mo_0 rfl ?_
      refine z_iload_n CX 2 dX6_readClaim_20 rfl rfl ?_
      refine z_callS1 CX dX6_readClaim_21 cs_X6_166 (Cn.row mq_2 mq_2 (a := k + 3) (c_isB hO.1.2.1 (by have := hO.2.2; omega) _)) rfl rfl (Nat.le_of_ble_eq_true rfl) ⟨Nat.le_of_ble_eq_true rfl, Nat.le_of_ble_eq_true rfl⟩ ⟨Nat.le_refl _, Nat.le_refl _⟩ ?_
      refine z_if_eq CX 43 dX6_readClaim_24 (by decide) (fun _ => ?_) (fun q9 => absurd (bI_0 hb) q9)
      refine z_iconst CX (v := 0) dX6_readClaim_43 (by decide) ?_
      refine z_callV1 CX dX6_readClaim_44 cv_X6_154 (c_goes (cn := false)) mo_0 rfl rfl (Nat.le_of_ble_eq_true rfl) ⟨Nat.le_of_ble_eq_true rfl, Nat.le_of_ble_eq_true rfl⟩ ⟨Nat.le_refl _, Nat.le_refl _⟩ ?_
      refine z_if_eq CX 62 dX6_readClaim_47 (by decide) (fun _ => ?_) (fun q9 => absurd (by rw [hg]; rfl) q9)
      refine z_iconst CX (v := 0) dX6_readClaim_62 (by decide) ?_
      exact z_iret CX dX6_readClaim_63 rfl rfl (by unfold exR; rw [hg]; show modH w hs k _ A = modH w hs k _ (upA A 2 (A 2)); rw [upA_id]; rfl) (Or.inl rfl)
    | true =>
      apply Exists.intro
      refine Cn.of (d := mX6_readClaim) (by decide +kernel) (Nat.le_of_ble_eq_true rfl) ?_
      intro p e R s m args below meth c CX
      replace CX : Ctx p s m args meth c R w RX6 "readClaim" cX6_readClaim 3 (some .int) 4 89 0 0 := CX
      show ZW p l e R s m args below meth c w 3 _ _ 0 0 (MQ below (Qn w _ _ _) args s 0 0 (wA w)) 0 [(0, .ref (wB w + k))] []
      refine z_aload_n CX 0 dX6_readClaim_0 rfl rfl ?_
      refine z_iconst CX (v := 0) dX6_readClaim_1 (by decide) ?_
      refine z_iconst CX (v := 3) dX6_readClaim_2 (by decide) ?_
      refine z_callV1 CX dX6_readClaim_3 cv_X6_141 (c_digit (q := (y, true)) hu hl (Nat.lt_trans (show y < 200 by omega) (by omega)) _ _) mo_0 rfl rfl (Nat.le_of_ble_eq_true rfl) ⟨Nat.le_of_ble_eq_true rfl, Nat.le_of_ble_eq_true rfl⟩ ⟨Nat.le_refl _, Nat.le_refl _⟩ ?_
      rw [e1, w1]
      refine z_istore_n CX 1 dX6_readClaim_6 rfl (by decide) ?_
      refine z_aload_n CX 0 dX6_readClaim_7 rfl rfl ?_
      refine z_iconst CX (v := 0) dX6_readClaim_8 (by decide) ?_
      refine z_bipush CX (v := 9) dX6_readClaim_9 (by decide) ?_
      refine z_callV1 CX dX6_readClaim_11 cv_X6_141 (c_digit (q := q1) hu hl (Nat.lt_trans hb1 (by omega)) _ _) mo_0 rfl rfl (Nat.le_of_ble_eq_true rfl) ⟨Nat.le_of_ble_eq_true rfl, Nat.le_of_ble_eq_true rfl⟩ ⟨Nat.le_refl _, Nat.le_refl _⟩ ?_
      rw [e2, w2]
      refine z_istore_n CX 2 dX6_readClaim_14 rfl (by decide) ?_
      refine z_aload_n CX 0 dX6_readClaim_15 rfl rfl ?_
      refine z_aload_n CX 0 dX6_readClaim_16 rfl rfl ?_
      refine z_get CX dX6_readClaim_17 fg_X6_16 mo_0 rfl ?_
      refine z_iload_n CX 2 dX6_readClaim_20 rfl rfl ?_
      refine z_callS1 CX dX6_readClaim_21 cs_X6_166 (Cn.row mq_2 mq_2 (a := k + 3) (c_isB hO.1.2.1 (by have := hO.2.2; omega) _)) rfl rfl (Nat.le_of_ble_eq_true rfl) ⟨Nat.le_of_ble_eq_true rfl, Nat.le_of_ble_eq_true rfl⟩ ⟨Nat.le_refl _, Nat.le_refl _⟩ ?_
      refine z_if_eq CX 43 dX6_readClaim_24 (by decide) (fun _ => ?_) (fun q9 => absurd (bI_0 hb) q9)
      refine z_iconst CX (v := 0) dX6_readClaim_43 (by decide) ?_
      refine z_callV1 CX dX6_readClaim_44 cv_X6_154 (c_goes (cn := false)) mo_0 rfl rfl (Nat.le_of_ble_eq_true rfl) ⟨Nat.le_of_ble_eq_true rfl, Nat.le_of_ble_eq_true rfl⟩ ⟨Nat.le_refl _, Nat.le_refl _⟩ ?_
      refine z_if_eq CX 62 dX6_readClaim_47 (by decide) (fun _ => ?_) (fun q9 => absurd (by rw [hg]; rfl) q9)
      refine z_iconst CX (v := 0) dX6_readClaim_62 (by decide) ?_
      exact z_iret CX dX6_readClaim_63 rfl rfl (by rw [hp]; unfold exR; rw [hg]; show modH w hs k _ A = modH w hs k _ (upA A 2 (A 2)); rw [upA_id]; rfl) (Or.inl rfl)
set_option maxHeartbeats 4000000 in
set_option maxRecDepth 100000 in
theorem c_rdS {l : Launch} {w : Wt} {hs : Hs} {n : Option Nat} {k : Nat} {u : Nat → Int32} {A : Nat → Nat → Int32} {y len : Nat} {x5 : Int32} (hu : u 2 = nI len) (hl : len ≤ 120) (hy : y < 200) (hO : OKr (A 2)) {x : Int32} (hx : x ≠ 109) {q1 : Nat × Bool} {v1 : Int32} (e1 : dgS (A 6) len 0 2 (y, true) = q1) (w1 : dgV (A 6) len 0 2 (y, true) = v1) {q2 : Nat × Bool} {v2 : Int32} (e2 : dgS (A 6) len 0 9 q1 = q2) (w2 : dgV (A 6) len 0 9 q1 = v2) : ∃ v : Int32, Cn l w mX6_readRest 0 0 [.ref (wB w + k), .int x] (modH w hs k (sT5 u y true x5) A) n (modH w hs k (sT5 u q2.1 q2.2 (exR q2.2 (pfS (A 2) v1 v2) (A 2) x5).2) (upA A 2 (exR q2.2 (pfS (A 2) v1 v2) (A 2) x5).1)) n (some (.int v)) := by
  have hb1 : q1.1 < 201 := by rw [← e1]; exact Nat.lt_of_le_of_lt dgS_le.2 (by show y + 1 < 201; omega)
  have hb2 : q2.1 < 202 := by rw [← e2]; exact Nat.lt_of_le_of_lt dgS_le.2 (by omega)
  by_cases hs9 : isSetP v1 v2
  · obtain ⟨i, i1, i2, i3⟩ := isSetP_k hs9
    subst i2
    have hp : pfS (A 2) (nI i) v2 = (true, upd (A 2) (154 + i) v2) := by
      unfold pfS; rw [i3, if_pos hs9]
    cases hg : q2.2 with
    | false =>
      apply Exists.intro
      refine Cn.of (d := mX6_readRest) (by decide +kernel) (Nat.le_of_ble_eq_true rfl) ?_
      intro p e R s m args below meth c CX
      replace CX : Ctx p s m args meth c R w RX6 "readRest" cX6_readRest 4 (some .int) 7 159 0 0 := CX
      show ZW p l e R s m args below meth c w 4 _ _ 0 0 (MQ below (Qn w _ _ _) args s 0 0 (wA w)) 0 [(0, .ref (wB w + k)), (1, .int x)] []
      refine z_iload_n CX 1 dX6_readRest_0 rfl rfl ?_
      refine z_bipush CX (v := 109) dX6_readRest_1 (by decide) ?_
      refine z_icmp_ne CX 34 dX6_readRest_3 (by decide) (fun _ => ?_) (fun q9 => absurd q9 hx)
      refine z_aload_n CX 0 dX6_readRest_34 rfl rfl ?_
      refine z_iconst CX (v := 0) dX6_readRest_35 (by decide) ?_
      refine z_iconst CX (v := 2) dX6_readRest_36 (by decide) ?_
      refine z_callV1 CX dX6_readRest_37 cv_X6_141 (c_digit (q := (y, true)) hu hl (Nat.lt_trans (show y < 200 by omega) (by omega)) _ _) mo_0 rfl rfl (Nat.le_of_ble_eq_true rfl) ⟨Nat.le_of_ble_eq_true rfl, Nat.le_of_ble_eq_true rfl⟩ ⟨Nat.le_refl _, Nat.le_refl _⟩ ?_
      rw [e1, w1]
      refine z_istore_n CX 2 dX6_readRest_40 rfl (by decide) ?_
      refine z_aload_n CX 0 dX6_readRest_41 rfl rfl ?_
      refine z_iconst CX (v := 0) dX6_readRest_42 (by decide) ?_
      refine z_bipush CX (v := 9) dX6_readRest_43 (by decide) ?_
      refine z_callV1 CX dX6_readRest_45 cv_X6_141 (c_digit (q := q1) hu hl (Nat.lt_trans hb1 (by omega)) _ _) mo_0 rfl rfl (Nat.le_of_ble_eq_true rfl) ⟨Nat.le_of_ble_eq_true rfl, Nat.le_of_ble_eq_true rfl⟩ ⟨Nat.le_refl _, Nat.le_refl _⟩ ?_
      rw [e2, w2]
      refine z_istore_n CX 3 dX6_readRest_48 rfl (by decide) ?_
      refine z_aload_n CX 0 dX6_readRest_49 rfl rfl ?_
      refine z_iload_n CX 2 dX6_readRest_50 rfl rfl ?_
      refine z_iload_n CX 3 dX6_readRest_51 rfl rfl ?_
      refine z_callS1 CX dX6_readRest_52 cs_X6_181 (c_isSet (nI i) v2) rfl rfl (Nat.le_of_ble_eq_true rfl) ⟨Nat.le_of_ble_eq_true rfl, Nat.le_of_ble_eq_true rfl⟩ ⟨Nat.le_refl _, Nat.le_refl _⟩ ?_
      rw [bI_1 hs9, show (1 : Int32) = bI true from rfl]
      refine z_callV1 CX dX6_readRest_55 cv_X6_154 (c_goes (cn := true)) mo_0 rfl rfl (Nat.le_of_ble_eq_true rfl) ⟨Nat.le_of_ble_eq_true rfl, Nat.le_of_ble_eq_true rfl⟩ ⟨Nat.le_refl _, Nat.le_refl _⟩ ?_
      refine z_if_eq CX 77 dX6_readRest_58 (by decide) (fun _ => ?_) (fun q9 => absurd (by rw [hg]; rfl) q9)
      refine z_iconst CX (v := 0) dX6_readRest_77 (by decide) ?_
      exact z_iret CX dX6_readRest_78 rfl rfl (by unfold exR; rw [hg]; show modH w hs k _ A = modH w hs k _ (upA A 2 (A 2)); rw [upA_id]; rfl) (Or.inl rfl)
    | true =>
      apply Exists.intro
      refine Cn.of (d := mX6_readRest) (by decide +kernel) (Nat.le_of_ble_eq_true rfl) ?_
      intro p e R s m args below meth c CX
      replace CX : Ctx p s m args meth c R w RX6 "readRest" cX6_readRest 4 (some .int) 7 159 0 0 := CX
      show ZW p l e R s m args below meth c w 4 _ _ 0 0 (MQ below (Qn w _ _ _) args s 0 0 (wA w)) 0 [(0, .ref (wB w + k)), (1, .int x)] []
      refine z_iload_n CX 1 dX6_readRest_0 rfl rfl ?_
      refine z_bipush CX (v := 109) dX6_readRest_1 (by decide) ?_
      refine z_icmp_ne CX 34 dX6_readRest_3 (by decide) (fun _ => ?_) (fun q9 => absurd q9 hx)
      refine z_aload_n CX 0 dX6_readRest_34 rfl rfl ?_
      refine z_iconst CX (v := 0) dX6_readRest_35 (by decide) ?_
      refine z_iconst CX (v := 2) dX6_readRest_36 (by decide) ?_
      refine z_callV1 CX dX6_readRest_37 cv_X6_141 (c_digit (q := (y, true)) hu hl (Nat.lt_trans (show y < 200 by omega) (by omega)) _ _) mo_0 rfl rfl (Nat.le_of_ble_eq_true rfl) ⟨Nat.le_of_ble_eq_true rfl, Nat.le_of_ble_eq_true rfl⟩ ⟨Nat.le_refl _, Nat.le_refl _⟩ ?_
      rw [e1, w1]
      refine z_istore_n CX 2 dX6_readRest_40 rfl (by decide) ?_
      refine z_aload_n CX 0 dX6_readRest_41 rfl rfl ?_
      refine z_iconst CX (v := 0) dX6_readRest_42 (by decide) ?_
      refine z_bipush CX (v := 9) dX6_readRest_43 (by decide) ?_
      refine z_callV1 CX dX6_readRest_45 cv_X6_141 (c_digit (q := q1) hu hl (Nat.lt_trans hb1 (by omega)) _ _) mo_0 rfl rfl (Nat.le_of_ble_eq_true rfl) ⟨Nat.le_of_ble_eq_true rfl, Nat.le_of_ble_eq_true rfl⟩ ⟨Nat.le_refl _, Nat.le_refl _⟩ ?_
      rw [e2, w2]
      refine z_istore_n CX 3 dX6_readRest_48 rfl (by decide) ?_
      refine z_aload_n CX 0 dX6_readRest_49 rfl rfl ?_
      refine z_iload_n CX 2 dX6_readRest_50 rfl rfl ?_
      refine z_iload_n CX 3 dX6_readRest_51 rfl rfl ?_
      refine z_callS1 CX dX6_readRest_52 cs_X6_181 (c_isSet (nI i) v2) rfl rfl (Nat.le_of_ble_eq_true rfl) ⟨Nat.le_of_ble_eq_true rfl, Nat.le_of_ble_eq_true rfl⟩ ⟨Nat.le_refl _, Nat.le_refl _⟩ ?_
      rw [bI_1 hs9, show (1 : Int32) = bI true from rfl]
      refine z_callV1 CX dX6_readRest_55 cv_X6_154 (c_goes (cn := true)) mo_0 rfl rfl (Nat.le_of_ble_eq_true rfl) ⟨Nat.le_of_ble_eq_true rfl, Nat.le_of_ble_eq_true rfl⟩ ⟨Nat.le_refl _, Nat.le_refl _⟩ ?_
      refine z_if_eq CX 77 dX6_readRest_58 (by decide) (fun q9 => absurd q9 (by rw [hg]; decide)) (fun _ => ?_)
      refine z_aload_n CX 0 dX6_readRest_61 rfl rfl ?_
      refine z_get CX dX6_readRest_62 fg_X6_16 mo_0 rfl ?_
      refine z_sipush CX (v := 154) dX6_readRest_65 (by decide) ?_
      refine z_iload_n CX 2 dX6_readRest_68 rfl rfl ?_
      refine z_iadd CX dX6_readRest_69 ?_
      rw [show (154 : Int32) + nI i = nI (154 + i) from nI_add 154 i]
      refine z_iload_n CX 3 dX6_readRest_70 rfl rfl ?_
      refine z_callS1 CX dX6_readRest_71 cs_X6_185 (Cn.row mq_2 mr_2 (a := k + 3) (c_putM (k := 154 + i) (by omega) v2)) rfl rfl (Nat.le_of_ble_eq_true rfl) ⟨Nat.le_of_ble_eq_true rfl, Nat.le_of_ble_eq_true rfl⟩ ⟨Nat.le_refl _, Nat.le_refl _⟩ ?_
      refine z_goto CX 78 dX6_readRest_74 (by decide) ?_
      exact z_iret CX dX6_readRest_78 rfl rfl (by rw [hp]; unfold exR; rw [hg]; rfl) (Or.inl rfl)
  · have hp : pfS (A 2) v1 v2 = (false, A 2) := by
      unfold pfS; rw [if_neg hs9]
    cases hg : q2.2 with
    | false =>
      apply Exists.intro
      refine Cn.of (d := mX6_readRest) (by decide +kernel) (Nat.le_of_ble_eq_true rfl) ?_
      intro p e R s m args below meth c CX
      replace CX : Ctx p s m args meth c R w RX6 "readRest" cX6_readRest 4 (some .int) 7 159 0 0 := CX
      show ZW p l e R s m args below meth c w 4 _ _ 0 0 (MQ below (Qn w _ _ _) args s 0 0 (wA w)) 0 [(0, .ref (wB w + k)), (1, .int x)] []
      refine z_iload_n CX 1 dX6_readRest_0 rfl rfl ?_
      refine z_bipush CX (v := 109) dX6_readRest_1 (by decide) ?_
      refine z_icmp_ne CX 34 dX6_readRest_3 (by decide) (fun _ => ?_) (fun q9 => absurd q9 hx)
      refine z_aload_n CX 0 dX6_readRest_34 rfl rfl ?_
      refine z_iconst CX (v := 0) dX6_readRest_35 (by decide) ?_
      refine z_iconst CX (v := 2) dX6_readRest_36 (by decide) ?_
      refine z_callV1 CX dX6_readRest_37 cv_X6_141 (c_digit (q := (y, true)) hu hl (Nat.lt_trans (show y < 200 by omega) (by omega)) _ _) mo_0 rfl rfl (Nat.le_of_ble_eq_true rfl) ⟨Nat.le_of_ble_eq_true rfl, Nat.le_of_ble_eq_true rfl⟩ ⟨Nat.le_refl _, Nat.le_refl _⟩ ?_
      rw [e1, w1]
      refine z_istore_n CX 2 dX6_readRest_40 rfl (by decide) ?_
      refine z_aload_n CX 0 dX6_readRest_41 rfl rfl ?_
      refine z_iconst CX (v := 0) dX6_readRest_42 (by decide) ?_
      refine z_bipush CX (v := 9) dX6_readRest_43 (by decide) ?_
      refine z_callV1 CX dX6_readRest_45 cv_X6_141 (c_digit (q := q1) hu hl (Nat.lt_trans hb1 (by omega)) _ _) mo_0 rfl rfl (Nat.le_of_ble_eq_true rfl) ⟨Nat.le_of_ble_eq_true rfl, Nat.le_of_ble_eq_true rfl⟩ ⟨Nat.le_refl _, Nat.le_refl _⟩ ?_
      rw [e2, w2]
      refine z_istore_n CX 3 dX6_readRest_48 rfl (by decide) ?_
      refine z_aload_n CX 0 dX6_readRest_49 rfl rfl ?_
      refine z_iload_n CX 2 dX6_readRest_50 rfl rfl ?_
      refine z_iload_n CX 3 dX6_readRest_51 rfl rfl ?_
      refine z_callS1 CX dX6_readRest_52 cs_X6_181 (c_isSet v1 v2) rfl rfl (Nat.le_of_ble_eq_true rfl) ⟨Nat.le_of_ble_eq_true rfl, Nat.le_of_ble_eq_true rfl⟩ ⟨Nat.le_refl _, Nat.le_refl _⟩ ?_
      rw [bI_0 hs9, show (0 : Int32) = bI false from rfl]
      refine z_callV1 CX dX6_readRest_55 cv_X6_154 (c_goes (cn := false)) mo_0 rfl rfl (Nat.le_of_ble_eq_true rfl) ⟨Nat.le_of_ble_eq_true rfl, Nat.le_of_ble_eq_true rfl⟩ ⟨Nat.le_refl _, Nat.le_refl _⟩ ?_
      refine z_if_eq CX 77 dX6_readRest_58 (by decide) (fun _ => ?_) (fun q9 => absurd (by rw [hg]; rfl) q9)
      refine z_iconst CX (v := 0) dX6_readRest_77 (by decide) ?_
      exact z_iret CX dX6_readRest_78 rfl rfl (by unfold exR; rw [hg]; show modH w hs k _ A = modH w hs k _ (upA A 2 (A 2)); rw [upA_id]; rfl) (Or.inl rfl)
    | true =>
      apply Exists.intro
      refine Cn.of (d := mX6_readRest) (by decide +kernel) (Nat.le_of_ble_eq_true rfl) ?_
      intro p e R s m args below meth c CX
      replace CX : Ctx p s m args meth c R w RX6 "readRest" cX6_readRest 4 (some .int) 7 159 0 0 := CX
      show ZW p l e R s m args below meth c w 4 _ _ 0 0 (MQ below (Qn w _ _ _) args s 0 0 (wA w)) 0 [(0, .ref (wB w + k)), (1, .int x)] []
      refine z_iload_n CX 1 dX6_readRest_0 rfl rfl ?_
      refine z_bipush CX (v := 109) dX6_readRest_1 (by decide) ?_
      refine z_icmp_ne CX 34 dX6_readRest_3 (by decide) (fun _ => ?_) (fun q9 => absurd q9 hx)
      refine z_aload_n CX 0 dX6_readRest_34 rfl rfl ?_
      refine z_iconst CX (v := 0) dX6_readRest_35 (by decide) ?_
      refine z_iconst CX (v := 2) dX6_readRest_36 (by decide) ?_
      refine z_callV1 CX dX6_readRest_37 cv_X6_141 (c_digit (q := (y, true)) hu hl (Nat.lt_trans (show y < 200 by omega) (by omega)) _ _) mo_0 rfl rfl (Nat.le_of_ble_eq_true rfl) ⟨Nat.le_of_ble_eq_true rfl, Nat.le_of_ble_eq_true rfl⟩ ⟨Nat.le_refl _, Nat.le_refl _⟩ ?_
      rw [e1, w1]
      refine z_istore_n CX 2 dX6_readRest_40 rfl (by decide) ?_
      refine z_aload_n CX 0 dX6_readRest_41 rfl rfl ?_
      refine z_iconst CX (v := 0) dX6_readRest_42 (by decide) ?_
      refine z_bipush CX (v := 9) dX6_readRest_43 (by decide) ?_
      refine z_callV1 CX dX6_readRest_45 cv_X6_141 (c_digit (q := q1) hu hl (Nat.lt_trans hb1 (by omega)) _ _) mo_0 rfl rfl (Nat.le_of_ble_eq_true rfl) ⟨Nat.le_of_ble_eq_true rfl, Nat.le_of_ble_eq_true rfl⟩ ⟨Nat.le_refl _, Nat.le_refl _⟩ ?_
      rw [e2, w2]
      refine z_istore_n CX 3 dX6_readRest_48 rfl (by decide) ?_
      refine z_aload_n CX 0 dX6_readRest_49 rfl rfl ?_
      refine z_iload_n CX 2 dX6_readRest_50 rfl rfl ?_
      refine z_iload_n CX 3 dX6_readRest_51 rfl rfl ?_
      refine z_callS1 CX dX6_readRest_52 cs_X6_181 (c_isSet v1 v2) rfl rfl (Nat.le_of_ble_eq_true rfl) ⟨Nat.le_of_ble_eq_true rfl, Nat.le_of_ble_eq_true rfl⟩ ⟨Nat.le_refl _, Nat.le_refl _⟩ ?_
      rw [bI_0 hs9, show (0 : Int32) = bI false from rfl]
      refine z_callV1 CX dX6_readRest_55 cv_X6_154 (c_goes (cn := false)) mo_0 rfl rfl (Nat.le_of_ble_eq_true rfl) ⟨Nat.le_of_ble_eq_true rfl, Nat.le_of_ble_eq_true rfl⟩ ⟨Nat.le_refl _, Nat.le_refl _⟩ ?_
      refine z_if_eq CX 77 dX6_readRest_58 (by decide) (fun _ => ?_) (fun q9 => absurd (by rw [hg]; rfl) q9)
      refine z_iconst CX (v := 0) dX6_readRest_77 (by decide) ?_
      exact z_iret CX dX6_readRest_78 rfl rfl (by rw [hp]; unfold exR; rw [hg]; show modH w hs k _ A = modH w hs k _ (upA A 2 (A 2)); rw [upA_id]; rfl) (Or.inl rfl)
set_option maxHeartbeats 4000000 in
set_option maxRecDepth 100000 in
theorem c_rdM {l : Launch} {w : Wt} {hs : Hs} {n : Option Nat} {k : Nat} {u : Nat → Int32} {A : Nat → Nat → Int32} {y len : Nat} {x5 : Int32} (hu : u 2 = nI len) (hl : len ≤ 120) (hy : y < 200) (hO : OKr (A 2))  {q1 : Nat × Bool} {v1 : Int32} (e1 : twS (A 6) len 1 60 (y, true) = q1) (w1 : twV (A 6) len 1 60 (y, true) = v1) : ∃ v : Int32, Cn l w mX6_readRest 0 0 [.ref (wB w + k), .int 109] (modH w hs k (sT5 u y true x5) A) n (modH w hs k (sT5 u q1.1 q1.2 (exR q1.2 (pfM (A 2) v1) (A 2) x5).2) (upA A 2 (exR q1.2 (pfM (A 2) v1) (A 2) x5).1)) n (some (.int v)) := by
  have hb1 : q1.1 < 202 := by rw [← e1]; exact Nat.lt_of_le_of_lt twS_le.2 (by show y + 2 < 202; omega)
  obtain ⟨i, i0, i1, i2⟩ := twV_n (t := A 6) (len := len) (a := 1) (b := 60) (q := (y, true)) (by omega) (by omega)
  have i3 : v1 = nI i := w1.symm.trans i2
  subst i3
  have hp : pfM (A 2) (nI i) = (true, (gms (bN (A 2)) i (A 2)).2) := by
    unfold pfM; rw [if_pos ⟨nI_le (a := 1) i0 (by omega), nI_le (b := 60) i1 (by omega)⟩, nI_clamp (by omega)]
  cases hg : q1.2 with
  | false =>
    apply Exists.intro
    refine Cn.of (d := mX6_readRest) (by decide +kernel) (Nat.le_of_ble_eq_true rfl) ?_
    intro p e R s m args below meth c CX
    replace CX : Ctx p s m args meth c R w RX6 "readRest" cX6_readRest 4 (some .int) 7 159 0 0 := CX
    show ZW p l e R s m args below meth c w 4 _ _ 0 0 (MQ below (Qn w _ _ _) args s 0 0 (wA w)) 0 [(0, .ref (wB w + k)), (1, .int 109)] []
    refine z_iload_n CX 1 dX6_readRest_0 rfl rfl ?_
    refine z_bipush CX (v := 109) dX6_readRest_1 (by decide) ?_
    refine z_icmp_ne CX 34 dX6_readRest_3 (by decide) (fun q9 => absurd q9 (fun z => z rfl)) (fun _ => ?_)
    refine z_aload_n CX 0 dX6_readRest_6 rfl rfl ?_
    refine z_iconst CX (v := 1) dX6_readRest_7 (by decide) ?_
    refine z_bipush CX (v := 60) dX6_readRest_8 (by decide) ?_
    refine z_callV1 CX dX6_readRest_10 cv_X6_148 (c_two (q := (y, true)) hu hl (Nat.lt_trans (show y < 200 by omega) (by omega)) _ _) mo_0 rfl rfl (Nat.le_of_ble_eq_true rfl) ⟨Nat.le_of_ble_eq_true rfl, Nat.le_of_ble_eq_true rfl⟩ ⟨Nat.le_refl _, Nat.le_refl _⟩ ?_
    rw [e1, w1]
    refine z_istore_n CX 3 dX6_readRest_13 rfl (by decide) ?_
    refine z_aload_n CX 0 dX6_readRest_14 rfl rfl ?_
    refine z_get CX dX6_readRest_15 fg_X6_129 mo_0 rfl ?_
    refine z_if_eq CX 32 dX6_readRest_18 (by decide) (fun _ => ?_) (fun q9 => absurd (by rw [show sT5 u q1.1 q1.2 x5 4 = bI q1.2 from rfl, hg]; rfl) q9)
    refine z_iconst CX (v := 0) dX6_readRest_32 (by decide) ?_
    exact z_iret CX dX6_readRest_33 rfl rfl (by rw [hg]; unfold exR; show modH w hs k _ A = modH w hs k _ (upA A 2 (A 2)); rw [upA_id]; rfl) (Or.inl rfl)
  | true =>
    apply Exists.intro
    refine Cn.of (d := mX6_readRest) (by decide +kernel) (Nat.le_of_ble_eq_true rfl) ?_
    intro p e R s m args below meth c CX
    replace CX : Ctx p s m args meth c R w RX6 "readRest" cX6_readRest 4 (some .int) 7 159 0 0 := CX
    show ZW p l e R s m args below meth c w 4 _ _ 0 0 (MQ below (Qn w _ _ _) args s 0 0 (wA w)) 0 [(0, .ref (wB w + k)), (1, .int 109)] []
    refine z_iload_n CX 1 dX6_readRest_0 rfl rfl ?_
    refine z_bipush CX (v := 109) dX6_readRest_1 (by decide) ?_
    refine z_icmp_ne CX 34 dX6_readRest_3 (by decide) (fun q9 => absurd q9 (fun z => z rfl)) (fun _ => ?_)
    refine z_aload_n CX 0 dX6_readRest_6 rfl rfl ?_
    refine z_iconst CX (v := 1) dX6_readRest_7 (by decide) ?_
    refine z_bipush CX (v := 60) dX6_readRest_8 (by decide) ?_
    refine z_callV1 CX dX6_readRest_10 cv_X6_148 (c_two (q := (y, true)) hu hl (Nat.lt_trans (show y < 200 by omega) (by omega)) _ _) mo_0 rfl rfl (Nat.le_of_ble_eq_true rfl) ⟨Nat.le_of_ble_eq_true rfl, Nat.le_of_ble_eq_true rfl⟩ ⟨Nat.le_refl _, Nat.le_refl _⟩ ?_
    rw [e1, w1]
    refine z_istore_n CX 3 dX6_readRest_13 rfl (by decide) ?_
    refine z_aload_n CX 0 dX6_readRest_14 rfl rfl ?_
    refine z_get CX dX6_readRest_15 fg_X6_129 mo_0 rfl ?_
    refine z_if_eq CX 32 dX6_readRest_18 (by decide) (fun q9 => absurd q9 (by rw [show sT5 u q1.1 q1.2 x5 4 = bI q1.2 from rfl, hg]; decide)) (fun _ => ?_)
    refine z_aload_n CX 0 dX6_readRest_21 rfl rfl ?_
    refine z_get CX dX6_readRest_22 fg_X6_16 mo_0 rfl ?_
    refine z_iload_n CX 3 dX6_readRest_25 rfl rfl ?_
    refine z_callS1 CX dX6_readRest_26 cs_X6_178 (Cn.row mq_2 mr_2 (a := k + 3) (c_goMs hO.1 (by omega))) rfl rfl (Nat.le_of_ble_eq_true rfl) ⟨Nat.le_of_ble_eq_true rfl, Nat.le_of_ble_eq_true rfl⟩ ⟨Nat.le_refl _, Nat.le_refl _⟩ ?_
    refine z_goto CX 33 dX6_readRest_29 (by decide) ?_
    exact z_iret CX dX6_readRest_33 rfl rfl (by rw [hp, hg]; unfold exR; rfl) (Or.inl rfl)
