set_option maxHeartbeats 4000000 in
set_option maxRecDepth 100000 in
theorem c_spot {l : Launch} {w : Wt} {hs : Hs} {n : Option Nat}  (b : Nat) : Cn l w mX6_spot 0 0 [.int (nI b)] hs n hs n (some (.int (nI (24 + 10 * b)))) := by
  refine Cn.of (d := mX6_spot) (by decide +kernel) (Nat.le_of_ble_eq_true rfl) ?_
  intro p e R s m args below meth c CX
  replace CX : Ctx p s m args meth c R w RX6 "spot" cX6_spot 1 (some .int) 0 0 0 0 := CX
  show ZW p l e R s m args below meth c w 1 _ _ 0 0 (MQ below (Qn w _ _ _) args s 0 0 (wA w)) 0 [(0, .int (nI b))] []
  refine z_bipush CX (v := 24) dX6_spot_0 (by decide) ?_
  refine z_bipush CX (v := 10) dX6_spot_2 (by decide) ?_
  refine z_iload_n CX 0 dX6_spot_4 rfl rfl ?_
  refine z_imul CX dX6_spot_5 ?_
  refine z_iadd CX dX6_spot_6 ?_
  exact z_iret CX dX6_spot_7 rfl (congrArg Value.int (ix_add rfl (ix_mul rfl rfl)).symm) rfl (Or.inl rfl)
set_option maxHeartbeats 4000000 in
set_option maxRecDepth 100000 in
theorem c_state {l : Launch} {w : Wt} {hs : Hs} {n : Option Nat} {a : Nat} {f : Nat → Int32} {b : Nat} (hb : b < 13) : Cn l w mX6_state 0 0 [.ref (wB w + a), .int (nI b)] (rowH w hs a f) n (rowH w hs a f) n (some (.int (f (24 + 10 * b + 3)))) := by
  refine Cn.of (d := mX6_state) (by decide +kernel) (Nat.le_of_ble_eq_true rfl) ?_
  intro p e R s m args below meth c CX
  replace CX : Ctx p s m args meth c R w RX6 "state" cX6_state 2 (some .int) 1 20 0 0 := CX
  show ZW p l e R s m args below meth c w 2 _ _ 0 0 (MQ below (Qn w _ _ _) args s 0 0 (wA w)) 0 [(0, .ref (wB w + a)), (1, .int (nI b))] []
  refine z_aload_n CX 0 dX6_state_0 rfl rfl ?_
  refine z_iload_n CX 1 dX6_state_1 rfl rfl ?_
  refine z_callS1 CX dX6_state_2 cs_X6_60 (c_spot b) rfl rfl (Nat.le_of_ble_eq_true rfl) ⟨Nat.le_of_ble_eq_true rfl, Nat.le_of_ble_eq_true rfl⟩ ⟨Nat.le_refl _, Nat.le_refl _⟩ ?_
  refine z_iconst CX (v := 3) dX6_state_5 (by decide) ?_
  refine z_iadd CX dX6_state_6 ?_
  refine z_ia CX (j := (24 + 10 * b + 3)) dX6_state_7 row_0 (ix_add rfl rfl) (by omega) (by decide) ?_
  exact z_iret CX dX6_state_8 rfl rfl rfl (Or.inl rfl)
set_option maxHeartbeats 4000000 in
set_option maxRecDepth 100000 in
theorem c_isG {l : Launch} {w : Wt} {hs : Hs} {n : Option Nat} {a : Nat} {f : Nat → Int32} {ng : Nat} (hf : f 146 = nI ng) (h9 : ng < 1000) (x : Int32) : Cn l w mX6_isGutter 0 0 [.ref (wB w + a), .int x] (rowH w hs a f) n (rowH w hs a f) n (some (.int (bI (decide (0 ≤ x ∧ x < nI ng))))) := by
  refine Cn.of (d := mX6_isGutter) (by decide +kernel) (Nat.le_of_ble_eq_true rfl) ?_
  intro p e R s m args below meth c CX
  replace CX : Ctx p s m args meth c R w RX6 "isGutter" cX6_isGutter 2 (some .boolean) 1 25 0 0 := CX
  show ZW p l e R s m args below meth c w 2 _ _ 0 0 (MQ below (Qn w _ _ _) args s 0 0 (wA w)) 0 [(0, .ref (wB w + a)), (1, .int x)] []
  refine z_iload_n CX 1 dX6_isGutter_0 rfl rfl ?_
  refine z_i2l CX dX6_isGutter_1 rfl ?_
  refine z_lconst CX (v := 0) dX6_isGutter_2 (by decide) ?_
  refine z_aload_n CX 0 dX6_isGutter_3 rfl rfl ?_
  refine z_sipush CX (v := 146) dX6_isGutter_4 (by decide) ?_
  refine z_ia CX (j := 146) dX6_isGutter_7 row_0 rfl (by omega) (by decide) ?_
  refine z_iconst CX (v := 1) dX6_isGutter_8 (by decide) ?_
  refine z_isub CX dX6_isGutter_9 ?_
  refine z_i2l CX dX6_isGutter_10 rfl ?_
  rw [hf]
  refine z_callS1 CX dX6_isGutter_11 cs_X6_42 (c_in _ _ _) rfl rfl (Nat.le_of_ble_eq_true rfl) ⟨Nat.le_of_ble_eq_true rfl, Nat.le_of_ble_eq_true rfl⟩ ⟨Nat.le_refl _, Nat.le_refl _⟩ ?_
  exact z_zret CX dX6_isGutter_14 rfl (by first | rfl | exact bI_nar _) (congrArg Value.int (bI_c (inG x (by omega))).symm) rfl (Or.inl rfl)
set_option maxHeartbeats 4000000 in
set_option maxRecDepth 100000 in
theorem c_isB {l : Launch} {w : Wt} {hs : Hs} {n : Option Nat} {a : Nat} {f : Nat → Int32} {nb : Nat} (hf : f 147 = nI nb) (h9 : nb < 1000) (x : Int32) : Cn l w mX6_isBoat 0 0 [.ref (wB w + a), .int x] (rowH w hs a f) n (rowH w hs a f) n (some (.int (bI (decide (0 ≤ x ∧ x < nI nb))))) := by
  refine Cn.of (d := mX6_isBoat) (by decide +kernel) (Nat.le_of_ble_eq_true rfl) ?_
  intro p e R s m args below meth c CX
  replace CX : Ctx p s m args meth c R w RX6 "isBoat" cX6_isBoat 2 (some .boolean) 1 25 0 0 := CX
  show ZW p l e R s m args below meth c w 2 _ _ 0 0 (MQ below (Qn w _ _ _) args s 0 0 (wA w)) 0 [(0, .ref (wB w + a)), (1, .int x)] []
  refine z_iload_n CX 1 dX6_isBoat_0 rfl rfl ?_
  refine z_i2l CX dX6_isBoat_1 rfl ?_
  refine z_lconst CX (v := 0) dX6_isBoat_2 (by decide) ?_
  refine z_aload_n CX 0 dX6_isBoat_3 rfl rfl ?_
  refine z_sipush CX (v := 147) dX6_isBoat_4 (by decide) ?_
  refine z_ia CX (j := 147) dX6_isBoat_7 row_0 rfl (by omega) (by decide) ?_
  refine z_iconst CX (v := 1) dX6_isBoat_8 (by decide) ?_
  refine z_isub CX dX6_isBoat_9 ?_
  refine z_i2l CX dX6_isBoat_10 rfl ?_
  rw [hf]
  refine z_callS1 CX dX6_isBoat_11 cs_X6_42 (c_in _ _ _) rfl rfl (Nat.le_of_ble_eq_true rfl) ⟨Nat.le_of_ble_eq_true rfl, Nat.le_of_ble_eq_true rfl⟩ ⟨Nat.le_refl _, Nat.le_refl _⟩ ?_
  exact z_zret CX dX6_isBoat_14 rfl (by first | rfl | exact bI_nar _) (congrArg Value.int (bI_c (inG x (by omega))).symm) rfl (Or.inl rfl)
theorem inO (x : Int32) : ((0 : Int64) ≤ x.toInt64 ∧ x.toInt64 ≤ 3) ↔ (0 ≤ x ∧ x ≤ 3) := by
  rw [z64, show (3 : Int64) = (3 : Int32).toInt64 by decide, w_le, w_le]
theorem inC (lo hi : Int32) (a b : Int64) (h1 : a = lo.toInt64) (h2 : b = hi.toInt64) (x : Int32) : (a ≤ x.toInt64 ∧ x.toInt64 ≤ b) ↔ (lo ≤ x ∧ x ≤ hi) := by
  rw [h1, h2, w_le, w_le]
set_option maxHeartbeats 4000000 in
set_option maxRecDepth 100000 in
theorem c_isO {l : Launch} {w : Wt} {hs : Hs} {n : Option Nat}  (x : Int32) : Cn l w mX6_isOwner 0 0 [.int x] hs n hs n (some (.int (bI (decide (0 ≤ x ∧ x ≤ 3))))) := by
  refine Cn.of (d := mX6_isOwner) (by decide +kernel) (Nat.le_of_ble_eq_true rfl) ?_
  intro p e R s m args below meth c CX
  replace CX : Ctx p s m args meth c R w RX6 "isOwner" cX6_isOwner 1 (some .boolean) 1 25 0 0 := CX
  show ZW p l e R s m args below meth c w 1 _ _ 0 0 (MQ below (Qn w _ _ _) args s 0 0 (wA w)) 0 [(0, .int x)] []
  refine z_iload_n CX 0 dX6_isOwner_0 rfl rfl ?_
  refine z_i2l CX dX6_isOwner_1 rfl ?_
  refine z_lconst CX (v := 0) dX6_isOwner_2 (by decide) ?_
  refine z_ldc2 CX (v := 3) dX6_isOwner_3 (wa_mem 989 (by decide +kernel) rfl) ?_
  refine z_callS1 CX dX6_isOwner_6 cs_X6_42 (c_in _ _ _) rfl rfl (Nat.le_of_ble_eq_true rfl) ⟨Nat.le_of_ble_eq_true rfl, Nat.le_of_ble_eq_true rfl⟩ ⟨Nat.le_refl _, Nat.le_refl _⟩ ?_
  exact z_zret CX dX6_isOwner_9 rfl (by first | rfl | exact bI_nar _) (congrArg Value.int (bI_c (inC 0 3 _ _ (by decide) (by decide) x)).symm) rfl (Or.inl rfl)
set_option maxHeartbeats 4000000 in
set_option maxRecDepth 100000 in
theorem c_isFlow {l : Launch} {w : Wt} {hs : Hs} {n : Option Nat}  (x y : Int32) : Cn l w mX6_isFlow 0 0 [.int x, .int y] hs n hs n (some (.int (bI (decide ((4 ≤ x ∧ x ≤ 40) ∧ (0 ≤ y ∧ y ≤ 5)))))) := by
  refine Cn.of (d := mX6_isFlow) (by decide +kernel) (Nat.le_of_ble_eq_true rfl) ?_
  intro p e R s m args below meth c CX
  replace CX : Ctx p s m args meth c R w RX6 "isFlow" cX6_isFlow 2 (some .boolean) 1 25 0 0 := CX
  show ZW p l e R s m args below meth c w 2 _ _ 0 0 (MQ below (Qn w _ _ _) args s 0 0 (wA w)) 0 [(0, .int x), (1, .int y)] []
  refine z_iload_n CX 0 dX6_isFlow_0 rfl rfl ?_
  refine z_i2l CX dX6_isFlow_1 rfl ?_
  refine z_ldc2 CX (v := 4) dX6_isFlow_2 (wa_mem 1039 (by decide +kernel) rfl) ?_
  refine z_ldc2 CX (v := 40) dX6_isFlow_5 (wa_mem 1060 (by decide +kernel) rfl) ?_
  refine z_callS1 CX dX6_isFlow_8 cs_X6_42 (c_in _ _ _) rfl rfl (Nat.le_of_ble_eq_true rfl) ⟨Nat.le_of_ble_eq_true rfl, Nat.le_of_ble_eq_true rfl⟩ ⟨Nat.le_refl _, Nat.le_refl _⟩ ?_
  refine z_if_eq CX 30 dX6_isFlow_11 (by decide) (fun c_11 => ?_) (fun c_11 => ?_)
  · skip
    refine z_iconst CX (v := 0) dX6_isFlow_30 (by decide) ?_
    exact z_zret CX dX6_isFlow_31 rfl (by first | rfl | exact bI_nar _) (congrArg Value.int (bI_0 (fun q => dF c_11 ((inC 4 40 _ _ (by decide) (by decide) x).mpr q.1)))) rfl (Or.inl rfl)
  · skip
    refine z_iload_n CX 1 dX6_isFlow_14 rfl rfl ?_
    refine z_i2l CX dX6_isFlow_15 rfl ?_
    refine z_lconst CX (v := 0) dX6_isFlow_16 (by decide) ?_
    refine z_ldc2 CX (v := 5) dX6_isFlow_17 (wa_mem 1061 (by decide +kernel) rfl) ?_
    refine z_callS1 CX dX6_isFlow_20 cs_X6_42 (c_in _ _ _) rfl rfl (Nat.le_of_ble_eq_true rfl) ⟨Nat.le_of_ble_eq_true rfl, Nat.le_of_ble_eq_true rfl⟩ ⟨Nat.le_refl _, Nat.le_refl _⟩ ?_
    refine z_if_eq CX 30 dX6_isFlow_23 (by decide) (fun c_23 => ?_) (fun c_23 => ?_)
    · skip
      refine z_iconst CX (v := 0) dX6_isFlow_30 (by decide) ?_
      exact z_zret CX dX6_isFlow_31 rfl (by first | rfl | exact bI_nar _) (congrArg Value.int (bI_0 (fun q => dF c_23 ((inC 0 5 _ _ (by decide) (by decide) y).mpr q.2)))) rfl (Or.inl rfl)
    · skip
      refine z_iconst CX (v := 1) dX6_isFlow_26 (by decide) ?_
      refine z_goto CX 31 dX6_isFlow_27 (by decide) ?_
      exact z_zret CX dX6_isFlow_31 rfl (by first | rfl | exact bI_nar _) (congrArg Value.int (bI_1 ⟨(inC 4 40 _ _ (by decide) (by decide) x).mp (dT c_11), (inC 0 5 _ _ (by decide) (by decide) y).mp (dT c_23)⟩)) rfl (Or.inl rfl)
set_option maxHeartbeats 4000000 in
set_option maxRecDepth 100000 in
theorem c_isFolded {l : Launch} {w : Wt} {hs : Hs} {n : Option Nat}  (x y : Int32) : Cn l w mX6_isFolded 0 0 [.int x, .int y] hs n hs n (some (.int (bI (decide ((1 ≤ x ∧ x ≤ 9) ∧ (0 ≤ y ∧ y ≤ 3)))))) := by
  refine Cn.of (d := mX6_isFolded) (by decide +kernel) (Nat.le_of_ble_eq_true rfl) ?_
  intro p e R s m args below meth c CX
  replace CX : Ctx p s m args meth c R w RX6 "isFolded" cX6_isFolded 2 (some .boolean) 1 25 0 0 := CX
  show ZW p l e R s m args below meth c w 2 _ _ 0 0 (MQ below (Qn w _ _ _) args s 0 0 (wA w)) 0 [(0, .int x), (1, .int y)] []
  refine z_iload_n CX 0 dX6_isFolded_0 rfl rfl ?_
  refine z_i2l CX dX6_isFolded_1 rfl ?_
  refine z_lconst CX (v := 1) dX6_isFolded_2 (by decide) ?_
  refine z_ldc2 CX (v := 9) dX6_isFolded_3 (wa_mem 990 (by decide +kernel) rfl) ?_
  refine z_callS1 CX dX6_isFolded_6 cs_X6_42 (c_in _ _ _) rfl rfl (Nat.le_of_ble_eq_true rfl) ⟨Nat.le_of_ble_eq_true rfl, Nat.le_of_ble_eq_true rfl⟩ ⟨Nat.le_refl _, Nat.le_refl _⟩ ?_
  refine z_if_eq CX 28 dX6_isFolded_9 (by decide) (fun c_9 => ?_) (fun c_9 => ?_)
  · skip
    refine z_iconst CX (v := 0) dX6_isFolded_28 (by decide) ?_
    exact z_zret CX dX6_isFolded_29 rfl (by first | rfl | exact bI_nar _) (congrArg Value.int (bI_0 (fun q => dF c_9 ((inC 1 9 _ _ (by decide) (by decide) x).mpr q.1)))) rfl (Or.inl rfl)
  · skip
    refine z_iload_n CX 1 dX6_isFolded_12 rfl rfl ?_
    refine z_i2l CX dX6_isFolded_13 rfl ?_
    refine z_lconst CX (v := 0) dX6_isFolded_14 (by decide) ?_
    refine z_ldc2 CX (v := 3) dX6_isFolded_15 (wa_mem 989 (by decide +kernel) rfl) ?_
    refine z_callS1 CX dX6_isFolded_18 cs_X6_42 (c_in _ _ _) rfl rfl (Nat.le_of_ble_eq_true rfl) ⟨Nat.le_of_ble_eq_true rfl, Nat.le_of_ble_eq_true rfl⟩ ⟨Nat.le_refl _, Nat.le_refl _⟩ ?_
    refine z_if_eq CX 28 dX6_isFolded_21 (by decide) (fun c_21 => ?_) (fun c_21 => ?_)
    · skip
      refine z_iconst CX (v := 0) dX6_isFolded_28 (by decide) ?_
      exact z_zret CX dX6_isFolded_29 rfl (by first | rfl | exact bI_nar _) (congrArg Value.int (bI_0 (fun q => dF c_21 ((inC 0 3 _ _ (by decide) (by decide) y).mpr q.2)))) rfl (Or.inl rfl)
    · skip
      refine z_iconst CX (v := 1) dX6_isFolded_24 (by decide) ?_
      refine z_goto CX 29 dX6_isFolded_25 (by decide) ?_
      exact z_zret CX dX6_isFolded_29 rfl (by first | rfl | exact bI_nar _) (congrArg Value.int (bI_1 ⟨(inC 1 9 _ _ (by decide) (by decide) x).mp (dT c_9), (inC 0 3 _ _ (by decide) (by decide) y).mp (dT c_21)⟩)) rfl (Or.inl rfl)
abbrev isSetP (x y : Int32) : Prop := (x = 0 ∧ 0 ≤ y ∧ y ≤ 3) ∨ (x = 1 ∧ 1 ≤ y ∧ y ≤ 9) ∨ (x = 2 ∧ 0 ≤ y ∧ y ≤ 9)
set_option maxHeartbeats 4000000 in
set_option maxRecDepth 100000 in
theorem c_isSet {l : Launch} {w : Wt} {hs : Hs} {n : Option Nat}  (x y : Int32) : Cn l w mX6_isSetting 0 0 [.int x, .int y] hs n hs n (some (.int (bI (decide (isSetP x y))))) := by
  refine Cn.of (d := mX6_isSetting) (by decide +kernel) (Nat.le_of_ble_eq_true rfl) ?_
  intro p e R s m args below meth c CX
  replace CX : Ctx p s m args meth c R w RX6 "isSetting" cX6_isSetting 2 (some .boolean) 1 25 0 0 := CX
  show ZW p l e R s m args below meth c w 2 _ _ 0 0 (MQ below (Qn w _ _ _) args s 0 0 (wA w)) 0 [(0, .int x), (1, .int y)] []
  refine z_iload_n CX 0 dX6_isSetting_0 rfl rfl ?_
  refine z_if_ne CX 16 dX6_isSetting_1 (by decide) (fun c_1 => ?_) (fun c_1 => ?_)
  · skip
    refine z_iload_n CX 0 dX6_isSetting_16 rfl rfl ?_
    refine z_iconst CX (v := 1) dX6_isSetting_17 (by decide) ?_
    refine z_icmp_ne CX 33 dX6_isSetting_18 (by decide) (fun c_18 => ?_) (fun c_18 => ?_)
    · skip
      refine z_iload_n CX 0 dX6_isSetting_33 rfl rfl ?_
      refine z_iconst CX (v := 2) dX6_isSetting_34 (by decide) ?_
      refine z_icmp_ne CX 54 dX6_isSetting_35 (by decide) (fun c_35 => ?_) (fun c_35 => ?_)
      · skip
        refine z_iconst CX (v := 0) dX6_isSetting_54 (by decide) ?_
        exact z_zret CX dX6_isSetting_55 rfl (by first | rfl | exact bI_nar _) (congrArg Value.int (bI_0 (fun h => by rcases h with h | h | h; exact c_1 h.1; exact c_18 h.1; exact c_35 h.1))) rfl (Or.inl rfl)
      · skip
        refine z_iload_n CX 1 dX6_isSetting_38 rfl rfl ?_
        refine z_i2l CX dX6_isSetting_39 rfl ?_
        refine z_lconst CX (v := 0) dX6_isSetting_40 (by decide) ?_
        refine z_ldc2 CX (v := 9) dX6_isSetting_41 (wa_mem 990 (by decide +kernel) rfl) ?_
        refine z_callS1 CX dX6_isSetting_44 cs_X6_42 (c_in _ _ _) rfl rfl (Nat.le_of_ble_eq_true rfl) ⟨Nat.le_of_ble_eq_true rfl, Nat.le_of_ble_eq_true rfl⟩ ⟨Nat.le_refl _, Nat.le_refl _⟩ ?_
        refine z_if_eq CX 54 dX6_isSetting_47 (by decide) (fun c_47 => ?_) (fun c_47 => ?_)
        · skip
          refine z_iconst CX (v := 0) dX6_isSetting_54 (by decide) ?_
          exact z_zret CX dX6_isSetting_55 rfl (by first | rfl | exact bI_nar _) (congrArg Value.int (bI_0 (fun h => by rcases h with h | h | h; exact c_1 h.1; exact c_18 h.1; exact dF c_47 ((inC 0 9 _ _ (by decide) (by decide) y).mpr h.2)))) rfl (Or.inl rfl)
        · skip
          refine z_iconst CX (v := 1) dX6_isSetting_50 (by decide) ?_
          refine z_goto CX 55 dX6_isSetting_51 (by decide) ?_
          exact z_zret CX dX6_isSetting_55 rfl (by first | rfl | exact bI_nar _) (congrArg Value.int (bI_1 (Or.inr (Or.inr ⟨c_35, (inC 0 9 _ _ (by decide) (by decide) y).mp (dT c_47)⟩)))) rfl (Or.inl rfl)
    · skip
      refine z_iload_n CX 1 dX6_isSetting_21 rfl rfl ?_
      refine z_i2l CX dX6_isSetting_22 rfl ?_
      refine z_lconst CX (v := 1) dX6_isSetting_23 (by decide) ?_
      refine z_ldc2 CX (v := 9) dX6_isSetting_24 (wa_mem 990 (by decide +kernel) rfl) ?_
      refine z_callS1 CX dX6_isSetting_27 cs_X6_42 (c_in _ _ _) rfl rfl (Nat.le_of_ble_eq_true rfl) ⟨Nat.le_of_ble_eq_true rfl, Nat.le_of_ble_eq_true rfl⟩ ⟨Nat.le_refl _, Nat.le_refl _⟩ ?_
      refine z_goto CX 55 dX6_isSetting_30 (by decide) ?_
      exact z_zret CX dX6_isSetting_55 rfl (by first | rfl | exact bI_nar _) (congrArg Value.int (bI_c (Iff.trans ⟨fun h => (by rcases h with h | h | h; exact absurd (c_18.symm.trans h.1) (by decide); exact h.2; exact absurd (c_18.symm.trans h.1) (by decide)), fun h => Or.inr (Or.inl ⟨c_18, h⟩)⟩ (inC 1 9 _ _ (by decide) (by decide) y).symm))) rfl (Or.inl rfl)
  · skip
    refine z_iload_n CX 1 dX6_isSetting_4 rfl rfl ?_
    refine z_i2l CX dX6_isSetting_5 rfl ?_
    refine z_lconst CX (v := 0) dX6_isSetting_6 (by decide) ?_
    refine z_ldc2 CX (v := 3) dX6_isSetting_7 (wa_mem 989 (by decide +kernel) rfl) ?_
    refine z_callS1 CX dX6_isSetting_10 cs_X6_42 (c_in _ _ _) rfl rfl (Nat.le_of_ble_eq_true rfl) ⟨Nat.le_of_ble_eq_true rfl, Nat.le_of_ble_eq_true rfl⟩ ⟨Nat.le_refl _, Nat.le_refl _⟩ ?_
    refine z_goto CX 55 dX6_isSetting_13 (by decide) ?_
    exact z_zret CX dX6_isSetting_55 rfl (by first | rfl | exact bI_nar _) (congrArg Value.int (bI_c (Iff.trans ⟨fun h => (by rcases h with h | h | h; exact h.2; exact absurd (c_1.symm.trans h.1) (by decide); exact absurd (c_1.symm.trans h.1) (by decide)), fun h => Or.inl ⟨c_1, h⟩⟩ (inC 0 3 _ _ (by decide) (by decide) y).symm))) rfl (Or.inl rfl)
