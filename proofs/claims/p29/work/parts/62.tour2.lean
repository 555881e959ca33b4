/-! the tournament: queries -/
theorem is3 {i : Nat} (h : i < 3) : i = 0 ∨ i = 1 ∨ i = 2 := by omega
set_option maxHeartbeats 4000000 in
set_option maxRecDepth 100000 in
theorem t_setN {l : Launch} {w : Wt} {hs : Hs} {n : Option Nat} {k : Nat} {f : Nat → Int32} {x : Int32} {z : Nat → Nat → Int32} {i : Nat} (hi : i < 3) : Cn l w mX4_settingNow 0 0 [.ref (wB w + k), .int (nI i)] (TH w hs k f x z) n (TH w hs k f x z) n (some (.int (f (154 + i)))) := by
  rcases is3 hi with e | e | e
  · subst e
    refine Cn.of (d := mX4_settingNow) (by decide +kernel) (Nat.le_of_ble_eq_true rfl) ?_
    intro p e R s m args below meth c CX
    replace CX : Ctx p s m args meth c R w RX4 "settingNow" cX4_settingNow 2 (some .int) 0 0 0 0 := CX
    show ZW p l e R s m args below meth c w 2 _ _ 0 0 (MQ below (Qn w _ _ _) args s 0 0 (wA w)) 0 [(0, .ref (wB w + k)), (1, .int _)] []
    refine z_iload_n CX 1 dX4_settingNow_0 rfl rfl ?_
    refine z_if_ne CX 9 dX4_settingNow_1 (by decide) (fun q9 => absurd q9 (fun q => q rfl)) (fun _ => ?_)
    refine z_aload_n CX 0 dX4_settingNow_4 rfl rfl ?_
    refine z_get CX dX4_settingNow_5 fg_X4_41 to_0 rfl ?_
    exact z_iret CX dX4_settingNow_8 rfl rfl rfl (Or.inl rfl)
  · subst e
    refine Cn.of (d := mX4_settingNow) (by decide +kernel) (Nat.le_of_ble_eq_true rfl) ?_
    intro p e R s m args below meth c CX
    replace CX : Ctx p s m args meth c R w RX4 "settingNow" cX4_settingNow 2 (some .int) 0 0 0 0 := CX
    show ZW p l e R s m args below meth c w 2 _ _ 0 0 (MQ below (Qn w _ _ _) args s 0 0 (wA w)) 0 [(0, .ref (wB w + k)), (1, .int _)] []
    refine z_iload_n CX 1 dX4_settingNow_0 rfl rfl ?_
    refine z_if_ne CX 9 dX4_settingNow_1 (by decide) (fun _ => ?_) (fun q9 => absurd q9 (by decide))
    refine z_iload_n CX 1 dX4_settingNow_9 rfl rfl ?_
    refine z_iconst CX (v := 1) dX4_settingNow_10 (by decide) ?_
    refine z_icmp_ne CX 21 dX4_settingNow_11 (by decide) (fun q9 => absurd q9 (fun q => q rfl)) (fun _ => ?_)
    refine z_aload_n CX 0 dX4_settingNow_14 rfl rfl ?_
    refine z_get CX dX4_settingNow_15 fg_X4_44 to_0 rfl ?_
    refine z_goto CX 25 dX4_settingNow_18 (by decide) ?_
    exact z_iret CX dX4_settingNow_25 rfl rfl rfl (Or.inl rfl)
  · subst e
    refine Cn.of (d := mX4_settingNow) (by decide +kernel) (Nat.le_of_ble_eq_true rfl) ?_
    intro p e R s m args below meth c CX
    replace CX : Ctx p s m args meth c R w RX4 "settingNow" cX4_settingNow 2 (some .int) 0 0 0 0 := CX
    show ZW p l e R s m args below meth c w 2 _ _ 0 0 (MQ below (Qn w _ _ _) args s 0 0 (wA w)) 0 [(0, .ref (wB w + k)), (1, .int _)] []
    refine z_iload_n CX 1 dX4_settingNow_0 rfl rfl ?_
    refine z_if_ne CX 9 dX4_settingNow_1 (by decide) (fun _ => ?_) (fun q9 => absurd q9 (by decide))
    refine z_iload_n CX 1 dX4_settingNow_9 rfl rfl ?_
    refine z_iconst CX (v := 1) dX4_settingNow_10 (by decide) ?_
    refine z_icmp_ne CX 21 dX4_settingNow_11 (by decide) (fun _ => ?_) (fun q9 => absurd q9 (by decide))
    refine z_aload_n CX 0 dX4_settingNow_21 rfl rfl ?_
    refine z_get CX dX4_settingNow_22 fg_X4_47 to_0 rfl ?_
    exact z_iret CX dX4_settingNow_25 rfl rfl rfl (Or.inl rfl)
set_option maxHeartbeats 4000000 in
set_option maxRecDepth 100000 in
theorem t_nxG {l : Launch} {w : Wt} {hs : Hs} {n : Option Nat} {k : Nat} {f : Nat → Int32} {x : Int32} {z : Nat → Nat → Int32} (hR : RIs f) {i : Nat} (hi : i < gN f) (y : Int32) : Cn l w mX4_nextGutter 0 0 [.ref (wB w + k), .int (nI i), .int y] (TH w hs k f x z) n (TH w hs k f x z) n (some (.int (if y + 1 < f (4 * i + 0) then nI i else f (4 * i + 2)))) := by
  have h6 := hR.1.2.1
  refine Cn.of (d := mX4_nextGutter) (by decide +kernel) (Nat.le_of_ble_eq_true rfl) ?_
  intro p e R s m args below meth c CX
  replace CX : Ctx p s m args meth c R w RX4 "nextGutter" cX4_nextGutter 3 (some .int) 1 23 0 0 := CX
  show ZW p l e R s m args below meth c w 3 _ _ 0 0 (MQ below (Qn w _ _ _) args s 0 0 (wA w)) 0 [(0, .ref (wB w + k)), (1, .int _), (2, .int _)] []
  refine z_iload_n CX 2 dX4_nextGutter_0 rfl rfl ?_
  refine z_iconst CX (v := 1) dX4_nextGutter_1 (by decide) ?_
  refine z_iadd CX dX4_nextGutter_2 ?_
  refine z_aload_n CX 0 dX4_nextGutter_3 rfl rfl ?_
  refine z_get CX dX4_nextGutter_4 fg_X4_14 to_0 rfl ?_
  refine z_iload_n CX 1 dX4_nextGutter_7 rfl rfl ?_
  refine z_iconst CX (v := 0) dX4_nextGutter_8 (by decide) ?_
  refine z_callV1 CX dX4_nextGutter_9 cv_X4_71 (hG_at hR (b := i) (c := 0) (by omega) (by omega)) to_1 rfl rfl (Nat.le_of_ble_eq_true rfl) ⟨Nat.le_of_ble_eq_true rfl, Nat.le_of_ble_eq_true rfl⟩ ⟨Nat.le_refl _, Nat.le_refl _⟩ ?_
  refine z_icmp_ge CX 19 dX4_nextGutter_12 (by decide) (fun c_12 => ?_) (fun c_12 => ?_)
  · skip
    refine z_aload_n CX 0 dX4_nextGutter_19 rfl rfl ?_
    refine z_get CX dX4_nextGutter_20 fg_X4_14 to_0 rfl ?_
    refine z_iload_n CX 1 dX4_nextGutter_23 rfl rfl ?_
    refine z_iconst CX (v := 2) dX4_nextGutter_24 (by decide) ?_
    refine z_callV1 CX dX4_nextGutter_25 cv_X4_71 (hG_at hR (b := i) (c := 2) (by omega) (by omega)) to_1 rfl rfl (Nat.le_of_ble_eq_true rfl) ⟨Nat.le_of_ble_eq_true rfl, Nat.le_of_ble_eq_true rfl⟩ ⟨Nat.le_refl _, Nat.le_refl _⟩ ?_
    exact z_iret CX dX4_nextGutter_28 rfl (congrArg Value.int (by rw [if_neg (Int32.not_lt.mpr c_12)])) rfl (Or.inl rfl)
  · skip
    refine z_iload_n CX 1 dX4_nextGutter_15 rfl rfl ?_
    refine z_goto CX 28 dX4_nextGutter_16 (by decide) ?_
    exact z_iret CX dX4_nextGutter_28 rfl (congrArg Value.int (by rw [if_pos (Int32.not_le.mp c_12)])) rfl (Or.inl rfl)
set_option maxHeartbeats 4000000 in
set_option maxRecDepth 100000 in
theorem t_nxC {l : Launch} {w : Wt} {hs : Hs} {n : Option Nat} {k : Nat} {f : Nat → Int32} {x : Int32} {z : Nat → Nat → Int32} (hR : RIs f) {i : Nat} (hi : i < gN f) (y : Int32) : Cn l w mX4_nextCell 0 0 [.ref (wB w + k), .int (nI i), .int y] (TH w hs k f x z) n (TH w hs k f x z) n (some (.int (if y + 1 < f (4 * i + 0) then y + 1 else f (4 * i + 3)))) := by
  have h6 := hR.1.2.1
  refine Cn.of (d := mX4_nextCell) (by decide +kernel) (Nat.le_of_ble_eq_true rfl) ?_
  intro p e R s m args below meth c CX
  replace CX : Ctx p s m args meth c R w RX4 "nextCell" cX4_nextCell 3 (some .int) 1 23 0 0 := CX
  show ZW p l e R s m args below meth c w 3 _ _ 0 0 (MQ below (Qn w _ _ _) args s 0 0 (wA w)) 0 [(0, .ref (wB w + k)), (1, .int _), (2, .int _)] []
  refine z_iload_n CX 2 dX4_nextCell_0 rfl rfl ?_
  refine z_iconst CX (v := 1) dX4_nextCell_1 (by decide) ?_
  refine z_iadd CX dX4_nextCell_2 ?_
  refine z_aload_n CX 0 dX4_nextCell_3 rfl rfl ?_
  refine z_get CX dX4_nextCell_4 fg_X4_14 to_0 rfl ?_
  refine z_iload_n CX 1 dX4_nextCell_7 rfl rfl ?_
  refine z_iconst CX (v := 0) dX4_nextCell_8 (by decide) ?_
  refine z_callV1 CX dX4_nextCell_9 cv_X4_71 (hG_at hR (b := i) (c := 0) (by omega) (by omega)) to_1 rfl rfl (Nat.le_of_ble_eq_true rfl) ⟨Nat.le_of_ble_eq_true rfl, Nat.le_of_ble_eq_true rfl⟩ ⟨Nat.le_refl _, Nat.le_refl _⟩ ?_
  refine z_icmp_ge CX 21 dX4_nextCell_12 (by decide) (fun c_12 => ?_) (fun c_12 => ?_)
  · skip
    refine z_aload_n CX 0 dX4_nextCell_21 rfl rfl ?_
    refine z_get CX dX4_nextCell_22 fg_X4_14 to_0 rfl ?_
    refine z_iload_n CX 1 dX4_nextCell_25 rfl rfl ?_
    refine z_iconst CX (v := 3) dX4_nextCell_26 (by decide) ?_
    refine z_callV1 CX dX4_nextCell_27 cv_X4_71 (hG_at hR (b := i) (c := 3) (by omega) (by omega)) to_1 rfl rfl (Nat.le_of_ble_eq_true rfl) ⟨Nat.le_of_ble_eq_true rfl, Nat.le_of_ble_eq_true rfl⟩ ⟨Nat.le_refl _, Nat.le_refl _⟩ ?_
    exact z_iret CX dX4_nextCell_30 rfl (congrArg Value.int (by rw [if_neg (Int32.not_lt.mpr c_12)])) rfl (Or.inl rfl)
  · skip
    refine z_iload_n CX 2 dX4_nextCell_15 rfl rfl ?_
    refine z_iconst CX (v := 1) dX4_nextCell_16 (by decide) ?_
    refine z_iadd CX dX4_nextCell_17 ?_
    refine z_goto CX 30 dX4_nextCell_18 (by decide) ?_
    exact z_iret CX dX4_nextCell_30 rfl (congrArg Value.int (by rw [if_pos (Int32.not_le.mp c_12)])) rfl (Or.inl rfl)
set_option maxHeartbeats 4000000 in
set_option maxRecDepth 100000 in
theorem t_hasW {l : Launch} {w : Wt} {hs : Hs} {n : Option Nat} {k : Nat} {f : Nat → Int32} {x : Int32} {z : Nat → Nat → Int32} (hR : RIs f) (y v : Int32) : Cn l w mX4_hasWreck 0 0 [.ref (wB w + k), .int y, .int v] (TH w hs k f x z) n (TH w hs k f x z) n (some (.int (bI (wrk f (bN f) y v)))) := by
  refine Cn.of (d := mX4_hasWreck) (by decide +kernel) (Nat.le_of_ble_eq_true rfl) ?_
  intro p e R s m args below meth c CX
  replace CX : Ctx p s m args meth c R w RX4 "hasWreck" cX4_hasWreck 4 (some .boolean) 1 23 0 0 := CX
  show ZW p l e R s m args below meth c w 4 _ _ 0 0 (MQ below (Qn w _ _ _) args s 0 0 (wA w)) 0 [(0, .ref (wB w + k)), (1, .int _), (2, .int _)] []
  have h9 := hR.2.2.1
  have LP : ∀ (j i : Nat), i + j = bN f → anyN (fun b => decide (f (24 + 10 * b + 3) = 3 ∧ f (24 + 10 * b + 4) = y ∧ f (24 + 10 * b + 5) = v)) i = false → ZW p l e R s m args below meth c w 4 (TH w hs k f x z) n 0 0 (MQ below (Qn w (TH w hs k f x z) n (some (.int (bI (wrk f (bN f) y v))))) args s 0 0 (wA w)) 2 [(0, .ref (wB w + k)), (1, .int y), (2, .int v), (3, .int (nI i))] [] := by
    intro j
    induction j with
    | zero =>
      intro i hi hn
      refine z_iload_n CX 3 dX4_hasWreck_2 rfl rfl ?_
      refine z_aload_n CX 0 dX4_hasWreck_3 rfl rfl ?_
      refine z_get CX dX4_hasWreck_4 fg_X4_20 to_0 rfl ?_
      refine z_get CX dX4_hasWreck_7 fg_X4_29 to_3 rfl ?_
      refine z_icmp_ge CX 60 dX4_hasWreck_10 (by decide) (fun _ => ?_) (fun q9 => absurd (show nI (bN f) ≤ nI i from nI_le (by omega) (by omega)) q9)
      refine z_iconst CX (v := 0) dX4_hasWreck_60 (by decide) ?_
      exact z_zret CX dX4_hasWreck_61 rfl (by first | rfl | exact bI_nar _) (congrArg Value.int (by rw [show wrk f (bN f) y v = false from (show i = bN f by omega) ▸ hn]; rfl)) rfl (Or.inl rfl)
    | succ j ih =>
      intro i hi hn
      refine z_iload_n CX 3 dX4_hasWreck_2 rfl rfl ?_
      refine z_aload_n CX 0 dX4_hasWreck_3 rfl rfl ?_
      refine z_get CX dX4_hasWreck_4 fg_X4_20 to_0 rfl ?_
      refine z_get CX dX4_hasWreck_7 fg_X4_29 to_3 rfl ?_
      refine z_icmp_ge CX 60 dX4_hasWreck_10 (by decide) (fun q9 => absurd q9 (show ¬ nI (bN f) ≤ nI i from nI_ge (by omega) (by omega))) (fun _ => ?_)
      refine z_aload_n CX 0 dX4_hasWreck_13 rfl rfl ?_
      refine z_get CX dX4_hasWreck_14 fg_X4_20 to_0 rfl ?_
      refine z_iload_n CX 3 dX4_hasWreck_17 rfl rfl ?_
      refine z_iconst CX (v := 3) dX4_hasWreck_18 (by decide) ?_
      refine z_callV1 CX dX4_hasWreck_19 cv_X4_71 (hB_o hR (b := i) (c := 3) (by omega) (by omega) (by decide)) to_3 rfl rfl (Nat.le_of_ble_eq_true rfl) ⟨Nat.le_of_ble_eq_true rfl, Nat.le_of_ble_eq_true rfl⟩ ⟨Nat.le_refl _, Nat.le_refl _⟩ ?_
      refine z_iconst CX (v := 3) dX4_hasWreck_22 (by decide) ?_
      refine z_icmp_ne CX 54 dX4_hasWreck_23 (by decide) (fun c_23 => ?_) (fun c_23 => ?_)
      · skip
        refine z_iinc CX (v := nI (i + 1)) dX4_hasWreck_54 rfl (nI_1 i) (by decide) ?_
        refine z_goto CX 2 dX4_hasWreck_57 (by decide) ?_
        refine z_loc [(0, .ref (wB w + k)), (1, .int y), (2, .int v), (3, .int (nI (i + 1)))] ⟨rfl, rfl, rfl, rfl, trivial⟩ ?_
        exact ih (i + 1) (by omega) (anyN_f hn (decide_eq_false (fun q => c_23 q.1)))
      · skip
        refine z_aload_n CX 0 dX4_hasWreck_26 rfl rfl ?_
        refine z_get CX dX4_hasWreck_27 fg_X4_20 to_0 rfl ?_
        refine z_iload_n CX 3 dX4_hasWreck_30 rfl rfl ?_
        refine z_iconst CX (v := 4) dX4_hasWreck_31 (by decide) ?_
        refine z_callV1 CX dX4_hasWreck_32 cv_X4_71 (hB_4 hR (b := i) (by omega) (Or.inr c_23)) to_3 rfl rfl (Nat.le_of_ble_eq_true rfl) ⟨Nat.le_of_ble_eq_true rfl, Nat.le_of_ble_eq_true rfl⟩ ⟨Nat.le_refl _, Nat.le_refl _⟩ ?_
        refine z_iload_n CX 1 dX4_hasWreck_35 rfl rfl ?_
        refine z_icmp_ne CX 54 dX4_hasWreck_36 (by decide) (fun c_36 => ?_) (fun c_36 => ?_)
        · skip
          refine z_iinc CX (v := nI (i + 1)) dX4_hasWreck_54 rfl (nI_1 i) (by decide) ?_
          refine z_goto CX 2 dX4_hasWreck_57 (by decide) ?_
          refine z_loc [(0, .ref (wB w + k)), (1, .int y), (2, .int v), (3, .int (nI (i + 1)))] ⟨rfl, rfl, rfl, rfl, trivial⟩ ?_
          exact ih (i + 1) (by omega) (anyN_f hn (decide_eq_false (fun q => c_36 q.2.1)))
        · skip
          refine z_aload_n CX 0 dX4_hasWreck_39 rfl rfl ?_
          refine z_get CX dX4_hasWreck_40 fg_X4_20 to_0 rfl ?_
          refine z_iload_n CX 3 dX4_hasWreck_43 rfl rfl ?_
          refine z_iconst CX (v := 5) dX4_hasWreck_44 (by decide) ?_
          refine z_callV1 CX dX4_hasWreck_45 cv_X4_71 (hB_5 hR (b := i) (by omega) (Or.inr c_23)) to_3 rfl rfl (Nat.le_of_ble_eq_true rfl) ⟨Nat.le_of_ble_eq_true rfl, Nat.le_of_ble_eq_true rfl⟩ ⟨Nat.le_refl _, Nat.le_refl _⟩ ?_
          refine z_iload_n CX 2 dX4_hasWreck_48 rfl rfl ?_
          refine z_icmp_ne CX 54 dX4_hasWreck_49 (by decide) (fun c_49 => ?_) (fun c_49 => ?_)
          · skip
            refine z_iinc CX (v := nI (i + 1)) dX4_hasWreck_54 rfl (nI_1 i) (by decide) ?_
            refine z_goto CX 2 dX4_hasWreck_57 (by decide) ?_
            refine z_loc [(0, .ref (wB w + k)), (1, .int y), (2, .int v), (3, .int (nI (i + 1)))] ⟨rfl, rfl, rfl, rfl, trivial⟩ ?_
            exact ih (i + 1) (by omega) (anyN_f hn (decide_eq_false (fun q => c_49 q.2.2)))
          · skip
            refine z_iconst CX (v := 1) dX4_hasWreck_52 (by decide) ?_
            exact z_zret CX dX4_hasWreck_53 rfl (by first | rfl | exact bI_nar _) (congrArg Value.int (by rw [show wrk f (bN f) y v = true from (anyN_iff _ _).mpr ⟨i, by omega, decide_eq_true ⟨c_23, c_36, c_49⟩⟩]; rfl)) rfl (Or.inl rfl)
  refine z_iconst CX (v := 0) dX4_hasWreck_0 (by decide) ?_
  refine z_istore_n CX 3 dX4_hasWreck_1 rfl (by decide) ?_
  refine z_loc [(0, .ref (wB w + k)), (1, .int y), (2, .int v), (3, .int (nI 0))] ⟨rfl, rfl, rfl, rfl, trivial⟩ ?_
  exact LP (bN f) 0 (by omega) rfl
set_option maxHeartbeats 4000000 in
set_option maxRecDepth 100000 in
theorem t_soakL {l : Launch} {w : Wt} {hs : Hs} {n : Option Nat} {k : Nat} {f : Nat → Int32} {x : Int32} {z : Nat → Nat → Int32} (hR : RIs f) {b : Nat} (hb : b < bN f) : Cn l w mX4_soakLimit 0 0 [.ref (wB w + k), .int (nI b)] (TH w hs k f x z) n (TH w hs k f x z) n (some (.int (bea f b))) := by
  have h9 := hR.2.2.1
  refine Cn.of (d := mX4_soakLimit) (by decide +kernel) (Nat.le_of_ble_eq_true rfl) ?_
  intro p e R s m args below meth c CX
  replace CX : Ctx p s m args meth c R w RX4 "soakLimit" cX4_soakLimit 2 (some .int) 1 23 0 0 := CX
  show ZW p l e R s m args below meth c w 2 _ _ 0 0 (MQ below (Qn w _ _ _) args s 0 0 (wA w)) 0 [(0, .ref (wB w + k)), (1, .int _)] []
  refine z_aload_n CX 0 dX4_soakLimit_0 rfl rfl ?_
  refine z_get CX dX4_soakLimit_1 fg_X4_20 to_0 rfl ?_
  refine z_iload_n CX 1 dX4_soakLimit_4 rfl rfl ?_
  refine z_iconst CX (v := 0) dX4_soakLimit_5 (by decide) ?_
  refine z_callV1 CX dX4_soakLimit_6 cv_X4_71 (hB_o hR (b := b) (c := 0) (by omega) (by omega) (by decide)) to_3 rfl rfl (Nat.le_of_ble_eq_true rfl) ⟨Nat.le_of_ble_eq_true rfl, Nat.le_of_ble_eq_true rfl⟩ ⟨Nat.le_refl _, Nat.le_refl _⟩ ?_
  refine z_aload_n CX 0 dX4_soakLimit_9 rfl rfl ?_
  refine z_get CX dX4_soakLimit_10 fg_X4_44 to_0 rfl ?_
  refine z_imul CX dX4_soakLimit_13 ?_
  refine z_iconst CX (v := 4) dX4_soakLimit_14 (by decide) ?_
  refine z_aload_n CX 0 dX4_soakLimit_15 rfl rfl ?_
  refine z_get CX dX4_soakLimit_16 fg_X4_20 to_0 rfl ?_
  refine z_iload_n CX 1 dX4_soakLimit_19 rfl rfl ?_
  refine z_iconst CX (v := 1) dX4_soakLimit_20 (by decide) ?_
  refine z_callV1 CX dX4_soakLimit_21 cv_X4_71 (hB_o hR (b := b) (c := 1) (by omega) (by omega) (by decide)) to_3 rfl rfl (Nat.le_of_ble_eq_true rfl) ⟨Nat.le_of_ble_eq_true rfl, Nat.le_of_ble_eq_true rfl⟩ ⟨Nat.le_refl _, Nat.le_refl _⟩ ?_
  refine z_imul CX dX4_soakLimit_24 ?_
  refine z_iadd CX dX4_soakLimit_25 ?_
  exact z_iret CX dX4_soakLimit_26 rfl rfl rfl (Or.inl rfl)
theorem drn_z {f : Nat → Int32} {k : Nat} {sm c : Int32} : drn f k sm 0 c = sm + (f 0 - c) := by
  have e : sm + f 0 - c = sm + (f 0 - c) := by rw [Int32.sub_eq_add_neg, Int32.sub_eq_add_neg, Int32.add_assoc]
  cases k with
  | zero => exact e
  | succ k => exact (if_pos rfl).trans e
set_option maxHeartbeats 4000000 in
set_option maxRecDepth 100000 in
theorem t_wayG {l : Launch} {w : Wt} {hs : Hs} {n : Option Nat} {k : Nat} {f : Nat → Int32} {x : Int32} {z : Nat → Nat → Int32} (hR : RIs f) {g0 : Nat} (hg0 : g0 < gN f) (c0 : Int32) : Cn l w mX4_wayByGutters 0 0 [.ref (wB w + k), .int (nI g0), .int c0] (TH w hs k f x z) n (TH w hs k f x z) n (some (.int (drn f 6 0 g0 c0))) := by
  refine Cn.of (d := mX4_wayByGutters) (by decide +kernel) (Nat.le_of_ble_eq_true rfl) ?_
  intro p e R s m args below meth c CX
  replace CX : Ctx p s m args meth c R w RX4 "wayByGutters" cX4_wayByGutters 7 (some .int) 1 23 0 0 := CX
  show ZW p l e R s m args below meth c w 7 _ _ 0 0 (MQ below (Qn w _ _ _) args s 0 0 (wA w)) 0 [(0, .ref (wB w + k)), (1, .int _), (2, .int _)] []
  have h6 := hR.1.2.1
  have LP : ∀ (m9 q i : Nat) (sm y v : Int32), q ≤ m9 → q < gN f → i + q ≤ 5 → drn f m9 sm q y = v → ZW p l e R s m args below meth c w 7 (TH w hs k f x z) n 0 0 (MQ below (Qn w (TH w hs k f x z) n (some (.int v))) args s 0 0 (wA w)) 18 [(0, .ref (wB w + k)), (1, .int (nI g0)), (2, .int c0), (3, .int (sm + (f (4 * q + 0) - y))), (4, .int (nI q)), (5, .int (nI i))] [] := by
    intro m9
    induction m9 with
    | zero =>
      intro q i sm y v h1 hq hi hv
      have e0 : q = 0 := by omega
      subst e0
      refine z_iload CX dX4_wayByGutters_18 rfl ?_
      refine z_bipush CX (v := 6) dX4_wayByGutters_20 (by decide) ?_
      refine z_icmp_ge CX 85 dX4_wayByGutters_22 (by decide) (fun q9 => absurd q9 (nI_ge (b := 6) (by omega) (by omega))) (fun _ => ?_)
      refine z_aload_n CX 0 dX4_wayByGutters_25 rfl rfl ?_
      refine z_get CX dX4_wayByGutters_26 fg_X4_14 to_0 rfl ?_
      refine z_iload CX dX4_wayByGutters_29 rfl ?_
      refine z_iconst CX (v := 2) dX4_wayByGutters_31 (by decide) ?_
      refine z_callV1 CX dX4_wayByGutters_32 cv_X4_71 (hG_at hR (b := 0) (c := 2) (by omega) (by omega)) to_1 rfl rfl (Nat.le_of_ble_eq_true rfl) ⟨Nat.le_of_ble_eq_true rfl, Nat.le_of_ble_eq_true rfl⟩ ⟨Nat.le_refl _, Nat.le_refl _⟩ ?_
      refine z_iconst CX (v := (-1 : Int32)) dX4_wayByGutters_35 (by decide) ?_
      refine z_icmp_eq CX 85 dX4_wayByGutters_36 (by decide) (fun _ => ?_) (fun q9 => absurd (hR.1.2.2.1 hq).1 q9)
      refine z_iload_n CX 3 dX4_wayByGutters_85 rfl rfl ?_
      exact z_iret CX dX4_wayByGutters_86 rfl (congrArg Value.int (by rw [← hv]; exact drn_z)) rfl (Or.inl rfl)
    | succ m9 ih =>
      intro q i sm y v h1 hq hi hv
      by_cases e0 : q = 0
      · subst e0
        refine z_iload CX dX4_wayByGutters_18 rfl ?_
        refine z_bipush CX (v := 6) dX4_wayByGutters_20 (by decide) ?_
        refine z_icmp_ge CX 85 dX4_wayByGutters_22 (by decide) (fun q9 => absurd q9 (nI_ge (b := 6) (by omega) (by omega))) (fun _ => ?_)
        refine z_aload_n CX 0 dX4_wayByGutters_25 rfl rfl ?_
        refine z_get CX dX4_wayByGutters_26 fg_X4_14 to_0 rfl ?_
        refine z_iload CX dX4_wayByGutters_29 rfl ?_
        refine z_iconst CX (v := 2) dX4_wayByGutters_31 (by decide) ?_
        refine z_callV1 CX dX4_wayByGutters_32 cv_X4_71 (hG_at hR (b := 0) (c := 2) (by omega) (by omega)) to_1 rfl rfl (Nat.le_of_ble_eq_true rfl) ⟨Nat.le_of_ble_eq_true rfl, Nat.le_of_ble_eq_true rfl⟩ ⟨Nat.le_refl _, Nat.le_refl _⟩ ?_
        refine z_iconst CX (v := (-1 : Int32)) dX4_wayByGutters_35 (by decide) ?_
        refine z_icmp_eq CX 85 dX4_wayByGutters_36 (by decide) (fun _ => ?_) (fun q9 => absurd (hR.1.2.2.1 hq).1 q9)
        refine z_iload_n CX 3 dX4_wayByGutters_85 rfl rfl ?_
        exact z_iret CX dX4_wayByGutters_86 rfl (congrArg Value.int (by rw [← hv]; exact drn_z)) rfl (Or.inl rfl)
      · obtain ⟨i9, a9, L9, b1, b2, b3, b4, b5, b6⟩ := (hR.1.2.2.2 q hq).2.2 (by omega)
        refine z_iload CX dX4_wayByGutters_18 rfl ?_
        refine z_bipush CX (v := 6) dX4_wayByGutters_20 (by decide) ?_
        refine z_icmp_ge CX 85 dX4_wayByGutters_22 (by decide) (fun q9 => absurd q9 (nI_ge (b := 6) (by omega) (by omega))) (fun _ => ?_)
        refine z_aload_n CX 0 dX4_wayByGutters_25 rfl rfl ?_
        refine z_get CX dX4_wayByGutters_26 fg_X4_14 to_0 rfl ?_
        refine z_iload CX dX4_wayByGutters_29 rfl ?_
        refine z_iconst CX (v := 2) dX4_wayByGutters_31 (by decide) ?_
        refine z_callV1 CX dX4_wayByGutters_32 cv_X4_71 (hG_at hR (b := q) (c := 2) (by omega) (by omega)) to_1 rfl rfl (Nat.le_of_ble_eq_true rfl) ⟨Nat.le_of_ble_eq_true rfl, Nat.le_of_ble_eq_true rfl⟩ ⟨Nat.le_refl _, Nat.le_refl _⟩ ?_
        refine z_iconst CX (v := (-1 : Int32)) dX4_wayByGutters_35 (by decide) ?_
        refine z_icmp_eq CX 85 dX4_wayByGutters_36 (by decide) (fun q9 => absurd q9 (by rw [b2]; exact nI_nm1 (by omega))) (fun _ => ?_)
        refine z_aload_n CX 0 dX4_wayByGutters_39 rfl rfl ?_
        refine z_get CX dX4_wayByGutters_40 fg_X4_14 to_0 rfl ?_
        refine z_iload CX dX4_wayByGutters_43 rfl ?_
        refine z_iconst CX (v := 2) dX4_wayByGutters_45 (by decide) ?_
        refine z_callV1 CX dX4_wayByGutters_46 cv_X4_71 (hG_at hR (b := q) (c := 2) (by omega) (by omega)) to_1 rfl rfl (Nat.le_of_ble_eq_true rfl) ⟨Nat.le_of_ble_eq_true rfl, Nat.le_of_ble_eq_true rfl⟩ ⟨Nat.le_refl _, Nat.le_refl _⟩ ?_
        rw [b2]
        refine z_istore CX dX4_wayByGutters_49 (by decide) ?_
        refine z_iload_n CX 3 dX4_wayByGutters_51 rfl rfl ?_
        refine z_aload_n CX 0 dX4_wayByGutters_52 rfl rfl ?_
        refine z_get CX dX4_wayByGutters_53 fg_X4_14 to_0 rfl ?_
        refine z_iload CX dX4_wayByGutters_56 rfl ?_
        refine z_iconst CX (v := 0) dX4_wayByGutters_58 (by decide) ?_
        refine z_callV1 CX dX4_wayByGutters_59 cv_X4_71 (hG_at hR (b := i9) (c := 0) (by omega) (by omega)) to_1 rfl rfl (Nat.le_of_ble_eq_true rfl) ⟨Nat.le_of_ble_eq_true rfl, Nat.le_of_ble_eq_true rfl⟩ ⟨Nat.le_refl _, Nat.le_refl _⟩ ?_
        refine z_aload_n CX 0 dX4_wayByGutters_62 rfl rfl ?_
        refine z_get CX dX4_wayByGutters_63 fg_X4_14 to_0 rfl ?_
        refine z_iload CX dX4_wayByGutters_66 rfl ?_
        refine z_iconst CX (v := 3) dX4_wayByGutters_68 (by decide) ?_
        refine z_callV1 CX dX4_wayByGutters_69 cv_X4_71 (hG_at hR (b := q) (c := 3) (by omega) (by omega)) to_1 rfl rfl (Nat.le_of_ble_eq_true rfl) ⟨Nat.le_of_ble_eq_true rfl, Nat.le_of_ble_eq_true rfl⟩ ⟨Nat.le_refl _, Nat.le_refl _⟩ ?_
        refine z_isub CX dX4_wayByGutters_72 ?_
        refine z_iadd CX dX4_wayByGutters_73 ?_
        refine z_istore_n CX 3 dX4_wayByGutters_74 rfl (by decide) ?_
        refine z_iload CX dX4_wayByGutters_75 rfl ?_
        refine z_istore CX dX4_wayByGutters_77 (by decide) ?_
        refine z_iinc CX (v := nI (i + 1)) dX4_wayByGutters_79 rfl (nI_1 i) (by decide) ?_
        refine z_goto CX 18 dX4_wayByGutters_82 (by decide) ?_
        refine z_loc [(0, .ref (wB w + k)), (1, .int (nI g0)), (2, .int c0), (3, .int ((sm + (f (4 * q + 0) - y)) + (f (4 * i9 + 0) - f (4 * q + 3)))), (4, .int (nI i9)), (5, .int (nI (i + 1)))] ⟨rfl, rfl, rfl, rfl, rfl, rfl, trivial⟩ ?_
        exact ih i9 (i + 1) _ _ v (by omega) (by omega) (by omega) (by rw [← hv, drn_s (fun z => e0 z) b2 (by omega)])
  refine z_aload_n CX 0 dX4_wayByGutters_0 rfl rfl ?_
  refine z_get CX dX4_wayByGutters_1 fg_X4_14 to_0 rfl ?_
  refine z_iload_n CX 1 dX4_wayByGutters_4 rfl rfl ?_
  refine z_iconst CX (v := 0) dX4_wayByGutters_5 (by decide) ?_
  refine z_callV1 CX dX4_wayByGutters_6 cv_X4_71 (hG_at hR (b := g0) (c := 0) (by omega) (by omega)) to_1 rfl rfl (Nat.le_of_ble_eq_true rfl) ⟨Nat.le_of_ble_eq_true rfl, Nat.le_of_ble_eq_true rfl⟩ ⟨Nat.le_refl _, Nat.le_refl _⟩ ?_
  refine z_iload_n CX 2 dX4_wayByGutters_9 rfl rfl ?_
  refine z_isub CX dX4_wayByGutters_10 ?_
  refine z_istore_n CX 3 dX4_wayByGutters_11 rfl (by decide) ?_
  refine z_iload_n CX 1 dX4_wayByGutters_12 rfl rfl ?_
  refine z_istore CX dX4_wayByGutters_13 (by decide) ?_
  refine z_iconst CX (v := 0) dX4_wayByGutters_15 (by decide) ?_
  refine z_istore CX dX4_wayByGutters_16 (by decide) ?_
  rw [show f (4 * g0 + 0) - c0 = 0 + (f (4 * g0 + 0) - c0) from (Int32.zero_add _).symm]
  refine z_loc [(0, .ref (wB w + k)), (1, .int (nI g0)), (2, .int c0), (3, .int (0 + (f (4 * g0 + 0) - c0))), (4, .int (nI g0)), (5, .int (nI 0))] ⟨rfl, rfl, rfl, rfl, rfl, rfl, trivial⟩ ?_
  exact LP 6 g0 0 0 c0 _ (by omega) hg0 (by omega) rfl
theorem drn_d {f : Nat → Int32} {ng : Nat} (hG : GG f ng) : ∀ (k g t c L : Nat), g ≤ k → g < ng → f (4 * g + 0) = nI L → c < L → L ≤ 40 → ∃ d, 1 ≤ d ∧ d ≤ 40 * (k + 1) ∧ drn f k (nI t) g (nI c) = nI (t + d)
  | 0, g, t, c, L, h1, h2, h3, h4, h5 => by
    have e : g = 0 := by omega
    subst e
    refine ⟨L - c, by omega, by omega, ?_⟩
    show nI t + f 0 - nI c = _
    rw [show f 0 = nI L from h3, nI_add, pk_sub (by omega), show t + L - c = t + (L - c) by omega]
  | k + 1, g, t, c, L, h1, h2, h3, h4, h5 => by
    show ∃ d, _ ∧ _ ∧ (if g = 0 then _ else _) = nI (t + d)
    by_cases e : g = 0
    · subst e
      rw [if_pos rfl, show f 0 = nI L from h3, nI_add, pk_sub (by omega)]
      exact ⟨L - c, by omega, by omega, by rw [show t + L - c = t + (L - c) by omega]⟩
    · have h6 := hG.2.1
      obtain ⟨i, a9, L9, i1, e1, e2, e3, e4, e5⟩ := (hG.2.2.2 g h2).2.2 (by omega)
      rw [if_neg e, h3, e1, e2, pk_sub (by omega), nI_add, nI_clamp (by omega)]
      obtain ⟨d, d1, d2, d3⟩ := drn_d hG k i (t + (L - c)) a9 L9 (by omega) (by omega) e3 e4 e5
      exact ⟨L - c + d, by omega, by omega, by rw [d3, show t + (L - c) + d = t + (L - c + d) by omega]⟩
theorem drn_sh {f : Nat → Int32} {k t c : Nat} {g : Nat} : drn f k (nI (t + 1)) g (nI (c + 1)) = drn f k (nI t) g (nI c) := by
  have e : ∀ X : Int32, nI (t + 1) + X - nI (c + 1) = nI t + X - nI c := by
    intro X
    rw [← nI_1, ← nI_1]
    rw [Int32.sub_eq_add_neg, Int32.sub_eq_add_neg, Int32.neg_add, Int32.sub_eq_add_neg]
    rw [show nI t + 1 + X + (-nI c + -1) = nI t + X + -nI c + (1 + -1) by ac_rfl]
    rw [show (1 : Int32) + -1 = 0 by decide, Int32.add_zero]
  have e2 : ∀ X : Int32, nI (t + 1) + (X - nI (c + 1)) = nI t + (X - nI c) := by
    intro X
    have := e X
    rw [Int32.sub_eq_add_neg, Int32.sub_eq_add_neg, Int32.add_assoc, Int32.add_assoc, ← Int32.sub_eq_add_neg, ← Int32.sub_eq_add_neg] at this
    exact this
  cases k with
  | zero => exact e _
  | succ k =>
    show (if _ then _ else _) = (if _ then _ else _)
    rw [e, e2]
set_option maxHeartbeats 4000000 in
set_option maxRecDepth 100000 in
theorem t_wayC {l : Launch} {w : Wt} {hs : Hs} {n : Option Nat} {k : Nat} {f : Nat → Int32} {x : Int32} {z : Nat → Nat → Int32} (hR : RIs f) {g0 c0 L0 : Nat} (hg0 : g0 < gN f) (hL0 : f (4 * g0 + 0) = nI L0) (hc0 : c0 < L0) (h40 : L0 ≤ 40) : Cn l w mX4_wayByCells 0 0 [.ref (wB w + k), .int (nI g0), .int (nI c0)] (TH w hs k f x z) n (TH w hs k f x z) n (some (.int (drn f 6 0 g0 (nI c0)))) := by
  generalize hV : drn f 6 0 g0 (nI c0) = V9
  refine Cn.of (d := mX4_wayByCells) (by decide +kernel) (Nat.le_of_ble_eq_true rfl) ?_
  intro p e R s m args below meth c CX
  replace CX : Ctx p s m args meth c R w RX4 "wayByCells" cX4_wayByCells 7 (some .int) 2 45 0 0 := CX
  show ZW p l e R s m args below meth c w 7 _ _ 0 0 (MQ below (Qn w _ _ _) args s 0 0 (wA w)) 0 [(0, .ref (wB w + k)), (1, .int _), (2, .int _)] []
  have h6 := hR.1.2.1
  have LE : ∀ (t : Nat) (y : Int32), t < 1000 → V9 = nI t → ZW p l e R s m args below meth c w 7 (TH w hs k f x z) n 0 0 (MQ below (Qn w (TH w hs k f x z) n (some (.int V9))) args s 0 0 (wA w)) 8 [(0, .ref (wB w + k)), (1, .int (nI g0)), (2, .int (nI c0)), (3, .int (-1)), (4, .int y), (5, .int (nI t))] [] := by
    intro t y ht hv
    refine z_iload CX dX4_wayByCells_8 rfl ?_
    refine z_sipush CX (v := 1000) dX4_wayByCells_10 (by decide) ?_
    refine z_icmp_ge CX 51 dX4_wayByCells_13 (by decide) (fun q9 => absurd q9 (nI_ge (b := 1000) ht (by omega))) (fun _ => ?_)
    refine z_iload_n CX 3 dX4_wayByCells_16 rfl rfl ?_
    refine z_iconst CX (v := (-1 : Int32)) dX4_wayByCells_17 (by decide) ?_
    refine z_icmp_ne CX 24 dX4_wayByCells_18 (by decide) (fun q9 => absurd q9 (fun q => q rfl)) (fun _ => ?_)
    refine z_iload CX dX4_wayByCells_21 rfl ?_
    exact z_iret CX dX4_wayByCells_23 rfl (congrArg Value.int hv) rfl (Or.inl rfl)
  have LP : ∀ (d t m9 q y9 L : Nat), q ≤ m9 → m9 ≤ 6 → q < gN f → f (4 * q + 0) = nI L → y9 < L → L ≤ 40 → t + d < 1000 → drn f m9 (nI t) q (nI y9) = nI (t + d) → V9 = nI (t + d) → ZW p l e R s m args below meth c w 7 (TH w hs k f x z) n 0 0 (MQ below (Qn w (TH w hs k f x z) n (some (.int V9))) args s 0 0 (wA w)) 8 [(0, .ref (wB w + k)), (1, .int (nI g0)), (2, .int (nI c0)), (3, .int (nI q)), (4, .int (nI y9)), (5, .int (nI t))] [] := by
    intro d
    induction d with
    | zero =>
      intro t m9 q y9 L h1 h16 hq hL hc h40 ht hd hv
      obtain ⟨d, d1, d2, d3⟩ := drn_d hR.1 m9 q t y9 L h1 hq hL hc h40
      rw [hd] at d3
      exfalso
      have := (nI_eq (a := t + 0) (b := t + d) (by omega) (by omega)).mp d3
      omega
    | succ d ih =>
      intro t m9 q y9 L h1 h16 hq hL hc h40 ht hd hv
      by_cases e1 : y9 + 1 < L
      · skip
        refine z_iload CX dX4_wayByCells_8 rfl ?_
        refine z_sipush CX (v := 1000) dX4_wayByCells_10 (by decide) ?_
        refine z_icmp_ge CX 51 dX4_wayByCells_13 (by decide) (fun q9 => absurd q9 (nI_ge (b := 1000) (by omega) (by omega))) (fun _ => ?_)
        refine z_iload_n CX 3 dX4_wayByCells_16 rfl rfl ?_
        refine z_iconst CX (v := (-1 : Int32)) dX4_wayByCells_17 (by decide) ?_
        refine z_icmp_ne CX 24 dX4_wayByCells_18 (by decide) (fun _ => ?_) (fun q9 => absurd q9 (nI_nm1 (by omega)))
        refine z_aload_n CX 0 dX4_wayByCells_24 rfl rfl ?_
        refine z_iload_n CX 3 dX4_wayByCells_25 rfl rfl ?_
        refine z_iload CX dX4_wayByCells_26 rfl ?_
        refine z_callV1 CX dX4_wayByCells_28 cv_X4_161 (t_nxG hR hq _) to_0 rfl rfl (Nat.le_of_ble_eq_true rfl) ⟨Nat.le_of_ble_eq_true rfl, Nat.le_of_ble_eq_true rfl⟩ ⟨Nat.le_refl _, Nat.le_refl _⟩ ?_
        rw [if_pos (show nI y9 + 1 < f (4 * q + 0) by rw [nI_1, hL]; exact nI_lt e1 (by omega))]
        refine z_istore CX dX4_wayByCells_31 (by decide) ?_
        refine z_aload_n CX 0 dX4_wayByCells_33 rfl rfl ?_
        refine z_iload_n CX 3 dX4_wayByCells_34 rfl rfl ?_
        refine z_iload CX dX4_wayByCells_35 rfl ?_
        refine z_callV1 CX dX4_wayByCells_37 cv_X4_164 (t_nxC hR hq _) to_0 rfl rfl (Nat.le_of_ble_eq_true rfl) ⟨Nat.le_of_ble_eq_true rfl, Nat.le_of_ble_eq_true rfl⟩ ⟨Nat.le_refl _, Nat.le_refl _⟩ ?_
        rw [if_pos (show nI y9 + 1 < f (4 * q + 0) by rw [nI_1, hL]; exact nI_lt e1 (by omega))]
        refine z_istore CX dX4_wayByCells_40 (by decide) ?_
        refine z_iload CX dX4_wayByCells_42 rfl ?_
        refine z_istore_n CX 3 dX4_wayByCells_44 rfl (by decide) ?_
        refine z_iinc CX (v := nI (t + 1)) dX4_wayByCells_45 rfl (nI_1 t) (by decide) ?_
        refine z_goto CX 8 dX4_wayByCells_48 (by decide) ?_
        rw [nI_1 y9]
        refine z_loc [(0, .ref (wB w + k)), (1, .int (nI g0)), (2, .int (nI c0)), (3, .int (nI q)), (4, .int (nI (y9 + 1))), (5, .int (nI (t + 1)))] ⟨rfl, rfl, rfl, rfl, rfl, rfl, trivial⟩ ?_
        exact ih (t + 1) m9 q (y9 + 1) L h1 h16 hq hL e1 h40 (by omega) (by rw [drn_sh, hd, show t + 1 + d = t + (d + 1) by omega]) (by rw [hv, show t + 1 + d = t + (d + 1) by omega])
      · by_cases e0 : q = 0
        · subst e0
          have h2 := hR.1.2.2.1 hq
          have eL : d = 0 := by
            have e := hd.symm.trans (drn_z (f := f) (k := m9) (sm := nI t) (c := nI y9))
            rw [show f 0 = nI L from hL, pk_sub (by omega), nI_add] at e
            have := (nI_eq (by omega) (by omega)).mp e
            omega
          refine z_iload CX dX4_wayByCells_8 rfl ?_
          refine z_sipush CX (v := 1000) dX4_wayByCells_10 (by decide) ?_
          refine z_icmp_ge CX 51 dX4_wayByCells_13 (by decide) (fun q9 => absurd q9 (nI_ge (b := 1000) (by omega) (by omega))) (fun _ => ?_)
          refine z_iload_n CX 3 dX4_wayByCells_16 rfl rfl ?_
          refine z_iconst CX (v := (-1 : Int32)) dX4_wayByCells_17 (by decide) ?_
          refine z_icmp_ne CX 24 dX4_wayByCells_18 (by decide) (fun _ => ?_) (fun q9 => absurd q9 (nI_nm1 (by omega)))
          refine z_aload_n CX 0 dX4_wayByCells_24 rfl rfl ?_
          refine z_iload_n CX 3 dX4_wayByCells_25 rfl rfl ?_
          refine z_iload CX dX4_wayByCells_26 rfl ?_
          refine z_callV1 CX dX4_wayByCells_28 cv_X4_161 (t_nxG hR hq _) to_0 rfl rfl (Nat.le_of_ble_eq_true rfl) ⟨Nat.le_of_ble_eq_true rfl, Nat.le_of_ble_eq_true rfl⟩ ⟨Nat.le_refl _, Nat.le_refl _⟩ ?_
          rw [if_neg (show ¬ nI y9 + 1 < f (4 * 0 + 0) by rw [nI_1, hL]; exact nI_nlt (by omega) (by omega))]
          refine z_istore CX dX4_wayByCells_31 (by decide) ?_
          refine z_aload_n CX 0 dX4_wayByCells_33 rfl rfl ?_
          refine z_iload_n CX 3 dX4_wayByCells_34 rfl rfl ?_
          refine z_iload CX dX4_wayByCells_35 rfl ?_
          refine z_callV1 CX dX4_wayByCells_37 cv_X4_164 (t_nxC hR hq _) to_0 rfl rfl (Nat.le_of_ble_eq_true rfl) ⟨Nat.le_of_ble_eq_true rfl, Nat.le_of_ble_eq_true rfl⟩ ⟨Nat.le_refl _, Nat.le_refl _⟩ ?_
          rw [if_neg (show ¬ nI y9 + 1 < f (4 * 0 + 0) by rw [nI_1, hL]; exact nI_nlt (by omega) (by omega))]
          refine z_istore CX dX4_wayByCells_40 (by decide) ?_
          refine z_iload CX dX4_wayByCells_42 rfl ?_
          refine z_istore_n CX 3 dX4_wayByCells_44 rfl (by decide) ?_
          refine z_iinc CX (v := nI (t + 1)) dX4_wayByCells_45 rfl (nI_1 t) (by decide) ?_
          refine z_goto CX 8 dX4_wayByCells_48 (by decide) ?_
          rw [show f (4 * 0 + 2) = -1 from h2.1, show f (4 * 0 + 3) = -1 from h2.2]
          refine z_loc [(0, .ref (wB w + k)), (1, .int (nI g0)), (2, .int (nI c0)), (3, .int (-1)), (4, .int (-1)), (5, .int (nI (t + 1)))] ⟨rfl, rfl, rfl, rfl, rfl, rfl, trivial⟩ ?_
          exact LE (t + 1) _ (by omega) (by rw [hv, eL])
        · obtain ⟨i9, a9, L9, b1, b2, b3, b4, b5, b6⟩ := (hR.1.2.2.2 q hq).2.2 (by omega)
          obtain ⟨m8, rfl⟩ : ∃ m8, m9 = m8 + 1 := ⟨m9 - 1, by omega⟩
          have hd2 : drn f m8 (nI (t + 1)) i9 (nI a9) = nI (t + 1 + d) := by
            rw [drn_s e0 b2 (by omega), hL, b3, pk_sub (by omega), nI_add, show t + (L - y9) = t + 1 by omega] at hd
            rw [hd, show t + 1 + d = t + (d + 1) by omega]
          refine z_iload CX dX4_wayByCells_8 rfl ?_
          refine z_sipush CX (v := 1000) dX4_wayByCells_10 (by decide) ?_
          refine z_icmp_ge CX 51 dX4_wayByCells_13 (by decide) (fun q9 => absurd q9 (nI_ge (b := 1000) (by omega) (by omega))) (fun _ => ?_)
          refine z_iload_n CX 3 dX4_wayByCells_16 rfl rfl ?_
          refine z_iconst CX (v := (-1 : Int32)) dX4_wayByCells_17 (by decide) ?_
          refine z_icmp_ne CX 24 dX4_wayByCells_18 (by decide) (fun _ => ?_) (fun q9 => absurd q9 (nI_nm1 (by omega)))
          refine z_aload_n CX 0 dX4_wayByCells_24 rfl rfl ?_
          refine z_iload_n CX 3 dX4_wayByCells_25 rfl rfl ?_
          refine z_iload CX dX4_wayByCells_26 rfl ?_
          refine z_callV1 CX dX4_wayByCells_28 cv_X4_161 (t_nxG hR hq _) to_0 rfl rfl (Nat.le_of_ble_eq_true rfl) ⟨Nat.le_of_ble_eq_true rfl, Nat.le_of_ble_eq_true rfl⟩ ⟨Nat.le_refl _, Nat.le_refl _⟩ ?_
          rw [if_neg (show ¬ nI y9 + 1 < f (4 * q + 0) by rw [nI_1, hL]; exact nI_nlt (by omega) (by omega))]
          refine z_istore CX dX4_wayByCells_31 (by decide) ?_
          refine z_aload_n CX 0 dX4_wayByCells_33 rfl rfl ?_
          refine z_iload_n CX 3 dX4_wayByCells_34 rfl rfl ?_
          refine z_iload CX dX4_wayByCells_35 rfl ?_
          refine z_callV1 CX dX4_wayByCells_37 cv_X4_164 (t_nxC hR hq _) to_0 rfl rfl (Nat.le_of_ble_eq_true rfl) ⟨Nat.le_of_ble_eq_true rfl, Nat.le_of_ble_eq_true rfl⟩ ⟨Nat.le_refl _, Nat.le_refl _⟩ ?_
          rw [if_neg (show ¬ nI y9 + 1 < f (4 * q + 0) by rw [nI_1, hL]; exact nI_nlt (by omega) (by omega))]
          refine z_istore CX dX4_wayByCells_40 (by decide) ?_
          refine z_iload CX dX4_wayByCells_42 rfl ?_
          refine z_istore_n CX 3 dX4_wayByCells_44 rfl (by decide) ?_
          refine z_iinc CX (v := nI (t + 1)) dX4_wayByCells_45 rfl (nI_1 t) (by decide) ?_
          refine z_goto CX 8 dX4_wayByCells_48 (by decide) ?_
          rw [b2, b3]
          refine z_loc [(0, .ref (wB w + k)), (1, .int (nI g0)), (2, .int (nI c0)), (3, .int (nI i9)), (4, .int (nI a9)), (5, .int (nI (t + 1)))] ⟨rfl, rfl, rfl, rfl, rfl, rfl, trivial⟩ ?_
          exact ih (t + 1) m8 i9 a9 L9 (by omega) (by omega) (by omega) b4 b5 b6 (by omega) hd2 (by rw [hv, show t + 1 + d = t + (d + 1) by omega])
  refine z_iload_n CX 1 dX4_wayByCells_0 rfl rfl ?_
  refine z_istore_n CX 3 dX4_wayByCells_1 rfl (by decide) ?_
  refine z_iload_n CX 2 dX4_wayByCells_2 rfl rfl ?_
  refine z_istore CX dX4_wayByCells_3 (by decide) ?_
  refine z_iconst CX (v := 0) dX4_wayByCells_5 (by decide) ?_
  refine z_istore CX dX4_wayByCells_6 (by decide) ?_
  obtain ⟨d, d1, d2, d3⟩ := drn_d hR.1 6 g0 0 c0 L0 (by omega) hg0 hL0 hc0 h40
  refine z_loc [(0, .ref (wB w + k)), (1, .int (nI g0)), (2, .int (nI c0)), (3, .int (nI g0)), (4, .int (nI c0)), (5, .int (nI 0))] ⟨rfl, rfl, rfl, rfl, rfl, rfl, trivial⟩ ?_
  exact LP d 0 6 g0 c0 L0 (by omega) (by omega) hg0 hL0 hc0 h40 (by omega) d3 (hV.symm.trans d3)
