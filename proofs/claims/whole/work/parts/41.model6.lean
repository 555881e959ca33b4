/-! the model: cells, claims, hooks, new things, launches, settings -/
theorem anyN_f {P : Nat → Bool} {n : Nat} (h : anyN P n = false) (h2 : P n = false) : anyN P (n + 1) = false := by
  show (anyN P n || P n) = false; rw [h, h2]; rfl
theorem anyN_t1 {P : Nat → Bool} {n : Nat} (h : anyN P n = true) : anyN P (n + 1) = true := by
  show (anyN P n || P n) = true; rw [h]; rfl
theorem anyN_t2 {P : Nat → Bool} {n : Nat} (h : P n = true) : anyN P (n + 1) = true := by
  show (anyN P n || P n) = true; rw [h, Bool.or_true]
def icl (f : Nat → Int32) (ng : Nat) (x y : Int32) : Bool := decide (0 ≤ x ∧ x < nI ng) && decide (0 ≤ y ∧ y < f (4 * x.toNatClampNeg + 0))
theorem icl_0 {f : Nat → Int32} {ng : Nat} {x y : Int32} (h : ¬ (0 ≤ x ∧ x < nI ng)) : icl f ng x y = false := by
  unfold icl; rw [decide_eq_false h]; rfl
theorem icl_1 {f : Nat → Int32} {ng i : Nat} {y : Int32} (hi : i < ng) (h9 : ng < 1000) : icl f ng (nI i) y = decide (0 ≤ y ∧ y < f (4 * i + 0)) := by
  unfold icl; rw [decide_eq_true ⟨nI_pos' (by omega), nI_lt hi (by omega)⟩, nI_clamp (by omega)]; rfl
theorem icl_in {f : Nat → Int32} {ng : Nat} {x y : Int32} (hG : GG f ng) (h : icl f ng x y = true) : ∃ g c L, x = nI g ∧ y = nI c ∧ g < ng ∧ f (4 * g + 0) = nI L ∧ c < L ∧ L ≤ 40 := by
  have h6 := hG.2.1
  by_cases h0 : 0 ≤ x ∧ x < nI ng
  · obtain ⟨g, hg, rfl⟩ := nIx (r := ng) (by omega) (Int32.not_lt.mpr h0.1) (Int32.not_le.mpr h0.2)
    rw [icl_1 hg (by omega)] at h
    obtain ⟨L, l1, l2, l3⟩ := (hG.2.2.2 g hg).1
    rw [l3] at h
    have h1 := of_decide_eq_true h
    obtain ⟨c, hc, rfl⟩ := nIx (r := L) (by omega) (Int32.not_lt.mpr h1.1) (Int32.not_le.mpr h1.2)
    exact ⟨g, c, L, rfl, rfl, hg, l3, hc, l2⟩
  · rw [icl_0 h0] at h; cases h
theorem Int32_lt_of {x y : Int32} (h : ¬ y ≤ x) : x < y := Int32.not_le.mp h
set_option maxHeartbeats 4000000 in
set_option maxRecDepth 100000 in
theorem c_isC {l : Launch} {w : Wt} {hs : Hs} {n : Option Nat} {a : Nat} {f : Nat → Int32} {ng : Nat} (hG : GG f ng) (x y : Int32) : Cn l w mX6_isCell 0 0 [.ref (wB w + a), .int x, .int y] (rowH w hs a f) n (rowH w hs a f) n (some (.int (bI (icl f ng x y)))) := by
  refine Cn.of (d := mX6_isCell) (by decide +kernel) (Nat.le_of_ble_eq_true rfl) ?_
  intro p e R s m args below meth c CX
  replace CX : Ctx p s m args meth c R w RX6 "isCell" cX6_isCell 3 (some .boolean) 2 46 0 0 := CX
  show ZW p l e R s m args below meth c w 3 _ _ 0 0 (MQ below (Qn w _ _ _) args s 0 0 (wA w)) 0 [(0, .ref (wB w + a)), (1, .int x), (2, .int y)] []
  refine z_aload_n CX 0 dX6_isCell_0 rfl rfl ?_
  refine z_iload_n CX 1 dX6_isCell_1 rfl rfl ?_
  refine z_callS1 CX dX6_isCell_2 cs_X6_46 (c_isG hG.1 (by have := hG.2.1; omega) _) rfl rfl (Nat.le_of_ble_eq_true rfl) ⟨Nat.le_of_ble_eq_true rfl, Nat.le_of_ble_eq_true rfl⟩ ⟨Nat.le_refl _, Nat.le_refl _⟩ ?_
  refine z_if_eq CX 31 dX6_isCell_5 (by decide) (fun c_5 => ?_) (fun c_5 => ?_)
  · skip
    refine z_iconst CX (v := 0) dX6_isCell_31 (by decide) ?_
    exact z_zret CX dX6_isCell_32 rfl (by first | rfl | exact bI_nar _) (congrArg Value.int (by rw [icl_0 (dF c_5)]; rfl)) rfl (Or.inl rfl)
  · skip
    obtain ⟨i, hi9, rfl⟩ := nIx (r := ng) (by have := hG.2.1; omega) (Int32.not_lt.mpr (dT c_5).1) (Int32.not_le.mpr (dT c_5).2)
    obtain ⟨L, l1, l2, e9⟩ := (hG.2.2.2 i hi9).1
    have h6 := hG.2.1
    refine z_iload_n CX 2 dX6_isCell_8 rfl rfl ?_
    refine z_i2l CX dX6_isCell_9 rfl ?_
    refine z_lconst CX (v := 0) dX6_isCell_10 (by decide) ?_
    refine z_aload_n CX 0 dX6_isCell_11 rfl rfl ?_
    refine z_iconst CX (v := 4) dX6_isCell_12 (by decide) ?_
    refine z_iload_n CX 1 dX6_isCell_13 rfl rfl ?_
    refine z_imul CX dX6_isCell_14 ?_
    refine z_iconst CX (v := 0) dX6_isCell_15 (by decide) ?_
    refine z_iadd CX dX6_isCell_16 ?_
    refine z_ia CX (j := ((4 * i) + 0)) dX6_isCell_17 row_0 (ix_add (ix_mul rfl rfl) rfl) (by omega) (by decide) ?_
    rw [e9]
    refine z_iconst CX (v := 1) dX6_isCell_18 (by decide) ?_
    refine z_isub CX dX6_isCell_19 ?_
    refine z_i2l CX dX6_isCell_20 rfl ?_
    refine z_callS1 CX dX6_isCell_21 cs_X6_42 (c_in _ _ _) rfl rfl (Nat.le_of_ble_eq_true rfl) ⟨Nat.le_of_ble_eq_true rfl, Nat.le_of_ble_eq_true rfl⟩ ⟨Nat.le_refl _, Nat.le_refl _⟩ ?_
    refine z_if_eq CX 31 dX6_isCell_24 (by decide) (fun c_24 => ?_) (fun c_24 => ?_)
    · skip
      refine z_iconst CX (v := 0) dX6_isCell_31 (by decide) ?_
      exact z_zret CX dX6_isCell_32 rfl (by first | rfl | exact bI_nar _) (congrArg Value.int (by rw [icl_1 hi9 (by omega), e9, decide_eq_false (fun q => dF c_24 ((inG y (by omega)).mpr q))]; rfl)) rfl (Or.inl rfl)
    · skip
      refine z_iconst CX (v := 1) dX6_isCell_27 (by decide) ?_
      refine z_goto CX 32 dX6_isCell_28 (by decide) ?_
      exact z_zret CX dX6_isCell_32 rfl (by first | rfl | exact bI_nar _) (congrArg Value.int (by rw [icl_1 hi9 (by omega), e9, decide_eq_true ((inG y (by omega)).mp (dT c_24))]; rfl)) rfl (Or.inl rfl)
theorem cnz0 {a b : Nat} (hb : a ≤ b) (h : nI a = 0) (h9 : b < 2 ^ 31 := by omega) : a = 0 := (nI_eq (by omega) (by omega)).mp h
set_option maxHeartbeats 4000000 in
set_option maxRecDepth 100000 in
theorem c_flow {l : Launch} {w : Wt} {hs : Hs} {n : Option Nat} {a : Nat} {f : Nat → Int32} {ng : Nat} (hG : GG f ng) (x y : Int32) : Cn l w mX6_flowsInto 0 0 [.ref (wB w + a), .int x, .int y] (rowH w hs a f) n (rowH w hs a f) n (some (.int (bI (decide (ng = 0) || icl f ng x y)))) := by
  refine Cn.of (d := mX6_flowsInto) (by decide +kernel) (Nat.le_of_ble_eq_true rfl) ?_
  intro p e R s m args below meth c CX
  replace CX : Ctx p s m args meth c R w RX6 "flowsInto" cX6_flowsInto 3 (some .boolean) 3 68 0 0 := CX
  show ZW p l e R s m args below meth c w 3 _ _ 0 0 (MQ below (Qn w _ _ _) args s 0 0 (wA w)) 0 [(0, .ref (wB w + a)), (1, .int x), (2, .int y)] []
  have h9 : ng ≤ 6 := hG.2.1
  refine z_aload_n CX 0 dX6_flowsInto_0 rfl rfl ?_
  refine z_sipush CX (v := 146) dX6_flowsInto_1 (by decide) ?_
  refine z_ia CX (j := 146) dX6_flowsInto_4 row_0 rfl (by omega) (by decide) ?_
  rw [hG.1]
  refine z_if_eq CX 17 dX6_flowsInto_5 (by decide) (fun c_5 => ?_) (fun c_5 => ?_)
  · skip
    refine z_iconst CX (v := 1) dX6_flowsInto_17 (by decide) ?_
    refine z_goto CX 22 dX6_flowsInto_18 (by decide) ?_
    exact z_zret CX dX6_flowsInto_22 rfl (by first | rfl | exact bI_nar _) (congrArg Value.int (by rw [decide_eq_true (cnz0 h9 c_5)]; rfl)) rfl (Or.inl rfl)
  · skip
    refine z_aload_n CX 0 dX6_flowsInto_8 rfl rfl ?_
    refine z_iload_n CX 1 dX6_flowsInto_9 rfl rfl ?_
    refine z_iload_n CX 2 dX6_flowsInto_10 rfl rfl ?_
    refine z_callS1 CX dX6_flowsInto_11 cs_X6_111 (c_isC hG _ _) rfl rfl (Nat.le_of_ble_eq_true rfl) ⟨Nat.le_of_ble_eq_true rfl, Nat.le_of_ble_eq_true rfl⟩ ⟨Nat.le_refl _, Nat.le_refl _⟩ ?_
    refine z_if_eq CX 21 dX6_flowsInto_14 (by decide) (fun c_14 => ?_) (fun c_14 => ?_)
    · skip
      refine z_iconst CX (v := 0) dX6_flowsInto_21 (by decide) ?_
      exact z_zret CX dX6_flowsInto_22 rfl (by first | rfl | exact bI_nar _) (congrArg Value.int (by rw [decide_eq_false (fun q => c_5 (by rw [q]; rfl)), Bool.false_or, bI_f c_14]; rfl)) rfl (Or.inl rfl)
    · skip
      refine z_iconst CX (v := 1) dX6_flowsInto_17 (by decide) ?_
      refine z_goto CX 22 dX6_flowsInto_18 (by decide) ?_
      exact z_zret CX dX6_flowsInto_22 rfl (by first | rfl | exact bI_nar _) (congrArg Value.int (by rw [decide_eq_false (fun q => c_5 (by rw [q]; rfl)), Bool.false_or, bI_t c_14]; rfl)) rfl (Or.inl rfl)
set_option maxHeartbeats 4000000 in
set_option maxRecDepth 100000 in
theorem c_far {l : Launch} {w : Wt} {hs : Hs} {n : Option Nat} {a : Nat} {f : Nat → Int32} {o b : Nat} (ho : o < 4) (hb : b < 12) : Cn l w mX6_far 0 0 [.ref (wB w + a), .int (nI o), .int (nI b)] (rowH w hs a f) n (rowH w hs a f) n (some (.int (farF f o b))) := by
  refine Cn.of (d := mX6_far) (by decide +kernel) (Nat.le_of_ble_eq_true rfl) ?_
  intro p e R s m args below meth c CX
  replace CX : Ctx p s m args meth c R w RX6 "far" cX6_far 3 (some .int) 1 20 0 0 := CX
  show ZW p l e R s m args below meth c w 3 _ _ 0 0 (MQ below (Qn w _ _ _) args s 0 0 (wA w)) 0 [(0, .ref (wB w + a)), (1, .int (nI o)), (2, .int (nI b))] []
  refine z_aload_n CX 0 dX6_far_0 rfl rfl ?_
  refine z_sipush CX (v := 134) dX6_far_1 (by decide) ?_
  refine z_iconst CX (v := 3) dX6_far_4 (by decide) ?_
  refine z_iload_n CX 1 dX6_far_5 rfl rfl ?_
  refine z_imul CX dX6_far_6 ?_
  refine z_iadd CX dX6_far_7 ?_
  refine z_iconst CX (v := 2) dX6_far_8 (by decide) ?_
  refine z_iadd CX dX6_far_9 ?_
  refine z_ia CX (j := ((134 + (3 * o)) + 2)) dX6_far_10 row_0 (ix_add (ix_add rfl (ix_mul rfl rfl)) rfl) (by omega) (by decide) ?_
  refine z_aload_n CX 0 dX6_far_11 rfl rfl ?_
  refine z_iload_n CX 2 dX6_far_12 rfl rfl ?_
  refine z_callS1 CX dX6_far_13 cs_X6_60 (c_spot b) rfl rfl (Nat.le_of_ble_eq_true rfl) ⟨Nat.le_of_ble_eq_true rfl, Nat.le_of_ble_eq_true rfl⟩ ⟨Nat.le_refl _, Nat.le_refl _⟩ ?_
  refine z_iconst CX (v := 5) dX6_far_16 (by decide) ?_
  refine z_iadd CX dX6_far_17 ?_
  refine z_ia CX (j := ((24 + 10 * b) + 5)) dX6_far_18 row_0 (ix_add rfl rfl) (by omega) (by decide) ?_
  refine z_isub CX dX6_far_19 ?_
  refine z_callS1 CX dX6_far_20 cs_X6_92 (c_mabs _) rfl rfl (Nat.le_of_ble_eq_true rfl) ⟨Nat.le_of_ble_eq_true rfl, Nat.le_of_ble_eq_true rfl⟩ ⟨Nat.le_refl _, Nat.le_refl _⟩ ?_
  exact z_iret CX dX6_far_23 rfl rfl rfl (Or.inl rfl)
set_option maxHeartbeats 4000000 in
set_option maxRecDepth 100000 in
theorem c_isH {l : Launch} {w : Wt} {hs : Hs} {n : Option Nat} {a : Nat} {f : Nat → Int32} {o b : Nat} (ho : o < 4) (hb : b < 12) : Cn l w mX6_isHooked 0 0 [.ref (wB w + a), .int (nI o), .int (nI b)] (rowH w hs a f) n (rowH w hs a f) n (some (.int (bI (decide (hkd f o b))))) := by
  refine Cn.of (d := mX6_isHooked) (by decide +kernel) (Nat.le_of_ble_eq_true rfl) ?_
  intro p e R s m args below meth c CX
  replace CX : Ctx p s m args meth c R w RX6 "isHooked" cX6_isHooked 3 (some .boolean) 1 20 0 0 := CX
  show ZW p l e R s m args below meth c w 3 _ _ 0 0 (MQ below (Qn w _ _ _) args s 0 0 (wA w)) 0 [(0, .ref (wB w + a)), (1, .int (nI o)), (2, .int (nI b))] []
  refine z_aload_n CX 0 dX6_isHooked_0 rfl rfl ?_
  refine z_sipush CX (v := 134) dX6_isHooked_1 (by decide) ?_
  refine z_iconst CX (v := 3) dX6_isHooked_4 (by decide) ?_
  refine z_iload_n CX 1 dX6_isHooked_5 rfl rfl ?_
  refine z_imul CX dX6_isHooked_6 ?_
  refine z_iadd CX dX6_isHooked_7 ?_
  refine z_iconst CX (v := 1) dX6_isHooked_8 (by decide) ?_
  refine z_iadd CX dX6_isHooked_9 ?_
  refine z_ia CX (j := ((134 + (3 * o)) + 1)) dX6_isHooked_10 row_0 (ix_add (ix_add rfl (ix_mul rfl rfl)) rfl) (by omega) (by decide) ?_
  refine z_aload_n CX 0 dX6_isHooked_11 rfl rfl ?_
  refine z_iload_n CX 2 dX6_isHooked_12 rfl rfl ?_
  refine z_callS1 CX dX6_isHooked_13 cs_X6_60 (c_spot b) rfl rfl (Nat.le_of_ble_eq_true rfl) ⟨Nat.le_of_ble_eq_true rfl, Nat.le_of_ble_eq_true rfl⟩ ⟨Nat.le_refl _, Nat.le_refl _⟩ ?_
  refine z_iconst CX (v := 4) dX6_isHooked_16 (by decide) ?_
  refine z_iadd CX dX6_isHooked_17 ?_
  refine z_ia CX (j := ((24 + 10 * b) + 4)) dX6_isHooked_18 row_0 (ix_add rfl rfl) (by omega) (by decide) ?_
  refine z_icmp_ne CX 26 dX6_isHooked_19 (by decide) (fun c_19 => ?_) (fun c_19 => ?_)
  · skip
    refine z_iconst CX (v := 0) dX6_isHooked_26 (by decide) ?_
    exact z_zret CX dX6_isHooked_27 rfl (by first | rfl | exact bI_nar _) (congrArg Value.int (by rw [decide_eq_false c_19]; rfl)) rfl (Or.inl rfl)
  · skip
    refine z_iconst CX (v := 1) dX6_isHooked_22 (by decide) ?_
    refine z_goto CX 27 dX6_isHooked_23 (by decide) ?_
    exact z_zret CX dX6_isHooked_27 rfl (by first | rfl | exact bI_nar _) (congrArg Value.int (by rw [decide_eq_true c_19]; rfl)) rfl (Or.inl rfl)
set_option maxHeartbeats 4000000 in
set_option maxRecDepth 100000 in
theorem c_why {l : Launch} {w : Wt} {hs : Hs} {n : Option Nat} {a : Nat} {f : Nat → Int32} {o b : Nat} (ho : o < 4) (hb : b < 12) : Cn l w mX6_whyNot 0 0 [.ref (wB w + a), .int (nI o), .int (nI b)] (rowH w hs a f) n (rowH w hs a f) n (some (.int (whyF f o b))) := by
  refine Cn.of (d := mX6_whyNot) (by decide +kernel) (Nat.le_of_ble_eq_true rfl) ?_
  intro p e R s m args below meth c CX
  replace CX : Ctx p s m args meth c R w RX6 "whyNot" cX6_whyNot 5 (some .int) 2 42 0 0 := CX
  show ZW p l e R s m args below meth c w 5 _ _ 0 0 (MQ below (Qn w _ _ _) args s 0 0 (wA w)) 0 [(0, .ref (wB w + a)), (1, .int (nI o)), (2, .int (nI b))] []
  have LP : ∀ (j i : Nat), i + j = 4 → ¬ f (24 + 10 * b + 3) ≠ 3 → ¬ (¬ hkd f o b ∨ f 156 < farF f o b) → ZW p l e R s m args below meth c w 5 (rowH w hs a f) n 0 0 (MQ below (Qn w (rowH w hs a f) n (some (.int (whyF f o b)))) args s 0 0 (wA w)) 41 [(0, .ref (wB w + a)), (1, .int (nI o)), (2, .int (nI b)), (3, .int (bI (anyN (fun q => decide (q ≠ o ∧ hkd f q b ∧ farF f q b < farF f o b)) i))), (4, .int (nI i))] [] := by
    intro j
    induction j with
    | zero =>
      intro i hi c_6 hk
      have hi9 : i = 4 := by omega
      subst hi9
      refine z_iload CX dX6_whyNot_41 rfl ?_
      refine z_iconst CX (v := 4) dX6_whyNot_43 (by decide) ?_
      refine z_icmp_ge CX 95 dX6_whyNot_44 (by decide) (fun _ => ?_) (fun q9 => absurd (by decide) q9)
      refine z_iload_n CX 3 dX6_whyNot_95 rfl rfl ?_
      refine z_if_eq CX 103 dX6_whyNot_96 (by decide) (fun c_96 => ?_) (fun c_96 => ?_)
      · skip
        refine z_iconst CX (v := 0) dX6_whyNot_103 (by decide) ?_
        exact z_iret CX dX6_whyNot_104 rfl (congrArg Value.int (by unfold whyF; rw [if_neg c_6, if_neg hk, show nrr f o b = false from bI_f c_96]; rfl)) rfl (Or.inl rfl)
      · skip
        refine z_iconst CX (v := 3) dX6_whyNot_99 (by decide) ?_
        refine z_goto CX 104 dX6_whyNot_100 (by decide) ?_
        exact z_iret CX dX6_whyNot_104 rfl (congrArg Value.int (by unfold whyF; rw [if_neg c_6, if_neg hk, show nrr f o b = true from bI_t c_96]; rfl)) rfl (Or.inl rfl)
    | succ j ih =>
      intro i hi c_6 hk
      refine z_iload CX dX6_whyNot_41 rfl ?_
      refine z_iconst CX (v := 4) dX6_whyNot_43 (by decide) ?_
      refine z_icmp_ge CX 95 dX6_whyNot_44 (by decide) (fun q9 => absurd q9 (nI_ge (b := 4) (by omega) (by omega))) (fun _ => ?_)
      refine z_iload_n CX 3 dX6_whyNot_47 rfl rfl ?_
      refine z_if_ne CX 83 dX6_whyNot_48 (by decide) (fun c_48 => ?_) (fun c_48 => ?_)
      · skip
        refine z_iconst CX (v := 1) dX6_whyNot_83 (by decide) ?_
        refine z_goto CX 88 dX6_whyNot_84 (by decide) ?_
        refine z_istore_n CX 3 dX6_whyNot_88 rfl (by decide) ?_
        refine z_iinc CX (v := nI (i + 1)) dX6_whyNot_89 rfl (nI_1 i) (by decide) ?_
        refine z_goto CX 41 dX6_whyNot_92 (by decide) ?_
        refine z_loc [(0, .ref (wB w + a)), (1, .int (nI o)), (2, .int (nI b)), (3, .int (bI (anyN (fun q => decide (q ≠ o ∧ hkd f q b ∧ farF f q b < farF f o b)) (i + 1)))), (4, .int (nI (i + 1)))] ⟨rfl, rfl, rfl, congrArg (fun z => some (Value.int z)) (by rw [show anyN (fun q => decide (q ≠ o ∧ hkd f q b ∧ farF f q b < farF f o b)) (i + 1) = true by exact anyN_t1 (bI_t c_48)]; rfl), rfl, trivial⟩ ?_
        exact ih (i + 1) (by omega) c_6 hk
      · skip
        refine z_iload CX dX6_whyNot_51 rfl ?_
        refine z_iload_n CX 1 dX6_whyNot_53 rfl rfl ?_
        refine z_icmp_eq CX 87 dX6_whyNot_54 (by decide) (fun c_54 => ?_) (fun c_54 => ?_)
        · skip
          refine z_iconst CX (v := 0) dX6_whyNot_87 (by decide) ?_
          refine z_istore_n CX 3 dX6_whyNot_88 rfl (by decide) ?_
          refine z_iinc CX (v := nI (i + 1)) dX6_whyNot_89 rfl (nI_1 i) (by decide) ?_
          refine z_goto CX 41 dX6_whyNot_92 (by decide) ?_
          refine z_loc [(0, .ref (wB w + a)), (1, .int (nI o)), (2, .int (nI b)), (3, .int (bI (anyN (fun q => decide (q ≠ o ∧ hkd f q b ∧ farF f q b < farF f o b)) (i + 1)))), (4, .int (nI (i + 1)))] ⟨rfl, rfl, rfl, congrArg (fun z => some (Value.int z)) (by rw [show anyN (fun q => decide (q ≠ o ∧ hkd f q b ∧ farF f q b < farF f o b)) (i + 1) = false by exact anyN_f (bI_f c_48) (decide_eq_false (fun q => q.1 ((nI_eq (by omega) (by omega)).mp c_54)))]; rfl), rfl, trivial⟩ ?_
          exact ih (i + 1) (by omega) c_6 hk
        · skip
          refine z_aload_n CX 0 dX6_whyNot_57 rfl rfl ?_
          refine z_iload CX dX6_whyNot_58 rfl ?_
          refine z_iload_n CX 2 dX6_whyNot_60 rfl rfl ?_
          refine z_callS1 CX dX6_whyNot_61 cs_X6_95 (c_isH (o := i) (b := b) (by omega) (by omega)) rfl rfl (Nat.le_of_ble_eq_true rfl) ⟨Nat.le_of_ble_eq_true rfl, Nat.le_of_ble_eq_true rfl⟩ ⟨Nat.le_refl _, Nat.le_refl _⟩ ?_
          refine z_if_eq CX 87 dX6_whyNot_64 (by decide) (fun c_64 => ?_) (fun c_64 => ?_)
          · skip
            refine z_iconst CX (v := 0) dX6_whyNot_87 (by decide) ?_
            refine z_istore_n CX 3 dX6_whyNot_88 rfl (by decide) ?_
            refine z_iinc CX (v := nI (i + 1)) dX6_whyNot_89 rfl (nI_1 i) (by decide) ?_
            refine z_goto CX 41 dX6_whyNot_92 (by decide) ?_
            refine z_loc [(0, .ref (wB w + a)), (1, .int (nI o)), (2, .int (nI b)), (3, .int (bI (anyN (fun q => decide (q ≠ o ∧ hkd f q b ∧ farF f q b < farF f o b)) (i + 1)))), (4, .int (nI (i + 1)))] ⟨rfl, rfl, rfl, congrArg (fun z => some (Value.int z)) (by rw [show anyN (fun q => decide (q ≠ o ∧ hkd f q b ∧ farF f q b < farF f o b)) (i + 1) = false by exact anyN_f (bI_f c_48) (decide_eq_false (fun q => dF c_64 q.2.1))]; rfl), rfl, trivial⟩ ?_
            exact ih (i + 1) (by omega) c_6 hk
          · skip
            refine z_aload_n CX 0 dX6_whyNot_67 rfl rfl ?_
            refine z_iload CX dX6_whyNot_68 rfl ?_
            refine z_iload_n CX 2 dX6_whyNot_70 rfl rfl ?_
            refine z_callS1 CX dX6_whyNot_71 cs_X6_98 (c_far (o := i) (b := b) (by omega) (by omega)) rfl rfl (Nat.le_of_ble_eq_true rfl) ⟨Nat.le_of_ble_eq_true rfl, Nat.le_of_ble_eq_true rfl⟩ ⟨Nat.le_refl _, Nat.le_refl _⟩ ?_
            refine z_aload_n CX 0 dX6_whyNot_74 rfl rfl ?_
            refine z_iload_n CX 1 dX6_whyNot_75 rfl rfl ?_
            refine z_iload_n CX 2 dX6_whyNot_76 rfl rfl ?_
            refine z_callS1 CX dX6_whyNot_77 cs_X6_98 (c_far (o := o) (b := b) (by omega) (by omega)) rfl rfl (Nat.le_of_ble_eq_true rfl) ⟨Nat.le_of_ble_eq_true rfl, Nat.le_of_ble_eq_true rfl⟩ ⟨Nat.le_refl _, Nat.le_refl _⟩ ?_
            refine z_icmp_ge CX 87 dX6_whyNot_80 (by decide) (fun c_80 => ?_) (fun c_80 => ?_)
            · skip
              refine z_iconst CX (v := 0) dX6_whyNot_87 (by decide) ?_
              refine z_istore_n CX 3 dX6_whyNot_88 rfl (by decide) ?_
              refine z_iinc CX (v := nI (i + 1)) dX6_whyNot_89 rfl (nI_1 i) (by decide) ?_
              refine z_goto CX 41 dX6_whyNot_92 (by decide) ?_
              refine z_loc [(0, .ref (wB w + a)), (1, .int (nI o)), (2, .int (nI b)), (3, .int (bI (anyN (fun q => decide (q ≠ o ∧ hkd f q b ∧ farF f q b < farF f o b)) (i + 1)))), (4, .int (nI (i + 1)))] ⟨rfl, rfl, rfl, congrArg (fun z => some (Value.int z)) (by rw [show anyN (fun q => decide (q ≠ o ∧ hkd f q b ∧ farF f q b < farF f o b)) (i + 1) = false by exact anyN_f (bI_f c_48) (decide_eq_false (fun q => absurd q.2.2 (Int32.not_lt.mpr c_80)))]; rfl), rfl, trivial⟩ ?_
              exact ih (i + 1) (by omega) c_6 hk
            · skip
              refine z_iconst CX (v := 1) dX6_whyNot_83 (by decide) ?_
              refine z_goto CX 88 dX6_whyNot_84 (by decide) ?_
              refine z_istore_n CX 3 dX6_whyNot_88 rfl (by decide) ?_
              refine z_iinc CX (v := nI (i + 1)) dX6_whyNot_89 rfl (nI_1 i) (by decide) ?_
              refine z_goto CX 41 dX6_whyNot_92 (by decide) ?_
              refine z_loc [(0, .ref (wB w + a)), (1, .int (nI o)), (2, .int (nI b)), (3, .int (bI (anyN (fun q => decide (q ≠ o ∧ hkd f q b ∧ farF f q b < farF f o b)) (i + 1)))), (4, .int (nI (i + 1)))] ⟨rfl, rfl, rfl, congrArg (fun z => some (Value.int z)) (by rw [show anyN (fun q => decide (q ≠ o ∧ hkd f q b ∧ farF f q b < farF f o b)) (i + 1) = true by exact anyN_t2 (decide_eq_true ⟨fun q => c_54 (by rw [q]), dT c_64, Int32.not_le.mp c_80⟩)]; rfl), rfl, trivial⟩ ?_
              exact ih (i + 1) (by omega) c_6 hk
  refine z_aload_n CX 0 dX6_whyNot_0 rfl rfl ?_
  refine z_iload_n CX 2 dX6_whyNot_1 rfl rfl ?_
  refine z_callS1 CX dX6_whyNot_2 cs_X6_64 (c_state (b := b) (by omega)) rfl rfl (Nat.le_of_ble_eq_true rfl) ⟨Nat.le_of_ble_eq_true rfl, Nat.le_of_ble_eq_true rfl⟩ ⟨Nat.le_refl _, Nat.le_refl _⟩ ?_
  refine z_iconst CX (v := 3) dX6_whyNot_5 (by decide) ?_
  refine z_icmp_eq CX 11 dX6_whyNot_6 (by decide) (fun c_6 => ?_) (fun c_6 => ?_)
  · skip
    refine z_aload_n CX 0 dX6_whyNot_11 rfl rfl ?_
    refine z_iload_n CX 1 dX6_whyNot_12 rfl rfl ?_
    refine z_iload_n CX 2 dX6_whyNot_13 rfl rfl ?_
    refine z_callS1 CX dX6_whyNot_14 cs_X6_95 (c_isH (o := o) (b := b) (by omega) (by omega)) rfl rfl (Nat.le_of_ble_eq_true rfl) ⟨Nat.le_of_ble_eq_true rfl, Nat.le_of_ble_eq_true rfl⟩ ⟨Nat.le_refl _, Nat.le_refl _⟩ ?_
    refine z_if_eq CX 34 dX6_whyNot_17 (by decide) (fun c_17 => ?_) (fun c_17 => ?_)
    · skip
      refine z_iconst CX (v := 2) dX6_whyNot_34 (by decide) ?_
      exact z_iret CX dX6_whyNot_35 rfl (congrArg Value.int (by unfold whyF; rw [if_neg (fun q => q c_6), if_pos (Or.inl (dF c_17))])) rfl (Or.inl rfl)
    · skip
      refine z_aload_n CX 0 dX6_whyNot_20 rfl rfl ?_
      refine z_iload_n CX 1 dX6_whyNot_21 rfl rfl ?_
      refine z_iload_n CX 2 dX6_whyNot_22 rfl rfl ?_
      refine z_callS1 CX dX6_whyNot_23 cs_X6_98 (c_far (o := o) (b := b) (by omega) (by omega)) rfl rfl (Nat.le_of_ble_eq_true rfl) ⟨Nat.le_of_ble_eq_true rfl, Nat.le_of_ble_eq_true rfl⟩ ⟨Nat.le_refl _, Nat.le_refl _⟩ ?_
      refine z_aload_n CX 0 dX6_whyNot_26 rfl rfl ?_
      refine z_sipush CX (v := 156) dX6_whyNot_27 (by decide) ?_
      refine z_ia CX (j := 156) dX6_whyNot_30 row_0 rfl (by omega) (by decide) ?_
      refine z_icmp_le CX 36 dX6_whyNot_31 (by decide) (fun c_31 => ?_) (fun c_31 => ?_)
      · skip
        refine z_iconst CX (v := 0) dX6_whyNot_36 (by decide) ?_
        refine z_istore_n CX 3 dX6_whyNot_37 rfl (by decide) ?_
        refine z_iconst CX (v := 0) dX6_whyNot_38 (by decide) ?_
        refine z_istore CX dX6_whyNot_39 (by decide) ?_
        refine z_loc [(0, .ref (wB w + a)), (1, .int (nI o)), (2, .int (nI b)), (3, .int (bI (anyN (fun q => decide (q ≠ o ∧ hkd f q b ∧ farF f q b < farF f o b)) 0))), (4, .int (nI 0))] ⟨rfl, rfl, rfl, rfl, rfl, trivial⟩ ?_
        exact LP 4 0 (by omega) (fun q => q c_6) (by rintro (q | q); exact q (dT c_17); exact absurd c_31 (Int32.not_le.mpr q))
      · skip
        refine z_iconst CX (v := 2) dX6_whyNot_34 (by decide) ?_
        exact z_iret CX dX6_whyNot_35 rfl (congrArg Value.int (by unfold whyF; rw [if_neg (fun q => q c_6), if_pos (Or.inr (Int32.not_le.mp c_31))])) rfl (Or.inl rfl)
  · skip
    refine z_iconst CX (v := 1) dX6_whyNot_9 (by decide) ?_
    exact z_iret CX dX6_whyNot_10 rfl (congrArg Value.int (by unfold whyF; rw [if_pos c_6])) rfl (Or.inl rfl)
set_option maxHeartbeats 4000000 in
set_option maxRecDepth 100000 in
theorem c_goCl {l : Launch} {w : Wt} {hs : Hs} {n : Option Nat} {a : Nat} {f : Nat → Int32} {o b : Nat} (ho : o < 4) (hb : b < 11) : Cn l w mX6_goClaim 0 0 [.ref (wB w + a), .int (nI o), .int (nI b)] (rowH w hs a f) n (rowH w hs a (clmF f o b)) n (some (.int (whyF f o b))) := by
  refine Cn.of (d := mX6_goClaim) (by decide +kernel) (Nat.le_of_ble_eq_true rfl) ?_
  intro p e R s m args below meth c CX
  replace CX : Ctx p s m args meth c R w RX6 "goClaim" cX6_goClaim 4 (some .int) 3 66 0 0 := CX
  show ZW p l e R s m args below meth c w 4 _ _ 0 0 (MQ below (Qn w _ _ _) args s 0 0 (wA w)) 0 [(0, .ref (wB w + a)), (1, .int (nI o)), (2, .int (nI b))] []
  refine z_aload_n CX 0 dX6_goClaim_0 rfl rfl ?_
  refine z_iload_n CX 1 dX6_goClaim_1 rfl rfl ?_
  refine z_iload_n CX 2 dX6_goClaim_2 rfl rfl ?_
  refine z_callS1 CX dX6_goClaim_3 cs_X6_102 (c_why (o := o) (b := b) (by omega) (by omega)) rfl rfl (Nat.le_of_ble_eq_true rfl) ⟨Nat.le_of_ble_eq_true rfl, Nat.le_of_ble_eq_true rfl⟩ ⟨Nat.le_refl _, Nat.le_refl _⟩ ?_
  refine z_istore_n CX 3 dX6_goClaim_6 rfl (by decide) ?_
  refine z_iload_n CX 3 dX6_goClaim_7 rfl rfl ?_
  refine z_if_ne CX 43 dX6_goClaim_8 (by decide) (fun c_8 => ?_) (fun c_8 => ?_)
  · skip
    refine z_aload_n CX 0 dX6_goClaim_43 rfl rfl ?_
    refine z_sipush CX (v := 152) dX6_goClaim_44 (by decide) ?_
    refine z_dup2 CX dX6_goClaim_47 rfl rfl ?_
    refine z_ia CX (j := 152) dX6_goClaim_48 row_0 rfl (by omega) (by decide) ?_
    refine z_iconst CX (v := 1) dX6_goClaim_49 (by decide) ?_
    refine z_iadd CX dX6_goClaim_50 ?_
    refine z_is CX (j := 152) dX6_goClaim_51 row_0 rfl (by omega) (by decide) ?_
    refine z_heap row_u ?_
    refine z_iload_n CX 3 dX6_goClaim_52 rfl rfl ?_
    exact z_iret CX dX6_goClaim_53 rfl rfl (congrArg (rowH w hs a) (by unfold clmF; rw [if_neg c_8])) (Or.inl rfl)
  · skip
    refine z_aload_n CX 0 dX6_goClaim_11 rfl rfl ?_
    refine z_iload_n CX 2 dX6_goClaim_12 rfl rfl ?_
    refine z_callS1 CX dX6_goClaim_13 cs_X6_60 (c_spot b) rfl rfl (Nat.le_of_ble_eq_true rfl) ⟨Nat.le_of_ble_eq_true rfl, Nat.le_of_ble_eq_true rfl⟩ ⟨Nat.le_refl _, Nat.le_refl _⟩ ?_
    refine z_iconst CX (v := 3) dX6_goClaim_16 (by decide) ?_
    refine z_iadd CX dX6_goClaim_17 ?_
    refine z_iconst CX (v := 4) dX6_goClaim_18 (by decide) ?_
    refine z_is CX (j := ((24 + 10 * b) + 3)) dX6_goClaim_19 row_0 (ix_add rfl rfl) (by omega) (by decide) ?_
    refine z_heap row_u ?_
    refine z_aload_n CX 0 dX6_goClaim_20 rfl rfl ?_
    refine z_sipush CX (v := 134) dX6_goClaim_21 (by decide) ?_
    refine z_iconst CX (v := 3) dX6_goClaim_24 (by decide) ?_
    refine z_iload_n CX 1 dX6_goClaim_25 rfl rfl ?_
    refine z_imul CX dX6_goClaim_26 ?_
    refine z_iadd CX dX6_goClaim_27 ?_
    refine z_dup2 CX dX6_goClaim_28 rfl rfl ?_
    refine z_ia CX (j := (134 + (3 * o))) dX6_goClaim_29 row_0 (ix_add rfl (ix_mul rfl rfl)) (by omega) (by decide) ?_
    refine z_aload_n CX 0 dX6_goClaim_30 rfl rfl ?_
    refine z_iload_n CX 2 dX6_goClaim_31 rfl rfl ?_
    refine z_callS1 CX dX6_goClaim_32 cs_X6_60 (c_spot b) rfl rfl (Nat.le_of_ble_eq_true rfl) ⟨Nat.le_of_ble_eq_true rfl, Nat.le_of_ble_eq_true rfl⟩ ⟨Nat.le_refl _, Nat.le_refl _⟩ ?_
    refine z_iconst CX (v := 0) dX6_goClaim_35 (by decide) ?_
    refine z_iadd CX dX6_goClaim_36 ?_
    refine z_ia CX (j := ((24 + 10 * b) + 0)) dX6_goClaim_37 row_0 (ix_add rfl rfl) (by omega) (by decide) ?_
    refine z_iadd CX dX6_goClaim_38 ?_
    refine z_is CX (j := (134 + (3 * o))) dX6_goClaim_39 row_0 (ix_add rfl (ix_mul rfl rfl)) (by omega) (by decide) ?_
    refine z_heap row_u ?_
    refine z_goto CX 52 dX6_goClaim_40 (by decide) ?_
    refine z_iload_n CX 3 dX6_goClaim_52 rfl rfl ?_
    exact z_iret CX dX6_goClaim_53 rfl rfl (congrArg (rowH w hs a) (by unfold clmF; rw [if_pos c_8, pk_un (show 134 + 3 * o ≠ 24 + 10 * b + 3 by omega), pk_un (show 24 + 10 * b + 0 ≠ 24 + 10 * b + 3 by omega)])) (Or.inl rfl)
set_option maxHeartbeats 4000000 in
set_option maxRecDepth 100000 in
theorem c_clb {l : Launch} {w : Wt} {hs : Hs} {n : Option Nat} {a : Nat} {f : Nat → Int32} {nb o : Nat} (hf : f 147 = nI nb) (h9 : nb ≤ 11) (ho : o < 4) : Cn l w mX6_claimable 0 0 [.ref (wB w + a), .int (nI o)] (rowH w hs a f) n (rowH w hs a f) n (some (.int (nI (clbF f nb o)))) := by
  refine Cn.of (d := mX6_claimable) (by decide +kernel) (Nat.le_of_ble_eq_true rfl) ?_
  intro p e R s m args below meth c CX
  replace CX : Ctx p s m args meth c R w RX6 "claimable" cX6_claimable 4 (some .int) 3 66 0 0 := CX
  show ZW p l e R s m args below meth c w 4 _ _ 0 0 (MQ below (Qn w _ _ _) args s 0 0 (wA w)) 0 [(0, .ref (wB w + a)), (1, .int (nI o))] []
  have LP : ∀ (j i : Nat), i + j = nb → ZW p l e R s m args below meth c w 4 (rowH w hs a f) n 0 0 (MQ below (Qn w (rowH w hs a f) n (some (.int (nI (clbF f nb o))))) args s 0 0 (wA w)) 4 [(0, .ref (wB w + a)), (1, .int (nI o)), (2, .int (nI (clbF f i o))), (3, .int (nI i))] [] := by
    intro j
    induction j with
    | zero =>
      intro i hi
      refine z_iload_n CX 3 dX6_claimable_4 rfl rfl ?_
      refine z_aload_n CX 0 dX6_claimable_5 rfl rfl ?_
      refine z_sipush CX (v := 147) dX6_claimable_6 (by decide) ?_
      refine z_ia CX (j := 147) dX6_claimable_9 row_0 rfl (by omega) (by decide) ?_
      rw [hf]
      refine z_icmp_ge CX 36 dX6_claimable_10 (by decide) (fun _ => ?_) (fun q9 => absurd (nI_le (by omega) (by omega)) q9)
      refine z_iload_n CX 2 dX6_claimable_36 rfl rfl ?_
      exact z_iret CX dX6_claimable_37 rfl (by rw [show i = nb by omega]) rfl (Or.inl rfl)
    | succ j ih =>
      intro i hi
      refine z_iload_n CX 3 dX6_claimable_4 rfl rfl ?_
      refine z_aload_n CX 0 dX6_claimable_5 rfl rfl ?_
      refine z_sipush CX (v := 147) dX6_claimable_6 (by decide) ?_
      refine z_ia CX (j := 147) dX6_claimable_9 row_0 rfl (by omega) (by decide) ?_
      rw [hf]
      refine z_icmp_ge CX 36 dX6_claimable_10 (by decide) (fun q9 => absurd q9 (nI_ge (by omega) (by omega))) (fun _ => ?_)
      refine z_iload_n CX 2 dX6_claimable_13 rfl rfl ?_
      refine z_aload_n CX 0 dX6_claimable_14 rfl rfl ?_
      refine z_iload_n CX 1 dX6_claimable_15 rfl rfl ?_
      refine z_iload_n CX 3 dX6_claimable_16 rfl rfl ?_
      refine z_callS1 CX dX6_claimable_17 cs_X6_102 (c_why (o := o) (b := i) (by omega) (by omega)) rfl rfl (Nat.le_of_ble_eq_true rfl) ⟨Nat.le_of_ble_eq_true rfl, Nat.le_of_ble_eq_true rfl⟩ ⟨Nat.le_refl _, Nat.le_refl _⟩ ?_
      refine z_if_ne CX 27 dX6_claimable_20 (by decide) (fun c_20 => ?_) (fun c_20 => ?_)
      · skip
        refine z_iconst CX (v := 0) dX6_claimable_27 (by decide) ?_
        refine z_iadd CX dX6_claimable_28 ?_
        refine z_istore_n CX 2 dX6_claimable_29 rfl (by decide) ?_
        refine z_iinc CX (v := nI (i + 1)) dX6_claimable_30 rfl (nI_1 i) (by decide) ?_
        refine z_goto CX 4 dX6_claimable_33 (by decide) ?_
        refine z_loc [(0, .ref (wB w + a)), (1, .int (nI o)), (2, .int (nI (clbF f (i + 1) o))), (3, .int (nI (i + 1)))] ⟨rfl, rfl, congrArg (fun z => some (Value.int z)) (by show nI (cntN _ i) + 0 = nI (cntN _ i + _); simp [c_20, nI_1]), rfl, trivial⟩ ?_
        exact ih (i + 1) (by omega)
      · skip
        refine z_iconst CX (v := 1) dX6_claimable_23 (by decide) ?_
        refine z_goto CX 28 dX6_claimable_24 (by decide) ?_
        refine z_iadd CX dX6_claimable_28 ?_
        refine z_istore_n CX 2 dX6_claimable_29 rfl (by decide) ?_
        refine z_iinc CX (v := nI (i + 1)) dX6_claimable_30 rfl (nI_1 i) (by decide) ?_
        refine z_goto CX 4 dX6_claimable_33 (by decide) ?_
        refine z_loc [(0, .ref (wB w + a)), (1, .int (nI o)), (2, .int (nI (clbF f (i + 1) o))), (3, .int (nI (i + 1)))] ⟨rfl, rfl, congrArg (fun z => some (Value.int z)) (by show nI (cntN _ i) + 1 = nI (cntN _ i + _); simp [c_20, nI_1]), rfl, trivial⟩ ?_
        exact ih (i + 1) (by omega)
  refine z_iconst CX (v := 0) dX6_claimable_0 (by decide) ?_
  refine z_istore_n CX 2 dX6_claimable_1 rfl (by decide) ?_
  refine z_iconst CX (v := 0) dX6_claimable_2 (by decide) ?_
  refine z_istore_n CX 3 dX6_claimable_3 rfl (by decide) ?_
  refine z_loc [(0, .ref (wB w + a)), (1, .int (nI o)), (2, .int (nI (clbF f 0 o))), (3, .int (nI 0))] ⟨rfl, rfl, rfl, rfl, trivial⟩ ?_
  exact LP nb 0 (by omega)
set_option maxHeartbeats 4000000 in
set_option maxRecDepth 100000 in
theorem c_goHk {l : Launch} {w : Wt} {hs : Hs} {n : Option Nat} {a : Nat} {f : Nat → Int32} {nb o : Nat} (hf : f 147 = nI nb) (h9 : nb ≤ 11) (ho : o < 4) (x y : Int32) : Cn l w mX6_goHook 0 0 [.ref (wB w + a), .int (nI o), .int x, .int y] (rowH w hs a f) n (rowH w hs a (hokF f o x y)) n (some (.int (nI (clbF (hokF f o x y) nb o)))) := by
  refine Cn.of (d := mX6_goHook) (by decide +kernel) (Nat.le_of_ble_eq_true rfl) ?_
  intro p e R s m args below meth c CX
  replace CX : Ctx p s m args meth c R w RX6 "goHook" cX6_goHook 4 (some .int) 4 89 0 0 := CX
  show ZW p l e R s m args below meth c w 4 _ _ 0 0 (MQ below (Qn w _ _ _) args s 0 0 (wA w)) 0 [(0, .ref (wB w + a)), (1, .int (nI o)), (2, .int x), (3, .int y)] []
  refine z_aload_n CX 0 dX6_goHook_0 rfl rfl ?_
  refine z_sipush CX (v := 134) dX6_goHook_1 (by decide) ?_
  refine z_iconst CX (v := 3) dX6_goHook_4 (by decide) ?_
  refine z_iload_n CX 1 dX6_goHook_5 rfl rfl ?_
  refine z_imul CX dX6_goHook_6 ?_
  refine z_iadd CX dX6_goHook_7 ?_
  refine z_iconst CX (v := 1) dX6_goHook_8 (by decide) ?_
  refine z_iadd CX dX6_goHook_9 ?_
  refine z_iload_n CX 2 dX6_goHook_10 rfl rfl ?_
  refine z_is CX (j := ((134 + (3 * o)) + 1)) dX6_goHook_11 row_0 (ix_add (ix_add rfl (ix_mul rfl rfl)) rfl) (by omega) (by decide) ?_
  refine z_heap row_u ?_
  refine z_aload_n CX 0 dX6_goHook_12 rfl rfl ?_
  refine z_sipush CX (v := 134) dX6_goHook_13 (by decide) ?_
  refine z_iconst CX (v := 3) dX6_goHook_16 (by decide) ?_
  refine z_iload_n CX 1 dX6_goHook_17 rfl rfl ?_
  refine z_imul CX dX6_goHook_18 ?_
  refine z_iadd CX dX6_goHook_19 ?_
  refine z_iconst CX (v := 2) dX6_goHook_20 (by decide) ?_
  refine z_iadd CX dX6_goHook_21 ?_
  refine z_iload_n CX 3 dX6_goHook_22 rfl rfl ?_
  refine z_is CX (j := ((134 + (3 * o)) + 2)) dX6_goHook_23 row_0 (ix_add (ix_add rfl (ix_mul rfl rfl)) rfl) (by omega) (by decide) ?_
  refine z_heap row_u ?_
  refine z_aload_n CX 0 dX6_goHook_24 rfl rfl ?_
  refine z_iload_n CX 1 dX6_goHook_25 rfl rfl ?_
  refine z_callS1 CX dX6_goHook_26 cs_X6_105 (c_clb (nb := nb) ((pk_un (by omega)).trans ((pk_un (by omega)).trans hf)) h9 ho) rfl rfl (Nat.le_of_ble_eq_true rfl) ⟨Nat.le_of_ble_eq_true rfl, Nat.le_of_ble_eq_true rfl⟩ ⟨Nat.le_refl _, Nat.le_refl _⟩ ?_
  exact z_iret CX dX6_goHook_29 rfl rfl rfl (Or.inl rfl)
set_option maxHeartbeats 4000000 in
set_option maxRecDepth 100000 in
theorem c_addG {l : Launch} {w : Wt} {hs : Hs} {n : Option Nat} {a : Nat} {f : Nat → Int32} {ng : Nat} (hf : f 146 = nI ng) (h9 : ng < 6) (x y u v : Int32) : Cn l w mX6_addGutter 0 0 [.ref (wB w + a), .int x, .int y, .int u, .int v] (rowH w hs a f) n (rowH w hs a (adgF f ng x y u v)) n (some (.int (nI ng))) := by
  refine Cn.of (d := mX6_addGutter) (by decide +kernel) (Nat.le_of_ble_eq_true rfl) ?_
  intro p e R s m args below meth c CX
  replace CX : Ctx p s m args meth c R w RX6 "addGutter" cX6_addGutter 7 (some .int) 0 0 0 0 := CX
  show ZW p l e R s m args below meth c w 7 _ _ 0 0 (MQ below (Qn w _ _ _) args s 0 0 (wA w)) 0 [(0, .ref (wB w + a)), (1, .int x), (2, .int y), (3, .int u), (4, .int v)] []
  by_cases h0 : ng = 0
  · skip
    refine z_iconst CX (v := 4) dX6_addGutter_0 (by decide) ?_
    refine z_aload_n CX 0 dX6_addGutter_1 rfl rfl ?_
    refine z_sipush CX (v := 146) dX6_addGutter_2 (by decide) ?_
    refine z_ia CX (j := 146) dX6_addGutter_5 row_0 rfl (by omega) (by decide) ?_
    rw [hf]
    refine z_imul CX dX6_addGutter_6 ?_
    refine z_istore CX dX6_addGutter_7 (by decide) ?_
    refine z_aload_n CX 0 dX6_addGutter_9 rfl rfl ?_
    refine z_sipush CX (v := 146) dX6_addGutter_10 (by decide) ?_
    refine z_ia CX (j := 146) dX6_addGutter_13 row_0 rfl (by omega) (by decide) ?_
    rw [hf]
    refine z_if_ne CX 21 dX6_addGutter_14 (by decide) (fun q9 => absurd q9 (fun q => q (by rw [h0]; rfl))) (fun _ => ?_)
    refine z_iconst CX (v := 1) dX6_addGutter_17 (by decide) ?_
    refine z_goto CX 22 dX6_addGutter_18 (by decide) ?_
    refine z_istore CX dX6_addGutter_22 (by decide) ?_
    refine z_aload_n CX 0 dX6_addGutter_24 rfl rfl ?_
    refine z_iload CX dX6_addGutter_25 rfl ?_
    refine z_iconst CX (v := 0) dX6_addGutter_27 (by decide) ?_
    refine z_iadd CX dX6_addGutter_28 ?_
    refine z_iload_n CX 1 dX6_addGutter_29 rfl rfl ?_
    refine z_is CX (j := ((4 * ng) + 0)) dX6_addGutter_30 row_0 (ix_add (ix_mul rfl rfl) rfl) (by omega) (by decide) ?_
    refine z_heap row_u ?_
    refine z_aload_n CX 0 dX6_addGutter_31 rfl rfl ?_
    refine z_iload CX dX6_addGutter_32 rfl ?_
    refine z_iconst CX (v := 1) dX6_addGutter_34 (by decide) ?_
    refine z_iadd CX dX6_addGutter_35 ?_
    refine z_iload_n CX 2 dX6_addGutter_36 rfl rfl ?_
    refine z_is CX (j := ((4 * ng) + 1)) dX6_addGutter_37 row_0 (ix_add (ix_mul rfl rfl) rfl) (by omega) (by decide) ?_
    refine z_heap row_u ?_
    refine z_aload_n CX 0 dX6_addGutter_38 rfl rfl ?_
    refine z_iload CX dX6_addGutter_39 rfl ?_
    refine z_iconst CX (v := 2) dX6_addGutter_41 (by decide) ?_
    refine z_iadd CX dX6_addGutter_42 ?_
    refine z_iload CX dX6_addGutter_43 rfl ?_
    refine z_if_eq CX 52 dX6_addGutter_45 (by decide) (fun q9 => absurd q9 (by decide)) (fun _ => ?_)
    refine z_iconst CX (v := (-1 : Int32)) dX6_addGutter_48 (by decide) ?_
    refine z_goto CX 53 dX6_addGutter_49 (by decide) ?_
    refine z_is CX (j := ((4 * ng) + 2)) dX6_addGutter_53 row_0 (ix_add (ix_mul rfl rfl) rfl) (by omega) (by decide) ?_
    refine z_heap row_u ?_
    refine z_aload_n CX 0 dX6_addGutter_54 rfl rfl ?_
    refine z_iload CX dX6_addGutter_55 rfl ?_
    refine z_iconst CX (v := 3) dX6_addGutter_57 (by decide) ?_
    refine z_iadd CX dX6_addGutter_58 ?_
    refine z_iload CX dX6_addGutter_59 rfl ?_
    refine z_if_eq CX 68 dX6_addGutter_61 (by decide) (fun q9 => absurd q9 (by decide)) (fun _ => ?_)
    refine z_iconst CX (v := (-1 : Int32)) dX6_addGutter_64 (by decide) ?_
    refine z_goto CX 70 dX6_addGutter_65 (by decide) ?_
    refine z_is CX (j := ((4 * ng) + 3)) dX6_addGutter_70 row_0 (ix_add (ix_mul rfl rfl) rfl) (by omega) (by decide) ?_
    refine z_heap row_u ?_
    refine z_aload_n CX 0 dX6_addGutter_71 rfl rfl ?_
    refine z_sipush CX (v := 146) dX6_addGutter_72 (by decide) ?_
    refine z_dup2 CX dX6_addGutter_75 rfl rfl ?_
    refine z_ia CX (j := 146) dX6_addGutter_76 row_0 rfl (by omega) (by decide) ?_
    refine z_iconst CX (v := 1) dX6_addGutter_77 (by decide) ?_
    refine z_iadd CX dX6_addGutter_78 ?_
    refine z_is CX (j := 146) dX6_addGutter_79 row_0 rfl (by omega) (by decide) ?_
    refine z_heap row_u ?_
    refine z_aload_n CX 0 dX6_addGutter_80 rfl rfl ?_
    refine z_sipush CX (v := 146) dX6_addGutter_81 (by decide) ?_
    refine z_ia CX (j := 146) dX6_addGutter_84 row_0 rfl (by omega) (by decide) ?_
    refine z_iconst CX (v := 1) dX6_addGutter_85 (by decide) ?_
    refine z_isub CX dX6_addGutter_86 ?_
    exact z_iret CX dX6_addGutter_87 rfl (congrArg Value.int (by rw [pk_us]; simp only [pk_un (show 146 ≠ 4 * ng + 0 by omega), pk_un (show 146 ≠ 4 * ng + 1 by omega), pk_un (show 146 ≠ 4 * ng + 2 by omega), pk_un (show 146 ≠ 4 * ng + 3 by omega)]; rw [hf, nI_1, nI_pred])) (congrArg (rowH w hs a) (by unfold adgF; simp only [pk_un (show 146 ≠ 4 * ng + 0 by omega), pk_un (show 146 ≠ 4 * ng + 1 by omega), pk_un (show 146 ≠ 4 * ng + 2 by omega), pk_un (show 146 ≠ 4 * ng + 3 by omega)]; rw [if_pos h0, if_pos h0, hf, nI_1])) (Or.inl rfl)
  · skip
    refine z_iconst CX (v := 4) dX6_addGutter_0 (by decide) ?_
    refine z_aload_n CX 0 dX6_addGutter_1 rfl rfl ?_
    refine z_sipush CX (v := 146) dX6_addGutter_2 (by decide) ?_
    refine z_ia CX (j := 146) dX6_addGutter_5 row_0 rfl (by omega) (by decide) ?_
    rw [hf]
    refine z_imul CX dX6_addGutter_6 ?_
    refine z_istore CX dX6_addGutter_7 (by decide) ?_
    refine z_aload_n CX 0 dX6_addGutter_9 rfl rfl ?_
    refine z_sipush CX (v := 146) dX6_addGutter_10 (by decide) ?_
    refine z_ia CX (j := 146) dX6_addGutter_13 row_0 rfl (by omega) (by decide) ?_
    rw [hf]
    refine z_if_ne CX 21 dX6_addGutter_14 (by decide) (fun _ => ?_) (fun q9 => absurd q9 (fun q => h0 (cnz0 (by omega : ng ≤ 6) q)))
    refine z_iconst CX (v := 0) dX6_addGutter_21 (by decide) ?_
    refine z_istore CX dX6_addGutter_22 (by decide) ?_
    refine z_aload_n CX 0 dX6_addGutter_24 rfl rfl ?_
    refine z_iload CX dX6_addGutter_25 rfl ?_
    refine z_iconst CX (v := 0) dX6_addGutter_27 (by decide) ?_
    refine z_iadd CX dX6_addGutter_28 ?_
    refine z_iload_n CX 1 dX6_addGutter_29 rfl rfl ?_
    refine z_is CX (j := ((4 * ng) + 0)) dX6_addGutter_30 row_0 (ix_add (ix_mul rfl rfl) rfl) (by omega) (by decide) ?_
    refine z_heap row_u ?_
    refine z_aload_n CX 0 dX6_addGutter_31 rfl rfl ?_
    refine z_iload CX dX6_addGutter_32 rfl ?_
    refine z_iconst CX (v := 1) dX6_addGutter_34 (by decide) ?_
    refine z_iadd CX dX6_addGutter_35 ?_
    refine z_iload_n CX 2 dX6_addGutter_36 rfl rfl ?_
    refine z_is CX (j := ((4 * ng) + 1)) dX6_addGutter_37 row_0 (ix_add (ix_mul rfl rfl) rfl) (by omega) (by decide) ?_
    refine z_heap row_u ?_
    refine z_aload_n CX 0 dX6_addGutter_38 rfl rfl ?_
    refine z_iload CX dX6_addGutter_39 rfl ?_
    refine z_iconst CX (v := 2) dX6_addGutter_41 (by decide) ?_
    refine z_iadd CX dX6_addGutter_42 ?_
    refine z_iload CX dX6_addGutter_43 rfl ?_
    refine z_if_eq CX 52 dX6_addGutter_45 (by decide) (fun _ => ?_) (fun q9 => absurd rfl q9)
    refine z_iload_n CX 3 dX6_addGutter_52 rfl rfl ?_
    refine z_is CX (j := ((4 * ng) + 2)) dX6_addGutter_53 row_0 (ix_add (ix_mul rfl rfl) rfl) (by omega) (by decide) ?_
    refine z_heap row_u ?_
    refine z_aload_n CX 0 dX6_addGutter_54 rfl rfl ?_
    refine z_iload CX dX6_addGutter_55 rfl ?_
    refine z_iconst CX (v := 3) dX6_addGutter_57 (by decide) ?_
    refine z_iadd CX dX6_addGutter_58 ?_
    refine z_iload CX dX6_addGutter_59 rfl ?_
    refine z_if_eq CX 68 dX6_addGutter_61 (by decide) (fun _ => ?_) (fun q9 => absurd rfl q9)
    refine z_iload CX dX6_addGutter_68 rfl ?_
    refine z_is CX (j := ((4 * ng) + 3)) dX6_addGutter_70 row_0 (ix_add (ix_mul rfl rfl) rfl) (by omega) (by decide) ?_
    refine z_heap row_u ?_
    refine z_aload_n CX 0 dX6_addGutter_71 rfl rfl ?_
    refine z_sipush CX (v := 146) dX6_addGutter_72 (by decide) ?_
    refine z_dup2 CX dX6_addGutter_75 rfl rfl ?_
    refine z_ia CX (j := 146) dX6_addGutter_76 row_0 rfl (by omega) (by decide) ?_
    refine z_iconst CX (v := 1) dX6_addGutter_77 (by decide) ?_
    refine z_iadd CX dX6_addGutter_78 ?_
    refine z_is CX (j := 146) dX6_addGutter_79 row_0 rfl (by omega) (by decide) ?_
    refine z_heap row_u ?_
    refine z_aload_n CX 0 dX6_addGutter_80 rfl rfl ?_
    refine z_sipush CX (v := 146) dX6_addGutter_81 (by decide) ?_
    refine z_ia CX (j := 146) dX6_addGutter_84 row_0 rfl (by omega) (by decide) ?_
    refine z_iconst CX (v := 1) dX6_addGutter_85 (by decide) ?_
    refine z_isub CX dX6_addGutter_86 ?_
    exact z_iret CX dX6_addGutter_87 rfl (congrArg Value.int (by rw [pk_us]; simp only [pk_un (show 146 ≠ 4 * ng + 0 by omega), pk_un (show 146 ≠ 4 * ng + 1 by omega), pk_un (show 146 ≠ 4 * ng + 2 by omega), pk_un (show 146 ≠ 4 * ng + 3 by omega)]; rw [hf, nI_1, nI_pred])) (congrArg (rowH w hs a) (by unfold adgF; simp only [pk_un (show 146 ≠ 4 * ng + 0 by omega), pk_un (show 146 ≠ 4 * ng + 1 by omega), pk_un (show 146 ≠ 4 * ng + 2 by omega), pk_un (show 146 ≠ 4 * ng + 3 by omega)]; rw [if_neg h0, if_neg h0, hf, nI_1])) (Or.inl rfl)
theorem clrF_n {lo hi j : Nat} {f : Nat → Int32} (h : j < lo ∨ hi ≤ j) : clrF lo hi f j = f j := if_neg (by omega)
set_option maxHeartbeats 4000000 in
set_option maxRecDepth 100000 in
theorem c_addB {l : Launch} {w : Wt} {hs : Hs} {n : Option Nat} {a : Nat} {f : Nat → Int32} {nb : Nat} (hf : f 147 = nI nb) (h9 : nb < 11) (x y z9 : Int32) : Cn l w mX6_addBoat 0 0 [.ref (wB w + a), .int x, .int y, .int z9] (rowH w hs a f) n (rowH w hs a (adbF f nb x y z9)) n (some (.int (nI nb))) := by
  refine Cn.of (d := mX6_addBoat) (by decide +kernel) (Nat.le_of_ble_eq_true rfl) ?_
  intro p e R s m args below meth c CX
  replace CX : Ctx p s m args meth c R w RX6 "addBoat" cX6_addBoat 6 (some .int) 1 20 0 0 := CX
  show ZW p l e R s m args below meth c w 6 _ _ 0 0 (MQ below (Qn w _ _ _) args s 0 0 (wA w)) 0 [(0, .ref (wB w + a)), (1, .int x), (2, .int y), (3, .int z9)] []
  have LP : ∀ (j i : Nat), i + j = 10 → ZW p l e R s m args below meth c w 6 (rowH w hs a (clrF (24 + 10 * nb) (24 + 10 * nb + i) f)) n 0 0 (MQ below (Qn w (rowH w hs a (adbF f nb x y z9)) n (some (.int (nI nb)))) args s 0 0 (wA w)) 13 [(0, .ref (wB w + a)), (1, .int x), (2, .int y), (3, .int z9), (4, .int (nI (24 + 10 * nb))), (5, .int (nI i))] [] := by
    intro j
    induction j with
    | zero =>
      intro i hi
      have hi9 : i = 10 := by omega
      subst hi9
      refine z_iload CX dX6_addBoat_13 rfl ?_
      refine z_bipush CX (v := 10) dX6_addBoat_15 (by decide) ?_
      refine z_icmp_ge CX 34 dX6_addBoat_17 (by decide) (fun _ => ?_) (fun q9 => absurd (by decide) q9)
      refine z_aload_n CX 0 dX6_addBoat_34 rfl rfl ?_
      refine z_iload CX dX6_addBoat_35 rfl ?_
      refine z_iconst CX (v := 0) dX6_addBoat_37 (by decide) ?_
      refine z_iadd CX dX6_addBoat_38 ?_
      refine z_iload_n CX 1 dX6_addBoat_39 rfl rfl ?_
      refine z_is CX (j := (24 + 10 * nb + 0)) dX6_addBoat_40 row_0 (ix_add rfl rfl) (by omega) (by decide) ?_
      refine z_heap row_u ?_
      refine z_aload_n CX 0 dX6_addBoat_41 rfl rfl ?_
      refine z_iload CX dX6_addBoat_42 rfl ?_
      refine z_iconst CX (v := 1) dX6_addBoat_44 (by decide) ?_
      refine z_iadd CX dX6_addBoat_45 ?_
      refine z_iload_n CX 2 dX6_addBoat_46 rfl rfl ?_
      refine z_is CX (j := (24 + 10 * nb + 1)) dX6_addBoat_47 row_0 (ix_add rfl rfl) (by omega) (by decide) ?_
      refine z_heap row_u ?_
      refine z_aload_n CX 0 dX6_addBoat_48 rfl rfl ?_
      refine z_iload CX dX6_addBoat_49 rfl ?_
      refine z_iconst CX (v := 2) dX6_addBoat_51 (by decide) ?_
      refine z_iadd CX dX6_addBoat_52 ?_
      refine z_iload_n CX 3 dX6_addBoat_53 rfl rfl ?_
      refine z_is CX (j := (24 + 10 * nb + 2)) dX6_addBoat_54 row_0 (ix_add rfl rfl) (by omega) (by decide) ?_
      refine z_heap row_u ?_
      refine z_aload_n CX 0 dX6_addBoat_55 rfl rfl ?_
      refine z_sipush CX (v := 147) dX6_addBoat_56 (by decide) ?_
      refine z_dup2 CX dX6_addBoat_59 rfl rfl ?_
      refine z_ia CX (j := 147) dX6_addBoat_60 row_0 rfl (by omega) (by decide) ?_
      refine z_iconst CX (v := 1) dX6_addBoat_61 (by decide) ?_
      refine z_iadd CX dX6_addBoat_62 ?_
      refine z_is CX (j := 147) dX6_addBoat_63 row_0 rfl (by omega) (by decide) ?_
      refine z_heap row_u ?_
      refine z_aload_n CX 0 dX6_addBoat_64 rfl rfl ?_
      refine z_sipush CX (v := 147) dX6_addBoat_65 (by decide) ?_
      refine z_ia CX (j := 147) dX6_addBoat_68 row_0 rfl (by omega) (by decide) ?_
      refine z_iconst CX (v := 1) dX6_addBoat_69 (by decide) ?_
      refine z_isub CX dX6_addBoat_70 ?_
      exact z_iret CX dX6_addBoat_71 rfl (congrArg Value.int (by rw [pk_us]; simp only [pk_un (show 147 ≠ 24 + 10 * nb + 0 by omega), pk_un (show 147 ≠ 24 + 10 * nb + 1 by omega), pk_un (show 147 ≠ 24 + 10 * nb + 2 by omega)]; rw [(show clrF (24 + 10 * nb) (24 + 10 * nb + 10) f 147 = nI nb from (clrF_n (by omega)).trans hf), nI_1, nI_pred])) (congrArg (rowH w hs a) (by simp only [pk_un (show 147 ≠ 24 + 10 * nb + 0 by omega), pk_un (show 147 ≠ 24 + 10 * nb + 1 by omega), pk_un (show 147 ≠ 24 + 10 * nb + 2 by omega)]; rw [(show clrF (24 + 10 * nb) (24 + 10 * nb + 10) f 147 = nI nb from (clrF_n (by omega)).trans hf), nI_1]; rfl)) (Or.inl rfl)
    | succ j ih =>
      intro i hi
      refine z_iload CX dX6_addBoat_13 rfl ?_
      refine z_bipush CX (v := 10) dX6_addBoat_15 (by decide) ?_
      refine z_icmp_ge CX 34 dX6_addBoat_17 (by decide) (fun q9 => absurd q9 (nI_ge (b := 10) (by omega) (by omega))) (fun _ => ?_)
      refine z_aload_n CX 0 dX6_addBoat_20 rfl rfl ?_
      refine z_iload CX dX6_addBoat_21 rfl ?_
      refine z_iload CX dX6_addBoat_23 rfl ?_
      refine z_iadd CX dX6_addBoat_25 ?_
      refine z_iconst CX (v := 0) dX6_addBoat_26 (by decide) ?_
      refine z_is CX (j := (24 + 10 * nb + i)) dX6_addBoat_27 row_0 (ix_add rfl rfl) (by omega) (by decide) ?_
      refine z_heap row_u ?_
      refine z_iinc CX (v := nI (i + 1)) dX6_addBoat_28 rfl (nI_1 i) (by decide) ?_
      refine z_goto CX 13 dX6_addBoat_31 (by decide) ?_
      refine z_heap (congrArg (rowH w hs a) (clrF_s (by omega) f)) ?_
      refine z_loc [(0, .ref (wB w + a)), (1, .int x), (2, .int y), (3, .int z9), (4, .int (nI (24 + 10 * nb))), (5, .int (nI (i + 1)))] ⟨rfl, rfl, rfl, rfl, rfl, rfl, trivial⟩ ?_
      exact ih (i + 1) (by omega)
  refine z_aload_n CX 0 dX6_addBoat_0 rfl rfl ?_
  refine z_sipush CX (v := 147) dX6_addBoat_1 (by decide) ?_
  refine z_ia CX (j := 147) dX6_addBoat_4 row_0 rfl (by omega) (by decide) ?_
  rw [hf]
  refine z_callS1 CX dX6_addBoat_5 cs_X6_60 (c_spot nb) rfl rfl (Nat.le_of_ble_eq_true rfl) ⟨Nat.le_of_ble_eq_true rfl, Nat.le_of_ble_eq_true rfl⟩ ⟨Nat.le_refl _, Nat.le_refl _⟩ ?_
  refine z_istore CX dX6_addBoat_8 (by decide) ?_
  refine z_iconst CX (v := 0) dX6_addBoat_10 (by decide) ?_
  refine z_istore CX dX6_addBoat_11 (by decide) ?_
  refine z_heap (congrArg (rowH w hs a) (clrF_0 (24 + 10 * nb) f).symm) ?_
  refine z_loc [(0, .ref (wB w + a)), (1, .int x), (2, .int y), (3, .int z9), (4, .int (nI (24 + 10 * nb))), (5, .int (nI 0))] ⟨rfl, rfl, rfl, rfl, rfl, rfl, trivial⟩ ?_
  exact LP 10 0 (by omega)
theorem drn_c {f f' : Nat → Int32} {ng : Nat} (hG : GG f ng) (h : ∀ j, j < 24 → f' j = f j) : ∀ (k g : Nat) (sm c : Int32), g < ng → drn f' k sm (nI g).toNatClampNeg c = drn f k sm (nI g).toNatClampNeg c
  | 0, g, sm, c, _ => by show sm + f' 0 - c = sm + f 0 - c; rw [h 0 (by omega)]
  | k + 1, g, sm, c, hg => by
    have h6 := hG.2.1
    rw [nI_clamp (show g < 2 ^ 31 by omega)]
    show (if _ then _ else _) = (if _ then _ else _)
    by_cases h0 : g = 0
    · rw [if_pos h0, if_pos h0, h 0 (by omega)]
    · rw [if_neg h0, if_neg h0, h (4 * g + 0) (by omega), h (4 * g + 2) (by omega), h (4 * g + 3) (by omega)]
      obtain ⟨i, a, L, i1, e1, -⟩ := (hG.2.2.2 g hg).2.2 (by omega)
      rw [e1]
      exact drn_c hG h k i _ _ (by omega)
theorem ln1_n {f : Nat → Int32} {nb j : Nat} (h1 : j ≠ 149) (h2 : j ≠ 150) (h3 : j ≠ 153) : ln1 f nb j = f j := by
  unfold ln1; split
  · rw [pk_un h3, pk_un h2, pk_un h1]
  · rfl
theorem lnF_n {f : Nat → Int32} {nb b j : Nat} {g : Int32} (h1 : j ≠ 149) (h2 : j ≠ 150) (h3 : j ≠ 153) (h4 : j < 24 + 10 * b + 3 ∨ 24 + 10 * b + 6 < j) : lnF f nb b g j = f j := by
  unfold lnF; rw [pk_un (by omega), pk_un (by omega), pk_un (by omega), pk_un (by omega)]; exact ln1_n h1 h2 h3
theorem drn_ln {f : Nat → Int32} {ng nb b g : Nat} (hG : GG f ng) (hg : g < ng) : drn (lnF f nb b (nI g)) 6 0 g 0 = drn f 6 0 g 0 := by
  have h6 := hG.2.1
  have := drn_c hG (f' := lnF f nb b (nI g)) (fun j hj => lnF_n (by omega) (by omega) (by omega) (by omega)) 6 g 0 0 hg
  rw [nI_clamp (by omega)] at this
  exact this
set_option maxHeartbeats 4000000 in
set_option maxRecDepth 100000 in
theorem c_goL {l : Launch} {w : Wt} {hs : Hs} {n : Option Nat} {a : Nat} {f : Nat → Int32} {ng nb b g : Nat} (hG : GG f ng) (hf : f 147 = nI nb) (h9 : nb ≤ 11) (hb : b < 11) (hg : g < ng) : Cn l w mX6_goLaunch 0 0 [.ref (wB w + a), .int (nI b), .int (nI g)] (rowH w hs a f) n (rowH w hs a (lnF f nb b (nI g))) n (some (.int (drn f 6 0 g 0))) := by
  refine Cn.of (d := mX6_goLaunch) (by decide +kernel) (Nat.le_of_ble_eq_true rfl) ?_
  intro p e R s m args below meth c CX
  replace CX : Ctx p s m args meth c R w RX6 "goLaunch" cX6_goLaunch 3 (some .int) 3 64 0 0 := CX
  show ZW p l e R s m args below meth c w 3 _ _ 0 0 (MQ below (Qn w _ _ _) args s 0 0 (wA w)) 0 [(0, .ref (wB w + a)), (1, .int (nI b)), (2, .int (nI g))] []
  have TL : ZW p l e R s m args below meth c w 3 (rowH w hs a (ln1 f nb)) n 0 0 (MQ below (Qn w (rowH w hs a (lnF f nb b (nI g))) n (some (.int (drn f 6 0 g 0)))) args s 0 0 (wA w)) 35 [(0, .ref (wB w + a)), (1, .int (nI b)), (2, .int (nI g))] [] := by
      refine z_aload_n CX 0 dX6_goLaunch_35 rfl rfl ?_
      refine z_iload_n CX 1 dX6_goLaunch_36 rfl rfl ?_
      refine z_callS1 CX dX6_goLaunch_37 cs_X6_60 (c_spot b) rfl rfl (Nat.le_of_ble_eq_true rfl) ⟨Nat.le_of_ble_eq_true rfl, Nat.le_of_ble_eq_true rfl⟩ ⟨Nat.le_refl _, Nat.le_refl _⟩ ?_
      refine z_iconst CX (v := 3) dX6_goLaunch_40 (by decide) ?_
      refine z_iadd CX dX6_goLaunch_41 ?_
      refine z_iconst CX (v := 1) dX6_goLaunch_42 (by decide) ?_
      refine z_is CX (j := ((24 + 10 * b) + 3)) dX6_goLaunch_43 row_0 (ix_add rfl rfl) (by omega) (by decide) ?_
      refine z_heap row_u ?_
      refine z_aload_n CX 0 dX6_goLaunch_44 rfl rfl ?_
      refine z_iload_n CX 1 dX6_goLaunch_45 rfl rfl ?_
      refine z_callS1 CX dX6_goLaunch_46 cs_X6_60 (c_spot b) rfl rfl (Nat.le_of_ble_eq_true rfl) ⟨Nat.le_of_ble_eq_true rfl, Nat.le_of_ble_eq_true rfl⟩ ⟨Nat.le_refl _, Nat.le_refl _⟩ ?_
      refine z_iconst CX (v := 4) dX6_goLaunch_49 (by decide) ?_
      refine z_iadd CX dX6_goLaunch_50 ?_
      refine z_iload_n CX 2 dX6_goLaunch_51 rfl rfl ?_
      refine z_is CX (j := ((24 + 10 * b) + 4)) dX6_goLaunch_52 row_0 (ix_add rfl rfl) (by omega) (by decide) ?_
      refine z_heap row_u ?_
      refine z_aload_n CX 0 dX6_goLaunch_53 rfl rfl ?_
      refine z_iload_n CX 1 dX6_goLaunch_54 rfl rfl ?_
      refine z_callS1 CX dX6_goLaunch_55 cs_X6_60 (c_spot b) rfl rfl (Nat.le_of_ble_eq_true rfl) ⟨Nat.le_of_ble_eq_true rfl, Nat.le_of_ble_eq_true rfl⟩ ⟨Nat.le_refl _, Nat.le_refl _⟩ ?_
      refine z_iconst CX (v := 5) dX6_goLaunch_58 (by decide) ?_
      refine z_iadd CX dX6_goLaunch_59 ?_
      refine z_iconst CX (v := 0) dX6_goLaunch_60 (by decide) ?_
      refine z_is CX (j := ((24 + 10 * b) + 5)) dX6_goLaunch_61 row_0 (ix_add rfl rfl) (by omega) (by decide) ?_
      refine z_heap row_u ?_
      refine z_aload_n CX 0 dX6_goLaunch_62 rfl rfl ?_
      refine z_iload_n CX 1 dX6_goLaunch_63 rfl rfl ?_
      refine z_callS1 CX dX6_goLaunch_64 cs_X6_60 (c_spot b) rfl rfl (Nat.le_of_ble_eq_true rfl) ⟨Nat.le_of_ble_eq_true rfl, Nat.le_of_ble_eq_true rfl⟩ ⟨Nat.le_refl _, Nat.le_refl _⟩ ?_
      refine z_bipush CX (v := 6) dX6_goLaunch_67 (by decide) ?_
      refine z_iadd CX dX6_goLaunch_69 ?_
      refine z_iconst CX (v := 0) dX6_goLaunch_70 (by decide) ?_
      refine z_is CX (j := ((24 + 10 * b) + 6)) dX6_goLaunch_71 row_0 (ix_add rfl rfl) (by omega) (by decide) ?_
      refine z_heap row_u ?_
      refine z_heap (show _ = rowH w hs a (lnF f nb b (nI g)) from rfl) ?_
      refine z_aload_n CX 0 dX6_goLaunch_72 rfl rfl ?_
      refine z_iload_n CX 2 dX6_goLaunch_73 rfl rfl ?_
      refine z_iconst CX (v := 0) dX6_goLaunch_74 (by decide) ?_
      refine z_callS1 CX dX6_goLaunch_75 cs_X6_108 (c_toD (f := lnF f nb b (nI g)) (hG.to (fun j hj => lnF_n (by omega) (by omega) (by omega) (by omega)) (lnF_n (by omega) (by omega) (by omega) (by omega))) hG.2.1 hg 0) rfl rfl (Nat.le_of_ble_eq_true rfl) ⟨Nat.le_of_ble_eq_true rfl, Nat.le_of_ble_eq_true rfl⟩ ⟨Nat.le_refl _, Nat.le_refl _⟩ ?_
      exact z_iret CX dX6_goLaunch_78 rfl (congrArg Value.int (drn_ln hG hg).symm) rfl (Or.inl rfl)
  refine z_aload_n CX 0 dX6_goLaunch_0 rfl rfl ?_
  refine z_iconst CX (v := 1) dX6_goLaunch_1 (by decide) ?_
  refine z_callS1 CX dX6_goLaunch_2 cs_X6_82 (c_inSt hf h9 _) rfl rfl (Nat.le_of_ble_eq_true rfl) ⟨Nat.le_of_ble_eq_true rfl, Nat.le_of_ble_eq_true rfl⟩ ⟨Nat.le_refl _, Nat.le_refl _⟩ ?_
  refine z_aload_n CX 0 dX6_goLaunch_5 rfl rfl ?_
  refine z_iconst CX (v := 2) dX6_goLaunch_6 (by decide) ?_
  refine z_callS1 CX dX6_goLaunch_7 cs_X6_82 (c_inSt hf h9 _) rfl rfl (Nat.le_of_ble_eq_true rfl) ⟨Nat.le_of_ble_eq_true rfl, Nat.le_of_ble_eq_true rfl⟩ ⟨Nat.le_refl _, Nat.le_refl _⟩ ?_
  refine z_iadd CX dX6_goLaunch_10 ?_
  rw [nI_add]
  refine z_if_ne CX 35 dX6_goLaunch_11 (by decide) (fun c_11 => ?_) (fun c_11 => ?_)
  · skip
    refine z_heap (congrArg (rowH w hs a) (show _ = ln1 f nb from (by unfold ln1; rw [if_neg (fun q => c_11 (by rw [q]; rfl))]))) ?_
    exact TL
  · skip
    refine z_aload_n CX 0 dX6_goLaunch_14 rfl rfl ?_
    refine z_sipush CX (v := 149) dX6_goLaunch_15 (by decide) ?_
    refine z_dup2 CX dX6_goLaunch_18 rfl rfl ?_
    refine z_ia CX (j := 149) dX6_goLaunch_19 row_0 rfl (by omega) (by decide) ?_
    refine z_iconst CX (v := 1) dX6_goLaunch_20 (by decide) ?_
    refine z_iadd CX dX6_goLaunch_21 ?_
    refine z_is CX (j := 149) dX6_goLaunch_22 row_0 rfl (by omega) (by decide) ?_
    refine z_heap row_u ?_
    refine z_aload_n CX 0 dX6_goLaunch_23 rfl rfl ?_
    refine z_sipush CX (v := 150) dX6_goLaunch_24 (by decide) ?_
    refine z_iconst CX (v := 1) dX6_goLaunch_27 (by decide) ?_
    refine z_is CX (j := 150) dX6_goLaunch_28 row_0 rfl (by omega) (by decide) ?_
    refine z_heap row_u ?_
    refine z_aload_n CX 0 dX6_goLaunch_29 rfl rfl ?_
    refine z_sipush CX (v := 153) dX6_goLaunch_30 (by decide) ?_
    refine z_iconst CX (v := 0) dX6_goLaunch_33 (by decide) ?_
    refine z_is CX (j := 153) dX6_goLaunch_34 row_0 rfl (by omega) (by decide) ?_
    refine z_heap row_u ?_
    refine z_heap (congrArg (rowH w hs a) (show _ = ln1 f nb from (by unfold ln1; rw [if_pos (cnz0 (show cntS f nb 1 + cntS f nb 2 ≤ 22 by have := cntN_le (fun b => decide (f (24 + 10 * b + 3) = 1)) nb; have := cntN_le (fun b => decide (f (24 + 10 * b + 3) = 2)) nb; unfold cntS; omega) c_11)]))) ?_
    exact TL
set_option maxHeartbeats 4000000 in
set_option maxRecDepth 100000 in
theorem c_putM {l : Launch} {w : Wt} {hs : Hs} {n : Option Nat} {a : Nat} {f : Nat → Int32} {k : Nat} (hk : k < 157) (x : Int32) : Cn l w mX6_put 0 0 [.ref (wB w + a), .int (nI k), .int x] (rowH w hs a f) n (rowH w hs a (upd f k x)) n (some (.int (f k))) := by
  refine Cn.of (d := mX6_put) (by decide +kernel) (Nat.le_of_ble_eq_true rfl) ?_
  intro p e R s m args below meth c CX
  replace CX : Ctx p s m args meth c R w RX6 "put" cX6_put 4 (some .int) 0 0 0 0 := CX
  show ZW p l e R s m args below meth c w 4 _ _ 0 0 (MQ below (Qn w _ _ _) args s 0 0 (wA w)) 0 [(0, .ref (wB w + a)), (1, .int (nI k)), (2, .int x)] []
  refine z_aload_n CX 0 dX6_put_0 rfl rfl ?_
  refine z_iload_n CX 1 dX6_put_1 rfl rfl ?_
  refine z_ia CX (j := k) dX6_put_2 row_0 rfl (by omega) (by decide) ?_
  refine z_istore_n CX 3 dX6_put_3 rfl (by decide) ?_
  refine z_aload_n CX 0 dX6_put_4 rfl rfl ?_
  refine z_iload_n CX 1 dX6_put_5 rfl rfl ?_
  refine z_iload_n CX 2 dX6_put_6 rfl rfl ?_
  refine z_is CX (j := k) dX6_put_7 row_0 rfl (by omega) (by decide) ?_
  refine z_heap row_u ?_
  refine z_iload_n CX 3 dX6_put_8 rfl rfl ?_
  exact z_iret CX dX6_put_9 rfl rfl rfl (Or.inl rfl)
