set_option maxHeartbeats 4000000 in
set_option maxRecDepth 100000 in
theorem c_inSt {l : Launch} {w : Wt} {hs : Hs} {n : Option Nat} {a : Nat} {f : Nat → Int32} {nb : Nat} (hf : f 147 = nI nb) (h9 : nb ≤ 11) (x : Int32) : Cn l w mX6_inState 0 0 [.ref (wB w + a), .int x] (rowH w hs a f) n (rowH w hs a f) n (some (.int (nI (cntS f nb x)))) := by
  refine Cn.of (d := mX6_inState) (by decide +kernel) (Nat.le_of_ble_eq_true rfl) ?_
  intro p e R s m args below meth c CX
  replace CX : Ctx p s m args meth c R w RX6 "inState" cX6_inState 4 (some .int) 2 41 0 0 := CX
  show ZW p l e R s m args below meth c w 4 _ _ 0 0 (MQ below (Qn w _ _ _) args s 0 0 (wA w)) 0 [(0, .ref (wB w + a)), (1, .int x)] []
  have LP : ∀ (j i : Nat), i + j = nb → ZW p l e R s m args below meth c w 4 (rowH w hs a f) n 0 0 (MQ below (Qn w (rowH w hs a f) n (some (.int (nI (cntS f nb x))))) args s 0 0 (wA w)) 4 [(0, .ref (wB w + a)), (1, .int x), (2, .int (nI (cntS f i x))), (3, .int (nI i))] [] := by
    intro j
    induction j with
    | zero =>
      intro i hi
      refine z_iload_n CX 3 dX6_inState_4 rfl rfl ?_
      refine z_aload_n CX 0 dX6_inState_5 rfl rfl ?_
      refine z_sipush CX (v := 147) dX6_inState_6 (by decide) ?_
      refine z_ia CX (j := 147) dX6_inState_9 row_0 rfl (by omega) (by decide) ?_
      rw [hf]
      refine z_icmp_ge CX 36 dX6_inState_10 (by decide) (fun _ => ?_) (fun q9 => absurd (nI_le (by omega) (by omega)) q9)
      refine z_iload_n CX 2 dX6_inState_36 rfl rfl ?_
      exact z_iret CX dX6_inState_37 rfl (by rw [show i = nb by omega]) rfl (Or.inl rfl)
    | succ j ih =>
      intro i hi
      refine z_iload_n CX 3 dX6_inState_4 rfl rfl ?_
      refine z_aload_n CX 0 dX6_inState_5 rfl rfl ?_
      refine z_sipush CX (v := 147) dX6_inState_6 (by decide) ?_
      refine z_ia CX (j := 147) dX6_inState_9 row_0 rfl (by omega) (by decide) ?_
      rw [hf]
      refine z_icmp_ge CX 36 dX6_inState_10 (by decide) (fun q9 => absurd q9 (nI_ge (by omega) (by omega))) (fun _ => ?_)
      refine z_iload_n CX 2 dX6_inState_13 rfl rfl ?_
      refine z_aload_n CX 0 dX6_inState_14 rfl rfl ?_
      refine z_iload_n CX 3 dX6_inState_15 rfl rfl ?_
      refine z_callS1 CX dX6_inState_16 cs_X6_64 (c_state (b := i) (by omega)) rfl rfl (Nat.le_of_ble_eq_true rfl) ⟨Nat.le_of_ble_eq_true rfl, Nat.le_of_ble_eq_true rfl⟩ ⟨Nat.le_refl _, Nat.le_refl _⟩ ?_
      refine z_iload_n CX 1 dX6_inState_19 rfl rfl ?_
      refine z_icmp_ne CX 27 dX6_inState_20 (by decide) (fun c_20 => ?_) (fun c_20 => ?_)
      · skip
        refine z_iconst CX (v := 0) dX6_inState_27 (by decide) ?_
        refine z_iadd CX dX6_inState_28 ?_
        refine z_istore_n CX 2 dX6_inState_29 rfl (by decide) ?_
        refine z_iinc CX (v := nI (i + 1)) dX6_inState_30 rfl (nI_1 i) (by decide) ?_
        refine z_goto CX 4 dX6_inState_33 (by decide) ?_
        refine z_loc [(0, .ref (wB w + a)), (1, .int x), (2, .int (nI (cntS f (i + 1) x))), (3, .int (nI (i + 1)))] ⟨rfl, rfl, congrArg (fun z => some (Value.int z)) (by show nI (cntN _ i) + 0 = nI (cntN _ i + _); simp [c_20, nI_1]), rfl, trivial⟩ ?_
        exact ih (i + 1) (by omega)
      · skip
        refine z_iconst CX (v := 1) dX6_inState_23 (by decide) ?_
        refine z_goto CX 28 dX6_inState_24 (by decide) ?_
        refine z_iadd CX dX6_inState_28 ?_
        refine z_istore_n CX 2 dX6_inState_29 rfl (by decide) ?_
        refine z_iinc CX (v := nI (i + 1)) dX6_inState_30 rfl (nI_1 i) (by decide) ?_
        refine z_goto CX 4 dX6_inState_33 (by decide) ?_
        refine z_loc [(0, .ref (wB w + a)), (1, .int x), (2, .int (nI (cntS f (i + 1) x))), (3, .int (nI (i + 1)))] ⟨rfl, rfl, congrArg (fun z => some (Value.int z)) (by show nI (cntN _ i) + 1 = nI (cntN _ i + _); simp [c_20, nI_1]), rfl, trivial⟩ ?_
        exact ih (i + 1) (by omega)
  refine z_iconst CX (v := 0) dX6_inState_0 (by decide) ?_
  refine z_istore_n CX 2 dX6_inState_1 rfl (by decide) ?_
  refine z_iconst CX (v := 0) dX6_inState_2 (by decide) ?_
  refine z_istore_n CX 3 dX6_inState_3 rfl (by decide) ?_
  refine z_loc [(0, .ref (wB w + a)), (1, .int x), (2, .int (nI (cntS f 0 x))), (3, .int (nI 0))] ⟨rfl, rfl, rfl, rfl, trivial⟩ ?_
  exact LP nb 0 (by omega)
set_option maxHeartbeats 4000000 in
set_option maxRecDepth 100000 in
theorem c_isW {l : Launch} {w : Wt} {hs : Hs} {n : Option Nat} {a : Nat} {f : Nat → Int32} {nb : Nat} (hf : f 147 = nI nb) (h9 : nb ≤ 11) (x y : Int32) : Cn l w mX6_isWreck 0 0 [.ref (wB w + a), .int x, .int y] (rowH w hs a f) n (rowH w hs a f) n (some (.int (bI (wrk f nb x y)))) := by
  refine Cn.of (d := mX6_isWreck) (by decide +kernel) (Nat.le_of_ble_eq_true rfl) ?_
  intro p e R s m args below meth c CX
  replace CX : Ctx p s m args meth c R w RX6 "isWreck" cX6_isWreck 5 (some .boolean) 2 41 0 0 := CX
  show ZW p l e R s m args below meth c w 5 _ _ 0 0 (MQ below (Qn w _ _ _) args s 0 0 (wA w)) 0 [(0, .ref (wB w + a)), (1, .int x), (2, .int y)] []
  have LP : ∀ (j i : Nat), i + j = nb → ZW p l e R s m args below meth c w 5 (rowH w hs a f) n 0 0 (MQ below (Qn w (rowH w hs a f) n (some (.int (bI (wrk f nb x y))))) args s 0 0 (wA w)) 5 [(0, .ref (wB w + a)), (1, .int x), (2, .int y), (3, .int (bI (anyN (fun b => decide (f (24 + 10 * b + 3) = 3 ∧ f (24 + 10 * b + 4) = x ∧ f (24 + 10 * b + 5) = y)) i))), (4, .int (nI i))] [] := by
    intro j
    induction j with
    | zero =>
      intro i hi
      refine z_iload CX dX6_isWreck_5 rfl ?_
      refine z_aload_n CX 0 dX6_isWreck_7 rfl rfl ?_
      refine z_sipush CX (v := 147) dX6_isWreck_8 (by decide) ?_
      refine z_ia CX (j := 147) dX6_isWreck_11 row_0 rfl (by omega) (by decide) ?_
      rw [hf]
      refine z_icmp_ge CX 67 dX6_isWreck_12 (by decide) (fun _ => ?_) (fun q9 => absurd (nI_le (by omega) (by omega)) q9)
      refine z_iload_n CX 3 dX6_isWreck_67 rfl rfl ?_
      exact z_zret CX dX6_isWreck_68 rfl (by first | rfl | exact bI_nar _) (by rw [show i = nb by omega]; rfl) rfl (Or.inl rfl)
    | succ j ih =>
      intro i hi
      refine z_iload CX dX6_isWreck_5 rfl ?_
      refine z_aload_n CX 0 dX6_isWreck_7 rfl rfl ?_
      refine z_sipush CX (v := 147) dX6_isWreck_8 (by decide) ?_
      refine z_ia CX (j := 147) dX6_isWreck_11 row_0 rfl (by omega) (by decide) ?_
      rw [hf]
      refine z_icmp_ge CX 67 dX6_isWreck_12 (by decide) (fun q9 => absurd q9 (nI_ge (by omega) (by omega))) (fun _ => ?_)
      refine z_iload_n CX 3 dX6_isWreck_15 rfl rfl ?_
      refine z_if_ne CX 55 dX6_isWreck_16 (by decide) (fun c_16 => ?_) (fun c_16 => ?_)
      · skip
        refine z_iconst CX (v := 1) dX6_isWreck_55 (by decide) ?_
        refine z_goto CX 60 dX6_isWreck_56 (by decide) ?_
        refine z_istore_n CX 3 dX6_isWreck_60 rfl (by decide) ?_
        refine z_iinc CX (v := nI (i + 1)) dX6_isWreck_61 rfl (nI_1 i) (by decide) ?_
        refine z_goto CX 5 dX6_isWreck_64 (by decide) ?_
        refine z_loc [(0, .ref (wB w + a)), (1, .int x), (2, .int y), (3, .int (bI (anyN (fun b => decide (f (24 + 10 * b + 3) = 3 ∧ f (24 + 10 * b + 4) = x ∧ f (24 + 10 * b + 5) = y)) (i + 1)))), (4, .int (nI (i + 1)))] ⟨rfl, rfl, rfl, congrArg (fun z => some (Value.int z)) (by rw [show anyN (fun b => decide (f (24 + 10 * b + 3) = 3 ∧ f (24 + 10 * b + 4) = x ∧ f (24 + 10 * b + 5) = y)) (i + 1) = true by show (anyN _ i || _) = true; rw [bI_t c_16]; rfl]; rfl), rfl, trivial⟩ ?_
        exact ih (i + 1) (by omega)
      · skip
        refine z_aload_n CX 0 dX6_isWreck_19 rfl rfl ?_
        refine z_iload CX dX6_isWreck_20 rfl ?_
        refine z_callS1 CX dX6_isWreck_22 cs_X6_64 (c_state (b := i) (by omega)) rfl rfl (Nat.le_of_ble_eq_true rfl) ⟨Nat.le_of_ble_eq_true rfl, Nat.le_of_ble_eq_true rfl⟩ ⟨Nat.le_refl _, Nat.le_refl _⟩ ?_
        refine z_iconst CX (v := 3) dX6_isWreck_25 (by decide) ?_
        refine z_icmp_ne CX 59 dX6_isWreck_26 (by decide) (fun c_26 => ?_) (fun c_26 => ?_)
        · skip
          refine z_iconst CX (v := 0) dX6_isWreck_59 (by decide) ?_
          refine z_istore_n CX 3 dX6_isWreck_60 rfl (by decide) ?_
          refine z_iinc CX (v := nI (i + 1)) dX6_isWreck_61 rfl (nI_1 i) (by decide) ?_
          refine z_goto CX 5 dX6_isWreck_64 (by decide) ?_
          refine z_loc [(0, .ref (wB w + a)), (1, .int x), (2, .int y), (3, .int (bI (anyN (fun b => decide (f (24 + 10 * b + 3) = 3 ∧ f (24 + 10 * b + 4) = x ∧ f (24 + 10 * b + 5) = y)) (i + 1)))), (4, .int (nI (i + 1)))] ⟨rfl, rfl, rfl, congrArg (fun z => some (Value.int z)) (by rw [show anyN (fun b => decide (f (24 + 10 * b + 3) = 3 ∧ f (24 + 10 * b + 4) = x ∧ f (24 + 10 * b + 5) = y)) (i + 1) = false by show (anyN _ i || _) = false; rw [bI_f c_16]; simp [c_26]]; rfl), rfl, trivial⟩ ?_
          exact ih (i + 1) (by omega)
        · skip
          refine z_aload_n CX 0 dX6_isWreck_29 rfl rfl ?_
          refine z_iload CX dX6_isWreck_30 rfl ?_
          refine z_callS1 CX dX6_isWreck_32 cs_X6_60 (c_spot i) rfl rfl (Nat.le_of_ble_eq_true rfl) ⟨Nat.le_of_ble_eq_true rfl, Nat.le_of_ble_eq_true rfl⟩ ⟨Nat.le_refl _, Nat.le_refl _⟩ ?_
          refine z_iconst CX (v := 4) dX6_isWreck_35 (by decide) ?_
          refine z_iadd CX dX6_isWreck_36 ?_
          refine z_ia CX (j := ((24 + 10 * i) + 4)) dX6_isWreck_37 row_0 (ix_add rfl rfl) (by omega) (by decide) ?_
          refine z_iload_n CX 1 dX6_isWreck_38 rfl rfl ?_
          refine z_icmp_ne CX 59 dX6_isWreck_39 (by decide) (fun c_39 => ?_) (fun c_39 => ?_)
          · skip
            refine z_iconst CX (v := 0) dX6_isWreck_59 (by decide) ?_
            refine z_istore_n CX 3 dX6_isWreck_60 rfl (by decide) ?_
            refine z_iinc CX (v := nI (i + 1)) dX6_isWreck_61 rfl (nI_1 i) (by decide) ?_
            refine z_goto CX 5 dX6_isWreck_64 (by decide) ?_
            refine z_loc [(0, .ref (wB w + a)), (1, .int x), (2, .int y), (3, .int (bI (anyN (fun b => decide (f (24 + 10 * b + 3) = 3 ∧ f (24 + 10 * b + 4) = x ∧ f (24 + 10 * b + 5) = y)) (i + 1)))), (4, .int (nI (i + 1)))] ⟨rfl, rfl, rfl, congrArg (fun z => some (Value.int z)) (by rw [show anyN (fun b => decide (f (24 + 10 * b + 3) = 3 ∧ f (24 + 10 * b + 4) = x ∧ f (24 + 10 * b + 5) = y)) (i + 1) = false by show (anyN _ i || _) = false; rw [bI_f c_16]; simp [c_39]]; rfl), rfl, trivial⟩ ?_
            exact ih (i + 1) (by omega)
          · skip
            refine z_aload_n CX 0 dX6_isWreck_42 rfl rfl ?_
            refine z_iload CX dX6_isWreck_43 rfl ?_
            refine z_callS1 CX dX6_isWreck_45 cs_X6_60 (c_spot i) rfl rfl (Nat.le_of_ble_eq_true rfl) ⟨Nat.le_of_ble_eq_true rfl, Nat.le_of_ble_eq_true rfl⟩ ⟨Nat.le_refl _, Nat.le_refl _⟩ ?_
            refine z_iconst CX (v := 5) dX6_isWreck_48 (by decide) ?_
            refine z_iadd CX dX6_isWreck_49 ?_
            refine z_ia CX (j := ((24 + 10 * i) + 5)) dX6_isWreck_50 row_0 (ix_add rfl rfl) (by omega) (by decide) ?_
            refine z_iload_n CX 2 dX6_isWreck_51 rfl rfl ?_
            refine z_icmp_ne CX 59 dX6_isWreck_52 (by decide) (fun c_52 => ?_) (fun c_52 => ?_)
            · skip
              refine z_iconst CX (v := 0) dX6_isWreck_59 (by decide) ?_
              refine z_istore_n CX 3 dX6_isWreck_60 rfl (by decide) ?_
              refine z_iinc CX (v := nI (i + 1)) dX6_isWreck_61 rfl (nI_1 i) (by decide) ?_
              refine z_goto CX 5 dX6_isWreck_64 (by decide) ?_
              refine z_loc [(0, .ref (wB w + a)), (1, .int x), (2, .int y), (3, .int (bI (anyN (fun b => decide (f (24 + 10 * b + 3) = 3 ∧ f (24 + 10 * b + 4) = x ∧ f (24 + 10 * b + 5) = y)) (i + 1)))), (4, .int (nI (i + 1)))] ⟨rfl, rfl, rfl, congrArg (fun z => some (Value.int z)) (by rw [show anyN (fun b => decide (f (24 + 10 * b + 3) = 3 ∧ f (24 + 10 * b + 4) = x ∧ f (24 + 10 * b + 5) = y)) (i + 1) = false by show (anyN _ i || _) = false; rw [bI_f c_16]; simp [c_52]]; rfl), rfl, trivial⟩ ?_
              exact ih (i + 1) (by omega)
            · skip
              refine z_iconst CX (v := 1) dX6_isWreck_55 (by decide) ?_
              refine z_goto CX 60 dX6_isWreck_56 (by decide) ?_
              refine z_istore_n CX 3 dX6_isWreck_60 rfl (by decide) ?_
              refine z_iinc CX (v := nI (i + 1)) dX6_isWreck_61 rfl (nI_1 i) (by decide) ?_
              refine z_goto CX 5 dX6_isWreck_64 (by decide) ?_
              refine z_loc [(0, .ref (wB w + a)), (1, .int x), (2, .int y), (3, .int (bI (anyN (fun b => decide (f (24 + 10 * b + 3) = 3 ∧ f (24 + 10 * b + 4) = x ∧ f (24 + 10 * b + 5) = y)) (i + 1)))), (4, .int (nI (i + 1)))] ⟨rfl, rfl, rfl, congrArg (fun z => some (Value.int z)) (by rw [show anyN (fun b => decide (f (24 + 10 * b + 3) = 3 ∧ f (24 + 10 * b + 4) = x ∧ f (24 + 10 * b + 5) = y)) (i + 1) = true by show (anyN _ i || _) = true; simp [c_26, c_39, c_52]]; rfl), rfl, trivial⟩ ?_
              exact ih (i + 1) (by omega)
  refine z_iconst CX (v := 0) dX6_isWreck_0 (by decide) ?_
  refine z_istore_n CX 3 dX6_isWreck_1 rfl (by decide) ?_
  refine z_iconst CX (v := 0) dX6_isWreck_2 (by decide) ?_
  refine z_istore CX dX6_isWreck_3 (by decide) ?_
  refine z_loc [(0, .ref (wB w + a)), (1, .int x), (2, .int y), (3, .int (bI (anyN (fun b => decide (f (24 + 10 * b + 3) = 3 ∧ f (24 + 10 * b + 4) = x ∧ f (24 + 10 * b + 5) = y)) 0))), (4, .int (nI 0))] ⟨rfl, rfl, rfl, rfl, rfl, trivial⟩ ?_
  exact LP nb 0 (by omega)
set_option maxHeartbeats 4000000 in
set_option maxRecDepth 100000 in
theorem c_bears {l : Launch} {w : Wt} {hs : Hs} {n : Option Nat} {a : Nat} {f : Nat → Int32} {b : Nat} (hb : b < 12) : Cn l w mX6_bears 0 0 [.ref (wB w + a), .int (nI b)] (rowH w hs a f) n (rowH w hs a f) n (some (.int (bea f b))) := by
  refine Cn.of (d := mX6_bears) (by decide +kernel) (Nat.le_of_ble_eq_true rfl) ?_
  intro p e R s m args below meth c CX
  replace CX : Ctx p s m args meth c R w RX6 "bears" cX6_bears 2 (some .int) 1 20 0 0 := CX
  show ZW p l e R s m args below meth c w 2 _ _ 0 0 (MQ below (Qn w _ _ _) args s 0 0 (wA w)) 0 [(0, .ref (wB w + a)), (1, .int (nI b))] []
  refine z_aload_n CX 0 dX6_bears_0 rfl rfl ?_
  refine z_iload_n CX 1 dX6_bears_1 rfl rfl ?_
  refine z_callS1 CX dX6_bears_2 cs_X6_60 (c_spot b) rfl rfl (Nat.le_of_ble_eq_true rfl) ⟨Nat.le_of_ble_eq_true rfl, Nat.le_of_ble_eq_true rfl⟩ ⟨Nat.le_refl _, Nat.le_refl _⟩ ?_
  refine z_iconst CX (v := 0) dX6_bears_5 (by decide) ?_
  refine z_iadd CX dX6_bears_6 ?_
  refine z_ia CX (j := ((24 + 10 * b) + 0)) dX6_bears_7 row_0 (ix_add rfl rfl) (by omega) (by decide) ?_
  refine z_aload_n CX 0 dX6_bears_8 rfl rfl ?_
  refine z_sipush CX (v := 155) dX6_bears_9 (by decide) ?_
  refine z_ia CX (j := 155) dX6_bears_12 row_0 rfl (by omega) (by decide) ?_
  refine z_imul CX dX6_bears_13 ?_
  refine z_iconst CX (v := 4) dX6_bears_14 (by decide) ?_
  refine z_aload_n CX 0 dX6_bears_15 rfl rfl ?_
  refine z_iload_n CX 1 dX6_bears_16 rfl rfl ?_
  refine z_callS1 CX dX6_bears_17 cs_X6_60 (c_spot b) rfl rfl (Nat.le_of_ble_eq_true rfl) ⟨Nat.le_of_ble_eq_true rfl, Nat.le_of_ble_eq_true rfl⟩ ⟨Nat.le_refl _, Nat.le_refl _⟩ ?_
  refine z_iconst CX (v := 1) dX6_bears_20 (by decide) ?_
  refine z_iadd CX dX6_bears_21 ?_
  refine z_ia CX (j := ((24 + 10 * b) + 1)) dX6_bears_22 row_0 (ix_add rfl rfl) (by omega) (by decide) ?_
  refine z_imul CX dX6_bears_23 ?_
  refine z_iadd CX dX6_bears_24 ?_
  exact z_iret CX dX6_bears_25 rfl rfl rfl (Or.inl rfl)
theorem drn_s {f : Nat → Int32} {k g i : Nat} {sm y : Int32} (h0 : ¬ g = 0) (e1 : f (4 * g + 2) = nI i) (hi : i < 2 ^ 31) : drn f (k + 1) sm g y = drn f k (sm + (f (4 * g + 0) - y)) i (f (4 * g + 3)) := by
  show (if g = 0 then _ else _) = _
  rw [if_neg h0, e1, nI_clamp hi]
set_option maxHeartbeats 4000000 in
set_option maxRecDepth 100000 in
theorem c_toD {l : Launch} {w : Wt} {hs : Hs} {n : Option Nat} {a : Nat} {f : Nat → Int32} {ng : Nat} (hG : GG f ng) (h6 : ng ≤ 6) {g0 : Nat} (hg0 : g0 < ng) (c0 : Int32) : Cn l w mX6_toDrain 0 0 [.ref (wB w + a), .int (nI g0), .int c0] (rowH w hs a f) n (rowH w hs a f) n (some (.int (drn f 6 0 g0 c0))) := by
  refine Cn.of (d := mX6_toDrain) (by decide +kernel) (Nat.le_of_ble_eq_true rfl) ?_
  intro p e R s m args below meth c CX
  replace CX : Ctx p s m args meth c R w RX6 "toDrain" cX6_toDrain 6 (some .int) 0 0 0 0 := CX
  show ZW p l e R s m args below meth c w 6 _ _ 0 0 (MQ below (Qn w _ _ _) args s 0 0 (wA w)) 0 [(0, .ref (wB w + a)), (1, .int (nI g0)), (2, .int c0)] []
  have LP : ∀ (k g : Nat) (sm y v : Int32), g ≤ k → g < ng → v = drn f k sm g y → ZW p l e R s m args below meth c w 6 (rowH w hs a f) n 0 0 (MQ below (Qn w (rowH w hs a f) n (some (.int v))) args s 0 0 (wA w)) 8 [(0, .ref (wB w + a)), (1, .int (nI g0)), (2, .int c0), (3, .int (sm)), (4, .int (nI g)), (5, .int (y))] [] := by
    intro k
    induction k with
    | zero =>
      intro g sm y v hk hg hv
      refine z_iload CX dX6_toDrain_8 rfl ?_
      refine z_if_le CX 50 dX6_toDrain_10 (by decide) (fun _ => ?_) (fun q9 => absurd (by rw [show g = 0 by omega]; decide) q9)
      refine z_iload_n CX 3 dX6_toDrain_50 rfl rfl ?_
      refine z_aload_n CX 0 dX6_toDrain_51 rfl rfl ?_
      refine z_iconst CX (v := 0) dX6_toDrain_52 (by decide) ?_
      refine z_ia CX (j := 0) dX6_toDrain_53 row_0 rfl (by omega) (by decide) ?_
      refine z_iadd CX dX6_toDrain_54 ?_
      refine z_iload CX dX6_toDrain_55 rfl ?_
      refine z_isub CX dX6_toDrain_57 ?_
      exact z_iret CX dX6_toDrain_58 rfl (by rw [hv]; rfl) rfl (Or.inl rfl)
    | succ k ih =>
      intro g sm y v hk hg hv
      by_cases h0 : g = 0
      · subst h0
        refine z_iload CX dX6_toDrain_8 rfl ?_
        refine z_if_le CX 50 dX6_toDrain_10 (by decide) (fun _ => ?_) (fun q9 => absurd (by decide) q9)
        refine z_iload_n CX 3 dX6_toDrain_50 rfl rfl ?_
        refine z_aload_n CX 0 dX6_toDrain_51 rfl rfl ?_
        refine z_iconst CX (v := 0) dX6_toDrain_52 (by decide) ?_
        refine z_ia CX (j := 0) dX6_toDrain_53 row_0 rfl (by omega) (by decide) ?_
        refine z_iadd CX dX6_toDrain_54 ?_
        refine z_iload CX dX6_toDrain_55 rfl ?_
        refine z_isub CX dX6_toDrain_57 ?_
        exact z_iret CX dX6_toDrain_58 rfl (by rw [hv]; rfl) rfl (Or.inl rfl)
      · obtain ⟨i, a9, L9, i1, e1, -, -, -⟩ := (hG.2.2.2 g hg).2.2 (by omega)
        refine z_iload CX dX6_toDrain_8 rfl ?_
        refine z_if_le CX 50 dX6_toDrain_10 (by decide) (fun q9 => absurd q9 (nI_nle (by omega) (by omega))) (fun _ => ?_)
        refine z_iload_n CX 3 dX6_toDrain_13 rfl rfl ?_
        refine z_aload_n CX 0 dX6_toDrain_14 rfl rfl ?_
        refine z_iconst CX (v := 4) dX6_toDrain_15 (by decide) ?_
        refine z_iload CX dX6_toDrain_16 rfl ?_
        refine z_imul CX dX6_toDrain_18 ?_
        refine z_iconst CX (v := 0) dX6_toDrain_19 (by decide) ?_
        refine z_iadd CX dX6_toDrain_20 ?_
        refine z_ia CX (j := ((4 * g) + 0)) dX6_toDrain_21 row_0 (ix_add (ix_mul rfl rfl) rfl) (by omega) (by decide) ?_
        refine z_iload CX dX6_toDrain_22 rfl ?_
        refine z_isub CX dX6_toDrain_24 ?_
        refine z_iadd CX dX6_toDrain_25 ?_
        refine z_istore_n CX 3 dX6_toDrain_26 rfl (by decide) ?_
        refine z_aload_n CX 0 dX6_toDrain_27 rfl rfl ?_
        refine z_iconst CX (v := 4) dX6_toDrain_28 (by decide) ?_
        refine z_iload CX dX6_toDrain_29 rfl ?_
        refine z_imul CX dX6_toDrain_31 ?_
        refine z_iconst CX (v := 3) dX6_toDrain_32 (by decide) ?_
        refine z_iadd CX dX6_toDrain_33 ?_
        refine z_ia CX (j := ((4 * g) + 3)) dX6_toDrain_34 row_0 (ix_add (ix_mul rfl rfl) rfl) (by omega) (by decide) ?_
        refine z_istore CX dX6_toDrain_35 (by decide) ?_
        refine z_aload_n CX 0 dX6_toDrain_37 rfl rfl ?_
        refine z_iconst CX (v := 4) dX6_toDrain_38 (by decide) ?_
        refine z_iload CX dX6_toDrain_39 rfl ?_
        refine z_imul CX dX6_toDrain_41 ?_
        refine z_iconst CX (v := 2) dX6_toDrain_42 (by decide) ?_
        refine z_iadd CX dX6_toDrain_43 ?_
        refine z_ia CX (j := ((4 * g) + 2)) dX6_toDrain_44 row_0 (ix_add (ix_mul rfl rfl) rfl) (by omega) (by decide) ?_
        refine z_istore CX dX6_toDrain_45 (by decide) ?_
        refine z_goto CX 8 dX6_toDrain_47 (by decide) ?_
        refine z_loc [(0, .ref (wB w + a)), (1, .int (nI g0)), (2, .int c0), (3, .int (sm + (f (4 * g + 0) - y))), (4, .int (nI i)), (5, .int (f (4 * g + 3)))] ⟨rfl, rfl, rfl, rfl, congrArg (fun z => some (Value.int z)) e1, rfl, trivial⟩ ?_
        exact ih i _ _ v (by omega) (by omega) (hv.trans (drn_s h0 e1 (by omega)))
  refine z_iconst CX (v := 0) dX6_toDrain_0 (by decide) ?_
  refine z_istore_n CX 3 dX6_toDrain_1 rfl (by decide) ?_
  refine z_iload_n CX 1 dX6_toDrain_2 rfl rfl ?_
  refine z_istore CX dX6_toDrain_3 (by decide) ?_
  refine z_iload_n CX 2 dX6_toDrain_5 rfl rfl ?_
  refine z_istore CX dX6_toDrain_6 (by decide) ?_
  refine z_loc [(0, .ref (wB w + a)), (1, .int (nI g0)), (2, .int c0), (3, .int (0)), (4, .int (nI g0)), (5, .int (c0))] ⟨rfl, rfl, rfl, rfl, rfl, rfl, trivial⟩ ?_
  exact LP 6 g0 0 c0 _ (by omega) hg0 rfl
theorem mv_1 {f : Nat → Int32} {nb b g : Nat} (hg : f (24 + 10 * b + 4) = nI g) (h9 : g < 6) (h1 : f (24 + 10 * b + 5) + 1 = f (4 * g + 0)) (h2 : nI g = 0) : mv f nb b = (false, arv f b) := by
  unfold mv; rw [hg, nI_clamp (by omega), if_pos h1, if_pos h2]
theorem mv_2 {f : Nat → Int32} {nb b g : Nat} (hg : f (24 + 10 * b + 4) = nI g) (h9 : g < 6) (h1 : f (24 + 10 * b + 5) + 1 = f (4 * g + 0)) (h2 : nI g ≠ 0) : mv f nb b = mv2 f nb b (f (4 * g + 2)) (f (4 * g + 3)) := by
  unfold mv; rw [hg, nI_clamp (by omega), if_pos h1, if_neg h2]
theorem mv_3 {f : Nat → Int32} {nb b g : Nat} (hg : f (24 + 10 * b + 4) = nI g) (h9 : g < 6) (h1 : f (24 + 10 * b + 5) + 1 ≠ f (4 * g + 0)) : mv f nb b = mv2 f nb b (nI g) (f (24 + 10 * b + 5) + 1) := by
  unfold mv; rw [hg, nI_clamp (by omega), if_neg h1]
set_option maxHeartbeats 4000000 in
set_option maxRecDepth 100000 in
theorem c_moves {l : Launch} {w : Wt} {hs : Hs} {n : Option Nat} {a : Nat} {f : Nat → Int32} {nb b g : Nat} (hf : f 147 = nI nb) (h9 : nb ≤ 11) (hb : b < 12) (hg : f (24 + 10 * b + 4) = nI g) (h9g : g < 6) : Cn l w mX6_moves 0 0 [.ref (wB w + a), .int (nI b)] (rowH w hs a f) n (rowH w hs a (mv f nb b).2) n (some (.int (bI (mv f nb b).1))) := by
  refine Cn.of (d := mX6_moves) (by decide +kernel) (Nat.le_of_ble_eq_true rfl) ?_
  intro p e R s m args below meth c CX
  replace CX : Ctx p s m args meth c R w RX6 "moves" cX6_moves 5 (some .boolean) 3 65 0 0 := CX
  show ZW p l e R s m args below meth c w 5 _ _ 0 0 (MQ below (Qn w _ _ _) args s 0 0 (wA w)) 0 [(0, .ref (wB w + a)), (1, .int (nI b))] []
  refine z_iload_n CX 1 dX6_moves_0 rfl rfl ?_
  refine z_callS1 CX dX6_moves_1 cs_X6_60 (c_spot b) rfl rfl (Nat.le_of_ble_eq_true rfl) ⟨Nat.le_of_ble_eq_true rfl, Nat.le_of_ble_eq_true rfl⟩ ⟨Nat.le_refl _, Nat.le_refl _⟩ ?_
  refine z_istore_n CX 2 dX6_moves_4 rfl (by decide) ?_
  refine z_aload_n CX 0 dX6_moves_5 rfl rfl ?_
  refine z_iload_n CX 2 dX6_moves_6 rfl rfl ?_
  refine z_iconst CX (v := 4) dX6_moves_7 (by decide) ?_
  refine z_iadd CX dX6_moves_8 ?_
  refine z_ia CX (j := ((24 + 10 * b) + 4)) dX6_moves_9 row_0 (ix_add rfl rfl) (by omega) (by decide) ?_
  rw [hg]
  refine z_istore_n CX 3 dX6_moves_10 rfl (by decide) ?_
  refine z_aload_n CX 0 dX6_moves_11 rfl rfl ?_
  refine z_iload_n CX 2 dX6_moves_12 rfl rfl ?_
  refine z_iconst CX (v := 5) dX6_moves_13 (by decide) ?_
  refine z_iadd CX dX6_moves_14 ?_
  refine z_ia CX (j := ((24 + 10 * b) + 5)) dX6_moves_15 row_0 (ix_add rfl rfl) (by omega) (by decide) ?_
  refine z_iconst CX (v := 1) dX6_moves_16 (by decide) ?_
  refine z_iadd CX dX6_moves_17 ?_
  refine z_istore CX dX6_moves_18 (by decide) ?_
  refine z_iload CX dX6_moves_20 rfl ?_
  refine z_aload_n CX 0 dX6_moves_22 rfl rfl ?_
  refine z_iconst CX (v := 4) dX6_moves_23 (by decide) ?_
  refine z_iload_n CX 3 dX6_moves_24 rfl rfl ?_
  refine z_imul CX dX6_moves_25 ?_
  refine z_iconst CX (v := 0) dX6_moves_26 (by decide) ?_
  refine z_iadd CX dX6_moves_27 ?_
  refine z_ia CX (j := ((4 * g) + 0)) dX6_moves_28 row_0 (ix_add (ix_mul rfl rfl) rfl) (by omega) (by decide) ?_
  refine z_icmp_ne CX 91 dX6_moves_29 (by decide) (fun c_29 => ?_) (fun c_29 => ?_)
  · skip
    refine z_aload_n CX 0 dX6_moves_91 rfl rfl ?_
    refine z_iload_n CX 3 dX6_moves_92 rfl rfl ?_
    refine z_iload CX dX6_moves_93 rfl ?_
    refine z_callS1 CX dX6_moves_95 cs_X6_68 (c_isW hf h9 _ _) rfl rfl (Nat.le_of_ble_eq_true rfl) ⟨Nat.le_of_ble_eq_true rfl, Nat.le_of_ble_eq_true rfl⟩ ⟨Nat.le_refl _, Nat.le_refl _⟩ ?_
    refine z_if_eq CX 103 dX6_moves_98 (by decide) (fun c_98 => ?_) (fun c_98 => ?_)
    · skip
      refine z_aload_n CX 0 dX6_moves_103 rfl rfl ?_
      refine z_iload_n CX 2 dX6_moves_104 rfl rfl ?_
      refine z_iconst CX (v := 4) dX6_moves_105 (by decide) ?_
      refine z_iadd CX dX6_moves_106 ?_
      refine z_iload_n CX 3 dX6_moves_107 rfl rfl ?_
      refine z_is CX (j := ((24 + 10 * b) + 4)) dX6_moves_108 row_0 (ix_add rfl rfl) (by omega) (by decide) ?_
      refine z_heap row_u ?_
      refine z_aload_n CX 0 dX6_moves_109 rfl rfl ?_
      refine z_iload_n CX 2 dX6_moves_110 rfl rfl ?_
      refine z_iconst CX (v := 5) dX6_moves_111 (by decide) ?_
      refine z_iadd CX dX6_moves_112 ?_
      refine z_iload CX dX6_moves_113 rfl ?_
      refine z_is CX (j := ((24 + 10 * b) + 5)) dX6_moves_115 row_0 (ix_add rfl rfl) (by omega) (by decide) ?_
      refine z_heap row_u ?_
      refine z_aload_n CX 0 dX6_moves_116 rfl rfl ?_
      refine z_iload_n CX 2 dX6_moves_117 rfl rfl ?_
      refine z_bipush CX (v := 9) dX6_moves_118 (by decide) ?_
      refine z_iadd CX dX6_moves_120 ?_
      refine z_dup2 CX dX6_moves_121 rfl rfl ?_
      refine z_ia CX (j := ((24 + 10 * b) + 9)) dX6_moves_122 row_0 (ix_add rfl rfl) (by omega) (by decide) ?_
      refine z_iconst CX (v := 1) dX6_moves_123 (by decide) ?_
      refine z_iadd CX dX6_moves_124 ?_
      refine z_is CX (j := ((24 + 10 * b) + 9)) dX6_moves_125 row_0 (ix_add rfl rfl) (by omega) (by decide) ?_
      refine z_heap row_u ?_
      refine z_iconst CX (v := 1) dX6_moves_126 (by decide) ?_
      exact z_zret CX dX6_moves_127 rfl (by first | rfl | exact bI_nar _) (congrArg Value.int (by rw [mv_3 hg h9g c_29]; unfold mv2; rw [bI_f c_98]; rfl)) (congrArg (rowH w hs a) (by rw [mv_3 hg h9g c_29]; unfold mv2; rw [bI_f c_98]; show _ = mvd f b _ _; unfold mvd; simp [pk_un, pk_us])) (Or.inl rfl)
    · skip
      refine z_iconst CX (v := 0) dX6_moves_101 (by decide) ?_
      exact z_zret CX dX6_moves_102 rfl (by first | rfl | exact bI_nar _) (congrArg Value.int (by rw [mv_3 hg h9g c_29]; unfold mv2; rw [bI_t c_98]; rfl)) (congrArg (rowH w hs a) (by rw [mv_3 hg h9g c_29]; unfold mv2; rw [bI_t c_98]; rfl)) (Or.inl rfl)
  · skip
    refine z_iload_n CX 3 dX6_moves_32 rfl rfl ?_
    refine z_if_ne CX 74 dX6_moves_33 (by decide) (fun c_33 => ?_) (fun c_33 => ?_)
    · skip
      refine z_aload_n CX 0 dX6_moves_74 rfl rfl ?_
      refine z_iconst CX (v := 4) dX6_moves_75 (by decide) ?_
      refine z_iload_n CX 3 dX6_moves_76 rfl rfl ?_
      refine z_imul CX dX6_moves_77 ?_
      refine z_iconst CX (v := 3) dX6_moves_78 (by decide) ?_
      refine z_iadd CX dX6_moves_79 ?_
      refine z_ia CX (j := ((4 * g) + 3)) dX6_moves_80 row_0 (ix_add (ix_mul rfl rfl) rfl) (by omega) (by decide) ?_
      refine z_istore CX dX6_moves_81 (by decide) ?_
      refine z_aload_n CX 0 dX6_moves_83 rfl rfl ?_
      refine z_iconst CX (v := 4) dX6_moves_84 (by decide) ?_
      refine z_iload_n CX 3 dX6_moves_85 rfl rfl ?_
      refine z_imul CX dX6_moves_86 ?_
      refine z_iconst CX (v := 2) dX6_moves_87 (by decide) ?_
      refine z_iadd CX dX6_moves_88 ?_
      refine z_ia CX (j := ((4 * g) + 2)) dX6_moves_89 row_0 (ix_add (ix_mul rfl rfl) rfl) (by omega) (by decide) ?_
      refine z_istore_n CX 3 dX6_moves_90 rfl (by decide) ?_
      refine z_aload_n CX 0 dX6_moves_91 rfl rfl ?_
      refine z_iload_n CX 3 dX6_moves_92 rfl rfl ?_
      refine z_iload CX dX6_moves_93 rfl ?_
      refine z_callS1 CX dX6_moves_95 cs_X6_68 (c_isW hf h9 _ _) rfl rfl (Nat.le_of_ble_eq_true rfl) ⟨Nat.le_of_ble_eq_true rfl, Nat.le_of_ble_eq_true rfl⟩ ⟨Nat.le_refl _, Nat.le_refl _⟩ ?_
      refine z_if_eq CX 103 dX6_moves_98 (by decide) (fun c_98 => ?_) (fun c_98 => ?_)
      · skip
        refine z_aload_n CX 0 dX6_moves_103 rfl rfl ?_
        refine z_iload_n CX 2 dX6_moves_104 rfl rfl ?_
        refine z_iconst CX (v := 4) dX6_moves_105 (by decide) ?_
        refine z_iadd CX dX6_moves_106 ?_
        refine z_iload_n CX 3 dX6_moves_107 rfl rfl ?_
        refine z_is CX (j := ((24 + 10 * b) + 4)) dX6_moves_108 row_0 (ix_add rfl rfl) (by omega) (by decide) ?_
        refine z_heap row_u ?_
        refine z_aload_n CX 0 dX6_moves_109 rfl rfl ?_
        refine z_iload_n CX 2 dX6_moves_110 rfl rfl ?_
        refine z_iconst CX (v := 5) dX6_moves_111 (by decide) ?_
        refine z_iadd CX dX6_moves_112 ?_
        refine z_iload CX dX6_moves_113 rfl ?_
        refine z_is CX (j := ((24 + 10 * b) + 5)) dX6_moves_115 row_0 (ix_add rfl rfl) (by omega) (by decide) ?_
        refine z_heap row_u ?_
        refine z_aload_n CX 0 dX6_moves_116 rfl rfl ?_
        refine z_iload_n CX 2 dX6_moves_117 rfl rfl ?_
        refine z_bipush CX (v := 9) dX6_moves_118 (by decide) ?_
        refine z_iadd CX dX6_moves_120 ?_
        refine z_dup2 CX dX6_moves_121 rfl rfl ?_
        refine z_ia CX (j := ((24 + 10 * b) + 9)) dX6_moves_122 row_0 (ix_add rfl rfl) (by omega) (by decide) ?_
        refine z_iconst CX (v := 1) dX6_moves_123 (by decide) ?_
        refine z_iadd CX dX6_moves_124 ?_
        refine z_is CX (j := ((24 + 10 * b) + 9)) dX6_moves_125 row_0 (ix_add rfl rfl) (by omega) (by decide) ?_
        refine z_heap row_u ?_
        refine z_iconst CX (v := 1) dX6_moves_126 (by decide) ?_
        exact z_zret CX dX6_moves_127 rfl (by first | rfl | exact bI_nar _) (congrArg Value.int (by rw [mv_2 hg h9g c_29 c_33]; unfold mv2; rw [bI_f c_98]; rfl)) (congrArg (rowH w hs a) (by rw [mv_2 hg h9g c_29 c_33]; unfold mv2; rw [bI_f c_98]; show _ = mvd f b _ _; unfold mvd; simp [pk_un, pk_us])) (Or.inl rfl)
      · skip
        refine z_iconst CX (v := 0) dX6_moves_101 (by decide) ?_
        exact z_zret CX dX6_moves_102 rfl (by first | rfl | exact bI_nar _) (congrArg Value.int (by rw [mv_2 hg h9g c_29 c_33]; unfold mv2; rw [bI_t c_98]; rfl)) (congrArg (rowH w hs a) (by rw [mv_2 hg h9g c_29 c_33]; unfold mv2; rw [bI_t c_98]; rfl)) (Or.inl rfl)
    · skip
      refine z_aload_n CX 0 dX6_moves_36 rfl rfl ?_
      refine z_sipush CX (v := 153) dX6_moves_37 (by decide) ?_
      refine z_dup2 CX dX6_moves_40 rfl rfl ?_
      refine z_ia CX (j := 153) dX6_moves_41 row_0 rfl (by omega) (by decide) ?_
      refine z_iconst CX (v := 1) dX6_moves_42 (by decide) ?_
      refine z_iadd CX dX6_moves_43 ?_
      refine z_is CX (j := 153) dX6_moves_44 row_0 rfl (by omega) (by decide) ?_
      refine z_heap row_u ?_
      refine z_aload_n CX 0 dX6_moves_45 rfl rfl ?_
      refine z_iload_n CX 2 dX6_moves_46 rfl rfl ?_
      refine z_iconst CX (v := 3) dX6_moves_47 (by decide) ?_
      refine z_iadd CX dX6_moves_48 ?_
      refine z_iconst CX (v := 2) dX6_moves_49 (by decide) ?_
      refine z_is CX (j := ((24 + 10 * b) + 3)) dX6_moves_50 row_0 (ix_add rfl rfl) (by omega) (by decide) ?_
      refine z_heap row_u ?_
      refine z_aload_n CX 0 dX6_moves_51 rfl rfl ?_
      refine z_iload_n CX 2 dX6_moves_52 rfl rfl ?_
      refine z_bipush CX (v := 7) dX6_moves_53 (by decide) ?_
      refine z_iadd CX dX6_moves_55 ?_
      refine z_aload_n CX 0 dX6_moves_56 rfl rfl ?_
      refine z_sipush CX (v := 153) dX6_moves_57 (by decide) ?_
      refine z_ia CX (j := 153) dX6_moves_60 row_0 rfl (by omega) (by decide) ?_
      refine z_is CX (j := ((24 + 10 * b) + 7)) dX6_moves_61 row_0 (ix_add rfl rfl) (by omega) (by decide) ?_
      refine z_heap row_u ?_
      refine z_aload_n CX 0 dX6_moves_62 rfl rfl ?_
      refine z_iload_n CX 2 dX6_moves_63 rfl rfl ?_
      refine z_bipush CX (v := 9) dX6_moves_64 (by decide) ?_
      refine z_iadd CX dX6_moves_66 ?_
      refine z_dup2 CX dX6_moves_67 rfl rfl ?_
      refine z_ia CX (j := ((24 + 10 * b) + 9)) dX6_moves_68 row_0 (ix_add rfl rfl) (by omega) (by decide) ?_
      refine z_iconst CX (v := 1) dX6_moves_69 (by decide) ?_
      refine z_iadd CX dX6_moves_70 ?_
      refine z_is CX (j := ((24 + 10 * b) + 9)) dX6_moves_71 row_0 (ix_add rfl rfl) (by omega) (by decide) ?_
      refine z_heap row_u ?_
      refine z_iconst CX (v := 0) dX6_moves_72 (by decide) ?_
      exact z_zret CX dX6_moves_73 rfl (by first | rfl | exact bI_nar _) (congrArg Value.int (by rw [mv_1 hg h9g c_29 c_33]; rfl)) (congrArg (rowH w hs a) (by rw [mv_1 hg h9g c_29 c_33]; show _ = arv f b; unfold arv; simp only [pk_us, pk_un (show 153 ≠ 24 + 10 * b + 3 by omega), pk_un (show 24 + 10 * b + 9 ≠ 153 by omega), pk_un (show 24 + 10 * b + 9 ≠ 24 + 10 * b + 3 by omega), pk_un (show 24 + 10 * b + 9 ≠ 24 + 10 * b + 7 by omega)])) (Or.inl rfl)
