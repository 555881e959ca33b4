set_option maxHeartbeats 4000000 in
set_option maxRecDepth 100000 in
theorem c_inSt {l : Launch} {w : Wt} {hs : Hs} {n : Option Nat} {a : Nat} {f : Nat → Int32} {nb : Nat} (hf : f 147 = nI nb) (h9 : nb ≤ 11) (x : Int32) : Cn l w mX6_inState 0 0 [.ref (wB w + a), .int x] (rowH w hs a f) n (rowH w hs a f) n (some (.int (nI (cntS f nb x)))) := by
  refine Cn.of (d := mX6_inState) (by decide +kernel) (Nat.le_of_ble_eq_true rfl) ?_
  intro p e R s m args below meth c CX
  replace CX : Ctx p s m args meth c R w RX6 "inState" cX6_inState 4 (some .int) 2 41 0 0 := CX
  show ZW p l e R s m args below meth c w 4 _ _ 0 0 (MQ below (Qn w _ _ _) args s 0 0 (wA w)) 0 [(0, .ref (wB w + a)), (1, .int x)] []
  have LP : ∀ (j i : Nat), i + j = nb → ZW p l e R s m args below meth c w 4 (rowH w hs a f) n 0 0 (MQ below (Qn w (rowH w hs a f) n (some (.int (nI (cntS f nb x))))) args s 0 0 (wA w)) 4 [(0, .ref (wB w + a)), (1, .int x), (2, .int (nI (cntS f i x))), (3, .int (nI i))] [] := by
    intro j
    induction j with
    | zero =>
      intro i hi
      refine z_iload_n CX 3 dX6_inState_4 rfl rfl ?_
      refine z_aload_n CX 0 dX6_inState_5 rfl rfl ?_
      refine z_sipush CX (v := 147) dX6_inState_6 (by decide) ?_
      refine z_ia CX (j := 147) dX6_inState_9 row_0 rfl (by omega) (by decide) ?_
      rw [hf]
      refine z_icmp_ge CX 36 dX6_inState_10 (by decide) (fun _ => ?_) (fun q9 => absurd (nI_le (by omega) (by omega)) q9)
      refine z_iload_n CX 2 dX6_inState_36 rfl rfl ?_
      exact z_iret CX dX6_inState_37 rfl (by rw [show i = nb by omega]) rfl (Or.inl rfl)
    | succ j ih =>
      intro i hi
      refine z_iload_n CX 3 dX6_inState_4 rfl rfl ?_
      refine z_aload_n CX 0 dX6_inState_5 rfl rfl ?_
      refine z_sipush CX (v := 147) dX6_inState_6 (by decide) ?_
      refine z_ia CX (j := 147) dX6_inState_9 row_0 rfl (by omega) (by decide) ?_
      rw [hf]
      refine z_icmp_ge CX 36 dX6_inState_10 (by decide) (fun q9 => absurd q9 (nI_ge (by omega) (by omega))) (fun _ => ?_)
      refine z_iload_n CX 2 dX6_inState_13 rfl rfl ?_
      refine z_aload_n CX 0 dX6_inState_14 rfl rfl ?_
      refine z_iload_n CX 3 dX6_inState_15 rfl rfl ?_
      refine z_callS1 CX dX6_inState_16 cs_X6_64 (c_state (b := i) (by omega)) rfl rfl (Nat.le_of_ble_eq_true rfl) ⟨Nat.le_of_ble_eq_true rfl, Nat.le_of_ble_eq_true rfl⟩ ⟨Nat.le_refl _, Nat.le_refl _⟩ ?_
      refine z_iload_n CX 1 dX6_inState_19 rfl rfl ?_
      refine z_icmp_ne CX 27 dX6_inState_20 (by decide) (fun c_20 => ?_) (fun c_20 => ?_)
      · skip
        refine z_iconst CX (v := 0) dX6_inState_27 (by decide) ?_
        refine z_iadd CX dX6_inState_28 ?_
        refine z_istore_n CX 2 dX6_inState_29 rfl (by decide) ?_
        refine z_iinc CX (v := nI (i + 1)) dX6_inState_30 rfl (nI_1 i) (by decide) ?_
        refine z_goto CX 4 dX6_inState_33 (by decide) ?_
        refine z_loc [(0, .ref (wB w + a)), (1, .int x), (2, .int (nI (cntS f (i + 1) x))), (3, .int (nI (i + 1)))] ⟨rfl, rfl, congrArg (fun z => some (Value.int z)) (by show nI (cntN _ i) + 0 = nI (cntN _ i + _); simp [c_20, nI_1]), rfl, trivial⟩ ?_
        exact ih (i + 1) (by omega)
      · skip
        refine z_iconst CX (v := 1) dX6_inState_23 (by decide) ?_
        refine z_goto CX 28 dX6_inState_24 (by decide) ?_
        refine z_iadd CX dX6_inState_28 ?_
        refine z_istore_n CX 2 dX6_inState_29 rfl (by decide) ?_
        refine z_iinc CX (v := nI (i + 1)) dX6_inState_30 rfl (nI_1 i) (by decide) ?_
        refine z_goto CX 4 dX6_inState_33 (by decide) ?_
        refine z_loc [(0, .ref (wB w + a)), (1, .int x), (2, .int (nI (cntS f (i + 1) x))), (3, .int (nI (i + 1)))] ⟨rfl, rfl, congrArg (fun z => some (Value.int z)) (by show nI (cntN _ i) + 1 = nI (cntN _ i + _); simp [c_20, nI_1]), rfl, trivial⟩ ?_
        exact ih (i + 1) (by omega)
  refine z_iconst CX (v := 0) dX6_inState_0 (by decide) ?_
  refine z_istore_n CX 2 dX6_inState_1 rfl (by decide) ?_
  refine z_iconst CX (v := 0) dX6_inState_2 (by decide) ?_
  refine z_istore_n CX 3 dX6_inState_3 rfl (by decide) ?_
  refine z_loc [(0, .ref (wB w + a)), (1, .int x), (2, .int (nI (cntS f 0 x))), (3, .int (nI 0))] ⟨rfl, rfl, rfl, rfl, trivial⟩ ?_
  exact LP nb 0 (by omega)
set_option maxHeartbeats 4000000 in
set_option maxRecDepth 100000 in
theorem c_isW {l : Launch} {w : Wt} {hs : Hs} {n : Option Nat} {a : Nat} {f : Nat → Int32} {nb : Nat} (hf : f 147 = nI nb) (h9 : nb ≤ 11) (x y : Int32) : Cn l w mX6_isWreck 0 0 [.ref (wB w + a), .int x, .int y] (rowH w hs a f) n (rowH w hs a f) n (some (.int (bI (wrk f nb x y)))) := by
  refine Cn.of (d := mX6_isWreck) (by decide +kernel) (Nat.le_of_ble_eq_true rfl) ?_
  intro p e R s m args below meth c CX
  replace CX : Ctx p s m args meth c R w RX6 "isWreck" cX6_isWreck 5 (some .boolean) 2 41 0 0 := CX
  show ZW p l e R s m args below meth c w 5 _ _ 0 0 (MQ below (Qn w _ _ _) args s 0 0 (wA w)) 0 [(0, .ref (wB w + a)), (1, .int x), (2, .int y)] []
  have LP : ∀ (j i : Nat), i + j = nb → ZW p l e R s m args below meth c w 5 (rowH w hs a f) n 0 0 (MQ below (Qn w (rowH w hs a f) n (some (.int (bI (wrk f nb x y))))) args s 0 0 (wA w)) 5 [(0, .ref (wB w + a)), (1, .int x), (2, .int y), (3, .int (bI (anyN (fun b => decide (f (24 + 10 * b + 3) = 3 ∧ f (24 + 10 * b + 4) = x ∧ f (24 + 10 * b + 5) = y)) i))), (4, .int (nI i))] [] := by
    intro j
    induction j with
    | zero =>
      intro i hi
      refine z_iload CX dX6_isWreck_5 rfl ?_
      refine z_aload_n CX 0 dX6_isWreck_7 rfl rfl ?_
      refine z_sipush CX (v := 147) dX6_isWreck_8 (by decide) ?_
      refine z_ia CX (j := 147) dX6_isWreck_11 row_0 rfl (by omega) (by decide) ?_
      rw [hf]
      refine z_icmp_ge CX 67 dX6_isWreck_12 (by decide) (fun _ => ?_) (fun q9 => absurd (nI_le (by omega) (by omega)) q9)
      refine z_iload_n CX 3 dX6_isWreck_67 rfl rfl ?_
      exact z_zret CX dX6_isWreck_68 rfl (by first | rfl | exact bI_nar _) (by rw [show i = nb by omega]; rfl) rfl (Or.inl rfl)
    | succ j ih =>
      intro i hi
      refine z_iload CX dX6_isWreck_5 rfl ?_
      refine z_aload_n CX 0 dX6_isWreck_7 rfl rfl ?_
      refine z_sipush CX (v := 147) dX6_isWreck_8 (by decide) ?_
      refine z_ia CX (j := 147) dX6_isWreck_11 row_0 rfl (by omega) (by decide) ?_
      rw [hf]
      refine z_icmp_ge CX 67 dX6_isWreck_12 (by decide) (fun q9 => absurd q9 (nI_ge (by omega) (by omega))) (fun _ => ?_)
      refine z_iload_n CX 3 dX6_isWreck_15 rfl rfl ?_
      refine z_if_ne CX 55 dX6_isWreck_16 (by decide) (fun c_16 => ?_) (fun c_16 => ?_)
      · skip
        refine z_iconst CX (v := 1) dX6_isWreck_55 (by decide) ?_
        refine z_goto CX 60 dX6_isWreck_56 (by decide) ?_
        refine z_istore_n CX 3 dX6_isWreck_60 rfl (by decide) ?_
        refine z_iinc CX (v := nI (i + 1)) dX6_isWreck_61 rfl (nI_1 i) (by decide) ?_
        refine z_goto CX 5 dX6_isWreck_64 (by decide) ?_
        refine z_loc [(0, .ref (wB w + a)), (1, .int x), (2, .int y), (3, .int (bI (anyN (fun b => decide (f (24 + 10 * b + 3) = 3 ∧ f (24 + 10 * b + 4) = x ∧ f (24 + 10 * b + 5) = y)) (i + 1)))), (4, .int (nI (i + 1)))] ⟨rfl, rfl, rfl, congrArg (fun z => some (Value.int z)) (by rw [show anyN (fun b => decide (f (24 + 10 * b + 3) = 3 ∧ f (24 + 10 * b + 4) = x ∧ f (24 + 10 * b + 5) = y)) (i + 1) = true by show (anyN _ i || _) = true; rw [bI_t c_16]; rfl]; rfl), rfl, trivial⟩ ?_
        exact ih (i + 1) (by omega)
      · skip
        refine z_aload_n CX 0 dX6_isWreck_19 rfl rfl ?_
        refine z_iload CX dX6_isWreck_20 rfl ?_
        refine z_callS1 CX dX6_isWreck_22 cs_X6_64 (c_state (b := i) (by omega)) rfl rfl (Nat.le_of_ble_eq_true rfl) ⟨Nat.le_of_ble_eq_true rfl, Nat.le_of_ble_eq_true rfl⟩ ⟨Nat.le_refl _, Nat.le_refl _⟩ ?_
        refine z_iconst CX (v := 3) dX6_isWreck_25 (by decide) ?_
        refine z_icmp_ne CX 59 dX6_isWreck_26 (by decide) (fun c_26 => ?_) (fun c_26 => ?_)
        · skip
          refine z_iconst CX (v := 0) dX6_isWreck_59 (by decide) ?_
          refine z_istore_n CX 3 dX6_isWreck_60 rfl (by decide) ?_
          refine z_iinc CX (v := nI (i + 1)) dX6_isWreck_61 rfl (nI_1 i) (by decide) ?_
          refine z_goto CX 5 dX6_isWreck_64 (by decide) ?_
          refine z_loc [(0, .ref (wB w + a)), (1, .int x), (2, .int y), (3, .int (bI (anyN (fun b => decide (f (24 + 10 * b + 3) = 3 ∧ f (24 + 10 * b + 4) = x ∧ f (24 + 10 * b + 5) = y)) (i + 1)))), (4, .int (nI (i + 1)))] ⟨rfl, rfl, rfl, congrArg (fun z => some (Value.int z)) (by rw [show anyN (fun b => decide (f (24 + 10 * b + 3) = 3 ∧ f (24 + 10 * b + 4) = x ∧ f (24 + 10 * b + 5) = y)) (i + 1) = false by show (anyN _ i || _) = false; rw [bI_f c_16]; simp [c_26]]; rfl), rfl, trivial⟩ ?_
          exact ih (i + 1) (by omega)
        · skip
          refine z_aload_n CX 0 dX6_isWreck_29 rfl rfl ?_
          refine z_iload CX dX6_isWreck_30 rfl ?_
          refine z_callS1 CX dX6_isWreck_32 cs_X6_60 (c_spot i) rfl rfl (Nat.le_of_ble_eq_true rfl) ⟨Nat.le_of_ble_eq_true rfl, Nat.le_of_ble_eq_true rfl⟩ ⟨Nat.le_refl _, Nat.le_refl _⟩ ?_
          refine z_iconst CX (v := 4) dX6_isWreck_35 (by decide) ?_
          refine z_iadd CX dX6_isWreck_36 ?_
          refine z_ia CX (j := ((24 + 10 * i) + 4)) dX6_isWreck_37 row_0 (ix_add rfl rfl) (by omega) (by decide) ?_
          refine z_iload_n CX 1 dX6_isWreck_38 rfl rfl ?_
          refine z_icmp_ne CX 59 dX6_isWreck_39 (by decide) (fun c_39 => ?_) (fun c_39 => ?_)
          · skip
            refine z_iconst CX (v := 0) dX6_isWreck_59 (by decide) ?_
            refine z_istore_n CX 3 dX6_isWreck_60 rfl (by decide) ?_
            refine z_iinc CX (v := nI (i + 1)) dX6_isWreck_61 rfl (nI_1 i) (by decide) ?_
            refine z_goto CX 5 dX6_isWreck_64 (by decide) ?_
            refine z_loc [(0, .ref (wB w + a)), (1, .int x), (2, .int y), (3, .int (bI (anyN (fun b => decide (f (24 + 10 * b + 3) = 3 ∧ f (24 + 10 * b + 4) = x ∧ f (24 + 10 * b + 5) = y)) (i + 1)))), (4, .int (nI (i + 1)))] ⟨rfl, rfl, rfl, congrArg (fun z => some (Value.int z)) (by rw [show anyN (fun b => decide (f (24 + 10 * b + 3) = 3 ∧ f (24 + 10 * b + 4) = x ∧ f (24 + 10 * b + 5) = y)) (i + 1) = false by show (anyN _ i || _) = false; rw [bI_f c_16]; simp [c_39]]; rfl), rfl, trivial⟩ ?_
            exact ih (i + 1) (by omega)
          · skip
            refine z_aload_n CX 0 dX6_isWreck_42 rfl rfl ?_
            refine z_iload CX dX6_isWreck_43 rfl ?_
            refine z_callS1 CX dX6_isWreck_45 cs_X6_60 (c_spot i) rfl rfl (Nat.le_of_ble_eq_true rfl) ⟨Nat.le_of_ble_eq_true rfl, Nat.le_of_ble_eq_true rfl⟩ ⟨Nat.le_refl _, Nat.le_refl _⟩ ?_
            refine z_iconst CX (v := 5) dX6_isWreck_48 (by decide) ?_
            refine z_iadd CX dX6_isWreck_49 ?_
            refine z_ia CX (j := ((24 + 10 * i) + 5)) dX6_isWreck_50 row_0 (ix_add rfl rfl) (by omega) (by decide) ?_
            refine z_iload_n CX 2 dX6_isWreck_51 rfl rfl ?_
            refine z_icmp_ne CX 59 dX6_isWreck_52 (by decide) (fun c_52 => ?_) (fun c_52 => ?_)
            · skip
              refine z_iconst CX (v := 0) dX6_isWreck_59 (by decide) ?_
              refine z_istore_n CX 3 dX6_isWreck_60 rfl (by decide) ?_
              refine z_iinc CX (v := nI (i + 1)) dX6_isWreck_61 rfl (nI_1 i) (by decide) ?_
              refine z_goto CX 5 dX6_isWreck_64 (by decide) ?_
              refine z_loc [(0, .ref (wB w + a)), (1, .int x), (2, .int y), (3, .int (bI (anyN (fun b => decide (f (24 + 10 * b + 3) = 3 ∧ f (24 + 10 * b + 4) = x ∧ f (24 + 10 * b + 5) = y)) (i + 1)))), (4, .int (nI (i + 1)))] ⟨rfl, rfl, rfl, congrArg (fun z => some (Value.int z)) (by rw [show anyN (fun b => decide (f (24 + 10 * b + 3) = 3 ∧ f (24 + 10 * b + 4) = x ∧ f (24 + 10 * b + 5) = y)) (i + 1) = false by show (anyN _ i || _) = false; rw [bI_f c_16]; simp [c_52]]; rfl), rfl, trivial⟩ ?_
              exact ih (i + 1) (by omega)
            · skip
              refine z_iconst CX (v := 1) dX6_isWreck_55 (by decide) ?_
              refine z_goto CX 60 dX6_isWreck_56 (by decide) ?_
              refine z_istore_n CX 3 dX6_isWreck_60 rfl (by decide) ?_
              refine z_iinc CX (v := nI (i + 1)) dX6_isWreck_61 rfl (nI_1 i) (by decide) ?_
              refine z_goto CX 5 dX6_isWreck_64 (by decide) ?_
              refine z_loc [(0, .ref (wB w + a)), (1, .int x), (2, .int y), (3, .int (bI (anyN (fun b => decide (f (24 + 10 * b + 3) = 3 ∧ f (24 + 10 * b + 4) = x ∧ f (24 + 10 * b + 5) = y)) (i + 1)))), (4, .int (nI (i + 1)))] ⟨rfl, rfl, rfl, congrArg (fun z => some (Value.int z)) (by rw [show anyN (fun b => decide (f (24 + 10 * b + 3) = 3 ∧ f (24 + 10 * b + 4) = x ∧ f (24 + 10 * b + 5) = y)) (i + 1) = true by show (anyN _ i || _) = true; simp [c_26, c_39, c_52]]; rfl), rfl, trivial⟩ ?_
              exact ih (i + 1) (by omega)
  refine z_iconst CX (v := 0) dX6_isWreck_0 (by decide) ?_
  refine z_istore_n CX 3 dX6_isWreck_1 rfl (by decide) ?_
  refine z_iconst CX (v := 0) dX6_isWreck_2 (by decide) ?_
  refine z_istore CX dX6_isWreck_3 (by decide) ?_
  refine z_loc [(0, .ref (wB w + a)), (1, .int x), (2, .int y), (3, .int (bI (anyN (fun b => decide (f (24 + 10 * b + 3) = 3 ∧ f (24 + 10 * b + 4) = x ∧ f (24 + 10 * b + 5) = y)) 0))), (4, .int (nI 0))] ⟨rfl, rfl, rfl, rfl, rfl, trivial⟩ ?_
  exact LP nb 0 (by omega)
