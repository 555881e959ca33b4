/-! the tournament: what writes, one table at a time -/
def tkO (h : Nat → Int32) (b : Nat) (v : Int32) : Nat → Int32 := upd (upd (upd (upd h (b * 10 + 3) v) (b * 10 + 4) (-1)) (b * 10 + 5) (-1)) (b * 10 + 7) (-1)
theorem tkO_n {h : Nat → Int32} {b j : Nat} {v : Int32} (h1 : j ≠ b * 10 + 3) (h2 : j ≠ b * 10 + 4) (h3 : j ≠ b * 10 + 5) (h4 : j ≠ b * 10 + 7) : tkO h b v j = h j := by
  unfold tkO; rw [pk_un h4, pk_un h3, pk_un h2, pk_un h1]
theorem tkO_3 {h : Nat → Int32} {b : Nat} {v : Int32} : tkO h b v (b * 10 + 3) = v := by unfold tkO; rw [pk_un (by omega), pk_un (by omega), pk_un (by omega), pk_us]
theorem tkO_4 {h : Nat → Int32} {b : Nat} {v : Int32} : tkO h b v (b * 10 + 4) = -1 := by unfold tkO; rw [pk_un (by omega), pk_un (by omega), pk_us]
theorem tkO_5 {h : Nat → Int32} {b : Nat} {v : Int32} : tkO h b v (b * 10 + 5) = -1 := by unfold tkO; rw [pk_un (by omega), pk_us]
theorem tkO_7 {h : Nat → Int32} {b : Nat} {v : Int32} : tkO h b v (b * 10 + 7) = -1 := by unfold tkO; rw [pk_us]
set_option maxHeartbeats 4000000 in
set_option maxRecDepth 100000 in
theorem t_take {l : Launch} {w : Wt} {hs : Hs} {n : Option Nat} {k : Nat} {s9 : Nat → Int32} {g9 : Nat → Nat → Int32} {r9 : Nat → Nat} {b : Nat} (h11 : r9 1 ≤ 11) (hb : b < r9 1) (v : Int32) : Cn l w mX4_takeOut 0 0 [.ref (wB w + k), .int (nI b), .int v] (TT w hs k s9 g9 r9) n (TT w hs k s9 (upA g9 1 (tkO (g9 1) b v)) r9) n none := by
  refine Cn.of (d := mX4_takeOut) (by decide +kernel) (Nat.le_of_ble_eq_true rfl) ?_
  intro p e R s m args below meth c CX
  replace CX : Ctx p s m args meth c R w RX4 "takeOut" cX4_takeOut 3 none 1 24 0 0 := CX
  show ZW p l e R s m args below meth c w 3 _ _ 0 0 (MQ below (Qn w _ _ _) args s 0 0 (wA w)) 0 [(0, .ref (wB w + k)), (1, .int _), (2, .int _)] []
  refine z_aload_n CX 0 dX4_takeOut_0 rfl rfl ?_
  refine z_get CX dX4_takeOut_1 fg_X4_20 to_0 rfl ?_
  refine z_iload_n CX 1 dX4_takeOut_4 rfl rfl ?_
  refine z_iconst CX (v := 3) dX4_takeOut_5 (by decide) ?_
  refine z_iload_n CX 2 dX4_takeOut_6 rfl rfl ?_
  refine z_callV0 CX dX4_takeOut_7 cv_X4_37 (tB_put h11 (b := b) (c := 3) hb (by omega) _) to_3 rfl rfl (Nat.le_of_ble_eq_true rfl) ⟨Nat.le_of_ble_eq_true rfl, Nat.le_of_ble_eq_true rfl⟩ ⟨Nat.le_refl _, Nat.le_refl _⟩ ?_
  refine z_aload_n CX 0 dX4_takeOut_10 rfl rfl ?_
  refine z_get CX dX4_takeOut_11 fg_X4_20 to_0 rfl ?_
  refine z_iload_n CX 1 dX4_takeOut_14 rfl rfl ?_
  refine z_iconst CX (v := 4) dX4_takeOut_15 (by decide) ?_
  refine z_iconst CX (v := (-1 : Int32)) dX4_takeOut_16 (by decide) ?_
  refine z_callV0 CX dX4_takeOut_17 cv_X4_37 (tB_put h11 (b := b) (c := 4) hb (by omega) _) to_3 rfl rfl (Nat.le_of_ble_eq_true rfl) ⟨Nat.le_of_ble_eq_true rfl, Nat.le_of_ble_eq_true rfl⟩ ⟨Nat.le_refl _, Nat.le_refl _⟩ ?_
  refine z_heap (congrArg (fun z => TT _ _ _ _ z _) upA_up) ?_
  refine z_aload_n CX 0 dX4_takeOut_20 rfl rfl ?_
  refine z_get CX dX4_takeOut_21 fg_X4_20 to_0 rfl ?_
  refine z_iload_n CX 1 dX4_takeOut_24 rfl rfl ?_
  refine z_iconst CX (v := 5) dX4_takeOut_25 (by decide) ?_
  refine z_iconst CX (v := (-1 : Int32)) dX4_takeOut_26 (by decide) ?_
  refine z_callV0 CX dX4_takeOut_27 cv_X4_37 (tB_put h11 (b := b) (c := 5) hb (by omega) _) to_3 rfl rfl (Nat.le_of_ble_eq_true rfl) ⟨Nat.le_of_ble_eq_true rfl, Nat.le_of_ble_eq_true rfl⟩ ⟨Nat.le_refl _, Nat.le_refl _⟩ ?_
  refine z_heap (congrArg (fun z => TT _ _ _ _ z _) upA_up) ?_
  refine z_aload_n CX 0 dX4_takeOut_30 rfl rfl ?_
  refine z_get CX dX4_takeOut_31 fg_X4_20 to_0 rfl ?_
  refine z_iload_n CX 1 dX4_takeOut_34 rfl rfl ?_
  refine z_bipush CX (v := 7) dX4_takeOut_35 (by decide) ?_
  refine z_iconst CX (v := (-1 : Int32)) dX4_takeOut_37 (by decide) ?_
  refine z_callV0 CX dX4_takeOut_38 cv_X4_37 (tB_put h11 (b := b) (c := 7) hb (by omega) _) to_3 rfl rfl (Nat.le_of_ble_eq_true rfl) ⟨Nat.le_of_ble_eq_true rfl, Nat.le_of_ble_eq_true rfl⟩ ⟨Nat.le_refl _, Nat.le_refl _⟩ ?_
  refine z_heap (congrArg (fun z => TT _ _ _ _ z _) upA_up) ?_
  exact z_vret CX dX4_takeOut_41 rfl rfl (Or.inl rfl)
set_option maxHeartbeats 4000000 in
set_option maxRecDepth 100000 in
theorem t_arr {l : Launch} {w : Wt} {hs : Hs} {n : Option Nat} {k : Nat} {s9 : Nat → Int32} {g9 : Nat → Nat → Int32} {r9 : Nat → Nat} {b : Nat} (h11 : r9 1 ≤ 11) (hb : b < r9 1) : Cn l w mX4_arrive 0 0 [.ref (wB w + k), .int (nI b)] (TT w hs k s9 g9 r9) n (TT w hs k s9 (upA g9 1 (upd (tkO (g9 1) b 2) (b * 10 + 7) (nI (cntN (fun a => decide (g9 1 (a * 10 + 3) = 2)) (r9 1) + 1)))) r9) n none := by
  refine Cn.of (d := mX4_arrive) (by decide +kernel) (Nat.le_of_ble_eq_true rfl) ?_
  intro p e R s m args below meth c CX
  replace CX : Ctx p s m args meth c R w RX4 "arrive" cX4_arrive 3 none 2 47 0 0 := CX
  show ZW p l e R s m args below meth c w 3 _ _ 0 0 (MQ below (Qn w _ _ _) args s 0 0 (wA w)) 0 [(0, .ref (wB w + k)), (1, .int _)] []
  refine z_aload_n CX 0 dX4_arrive_0 rfl rfl ?_
  refine z_get CX dX4_arrive_1 fg_X4_20 to_0 rfl ?_
  refine z_iconst CX (v := 3) dX4_arrive_4 (by decide) ?_
  refine z_iconst CX (v := 2) dX4_arrive_5 (by decide) ?_
  refine z_callV1 CX dX4_arrive_6 cv_X4_136 (tB_cnt h11 (c := 3) (by omega) _) to_3 rfl rfl (Nat.le_of_ble_eq_true rfl) ⟨Nat.le_of_ble_eq_true rfl, Nat.le_of_ble_eq_true rfl⟩ ⟨Nat.le_refl _, Nat.le_refl _⟩ ?_
  refine z_iconst CX (v := 1) dX4_arrive_9 (by decide) ?_
  refine z_iadd CX dX4_arrive_10 ?_
  rw [nI_1]
  refine z_istore_n CX 2 dX4_arrive_11 rfl (by decide) ?_
  refine z_aload_n CX 0 dX4_arrive_12 rfl rfl ?_
  refine z_iload_n CX 1 dX4_arrive_13 rfl rfl ?_
  refine z_iconst CX (v := 2) dX4_arrive_14 (by decide) ?_
  refine z_callV0 CX dX4_arrive_15 cv_X4_133 (t_take h11 hb _) to_0 rfl rfl (Nat.le_of_ble_eq_true rfl) ⟨Nat.le_of_ble_eq_true rfl, Nat.le_of_ble_eq_true rfl⟩ ⟨Nat.le_refl _, Nat.le_refl _⟩ ?_
  refine z_aload_n CX 0 dX4_arrive_18 rfl rfl ?_
  refine z_get CX dX4_arrive_19 fg_X4_20 to_0 rfl ?_
  refine z_iload_n CX 1 dX4_arrive_22 rfl rfl ?_
  refine z_bipush CX (v := 7) dX4_arrive_23 (by decide) ?_
  refine z_iload_n CX 2 dX4_arrive_25 rfl rfl ?_
  refine z_callV0 CX dX4_arrive_26 cv_X4_37 (tB_put h11 (b := b) (c := 7) hb (by omega) _) to_3 rfl rfl (Nat.le_of_ble_eq_true rfl) ⟨Nat.le_of_ble_eq_true rfl, Nat.le_of_ble_eq_true rfl⟩ ⟨Nat.le_refl _, Nat.le_refl _⟩ ?_
  refine z_heap (congrArg (fun z => TT _ _ _ _ z _) upA_up) ?_
  exact z_vret CX dX4_arrive_29 rfl rfl (Or.inl rfl)
set_option maxHeartbeats 4000000 in
set_option maxRecDepth 100000 in
theorem t_sl9 {l : Launch} {w : Wt} {hs : Hs} {n : Option Nat} {k : Nat} {s9 : Nat → Int32} {g9 : Nat → Nat → Int32} {r9 : Nat → Nat} {b : Nat} (h11 : r9 1 ≤ 11) (hb : b < r9 1) : Cn l w mX4_soakLimit 0 0 [.ref (wB w + k), .int (nI b)] (TT w hs k s9 g9 r9) n (TT w hs k s9 g9 r9) n (some (.int (g9 1 (b * 10 + 0) * s9 1 + 4 * g9 1 (b * 10 + 1)))) := by
  refine Cn.of (d := mX4_soakLimit) (by decide +kernel) (Nat.le_of_ble_eq_true rfl) ?_
  intro p e R s m args below meth c CX
  replace CX : Ctx p s m args meth c R w RX4 "soakLimit" cX4_soakLimit 2 (some .int) 1 23 0 0 := CX
  show ZW p l e R s m args below meth c w 2 _ _ 0 0 (MQ below (Qn w _ _ _) args s 0 0 (wA w)) 0 [(0, .ref (wB w + k)), (1, .int _)] []
  refine z_aload_n CX 0 dX4_soakLimit_0 rfl rfl ?_
  refine z_get CX dX4_soakLimit_1 fg_X4_20 to_0 rfl ?_
  refine z_iload_n CX 1 dX4_soakLimit_4 rfl rfl ?_
  refine z_iconst CX (v := 0) dX4_soakLimit_5 (by decide) ?_
  refine z_callV1 CX dX4_soakLimit_6 cv_X4_71 (tB_at h11 (b := b) (c := 0) hb (by omega)) to_3 rfl rfl (Nat.le_of_ble_eq_true rfl) ⟨Nat.le_of_ble_eq_true rfl, Nat.le_of_ble_eq_true rfl⟩ ⟨Nat.le_refl _, Nat.le_refl _⟩ ?_
  refine z_aload_n CX 0 dX4_soakLimit_9 rfl rfl ?_
  refine z_get CX dX4_soakLimit_10 fg_X4_44 to_0 rfl ?_
  refine z_imul CX dX4_soakLimit_13 ?_
  refine z_iconst CX (v := 4) dX4_soakLimit_14 (by decide) ?_
  refine z_aload_n CX 0 dX4_soakLimit_15 rfl rfl ?_
  refine z_get CX dX4_soakLimit_16 fg_X4_20 to_0 rfl ?_
  refine z_iload_n CX 1 dX4_soakLimit_19 rfl rfl ?_
  refine z_iconst CX (v := 1) dX4_soakLimit_20 (by decide) ?_
  refine z_callV1 CX dX4_soakLimit_21 cv_X4_71 (tB_at h11 (b := b) (c := 1) hb (by omega)) to_3 rfl rfl (Nat.le_of_ble_eq_true rfl) ⟨Nat.le_of_ble_eq_true rfl, Nat.le_of_ble_eq_true rfl⟩ ⟨Nat.le_refl _, Nat.le_refl _⟩ ?_
  refine z_imul CX dX4_soakLimit_24 ?_
  refine z_iadd CX dX4_soakLimit_25 ?_
  exact z_iret CX dX4_soakLimit_26 rfl rfl rfl (Or.inl rfl)
def skU (h : Nat → Int32) (b : Nat) (x y : Int32) : Nat → Int32 := if h (b * 10 + 0) * y + 4 * h (b * 10 + 1) < h (b * 10 + 6) + (1 + x) then upd (upd h (b * 10 + 6) (h (b * 10 + 6) + (1 + x))) (b * 10 + 3) 3 else upd h (b * 10 + 6) (h (b * 10 + 6) + (1 + x))
set_option maxHeartbeats 4000000 in
set_option maxRecDepth 100000 in
theorem t_soakU {l : Launch} {w : Wt} {hs : Hs} {n : Option Nat} {k : Nat} {s9 : Nat → Int32} {g9 : Nat → Nat → Int32} {r9 : Nat → Nat} {b : Nat} (h11 : r9 1 ≤ 11) (hb : b < r9 1) : Cn l w mX4_soakUp 0 0 [.ref (wB w + k), .int (nI b)] (TT w hs k s9 g9 r9) n (TT w hs k s9 (upA g9 1 (skU (g9 1) b (s9 0) (s9 1))) r9) n none := by
  refine Cn.of (d := mX4_soakUp) (by decide +kernel) (Nat.le_of_ble_eq_true rfl) ?_
  intro p e R s m args below meth c CX
  replace CX : Ctx p s m args meth c R w RX4 "soakUp" cX4_soakUp 2 none 2 47 0 0 := CX
  show ZW p l e R s m args below meth c w 2 _ _ 0 0 (MQ below (Qn w _ _ _) args s 0 0 (wA w)) 0 [(0, .ref (wB w + k)), (1, .int _)] []
  refine z_aload_n CX 0 dX4_soakUp_0 rfl rfl ?_
  refine z_get CX dX4_soakUp_1 fg_X4_20 to_0 rfl ?_
  refine z_iload_n CX 1 dX4_soakUp_4 rfl rfl ?_
  refine z_bipush CX (v := 6) dX4_soakUp_5 (by decide) ?_
  refine z_iconst CX (v := 1) dX4_soakUp_7 (by decide) ?_
  refine z_aload_n CX 0 dX4_soakUp_8 rfl rfl ?_
  refine z_get CX dX4_soakUp_9 fg_X4_41 to_0 rfl ?_
  refine z_iadd CX dX4_soakUp_12 ?_
  refine z_callV0 CX dX4_soakUp_13 cv_X4_142 (tB_inc h11 (b := b) (c := 6) hb (by omega) _) to_3 rfl rfl (Nat.le_of_ble_eq_true rfl) ⟨Nat.le_of_ble_eq_true rfl, Nat.le_of_ble_eq_true rfl⟩ ⟨Nat.le_refl _, Nat.le_refl _⟩ ?_
  refine z_aload_n CX 0 dX4_soakUp_16 rfl rfl ?_
  refine z_get CX dX4_soakUp_17 fg_X4_20 to_0 rfl ?_
  refine z_iload_n CX 1 dX4_soakUp_20 rfl rfl ?_
  refine z_bipush CX (v := 6) dX4_soakUp_21 (by decide) ?_
  refine z_callV1 CX dX4_soakUp_23 cv_X4_71 (tB_at (g := (upA g9 1 (upd (g9 1) (b * 10 + 6) (g9 1 (b * 10 + 6) + (1 + s9 0))))) h11 (b := b) (c := 6) hb (by omega)) to_3 rfl rfl (Nat.le_of_ble_eq_true rfl) ⟨Nat.le_of_ble_eq_true rfl, Nat.le_of_ble_eq_true rfl⟩ ⟨Nat.le_refl _, Nat.le_refl _⟩ ?_
  rw [show (upA g9 1 (upd (g9 1) (b * 10 + 6) (g9 1 (b * 10 + 6) + (1 + s9 0)))) 1 (b * 10 + 6) = g9 1 (b * 10 + 6) + (1 + s9 0) from pk_us]
  refine z_aload_n CX 0 dX4_soakUp_26 rfl rfl ?_
  refine z_iload_n CX 1 dX4_soakUp_27 rfl rfl ?_
  refine z_callV1 CX dX4_soakUp_28 cv_X4_170 (t_sl9 (g9 := (upA g9 1 (upd (g9 1) (b * 10 + 6) (g9 1 (b * 10 + 6) + (1 + s9 0))))) h11 hb) to_0 rfl rfl (Nat.le_of_ble_eq_true rfl) ⟨Nat.le_of_ble_eq_true rfl, Nat.le_of_ble_eq_true rfl⟩ ⟨Nat.le_refl _, Nat.le_refl _⟩ ?_
  rw [show (upA g9 1 (upd (g9 1) (b * 10 + 6) (g9 1 (b * 10 + 6) + (1 + s9 0)))) 1 (b * 10 + 0) = g9 1 (b * 10 + 0) from pk_un (by omega), show (upA g9 1 (upd (g9 1) (b * 10 + 6) (g9 1 (b * 10 + 6) + (1 + s9 0)))) 1 (b * 10 + 1) = g9 1 (b * 10 + 1) from pk_un (by omega)]
  refine z_icmp_le CX 44 dX4_soakUp_31 (by decide) (fun c_31 => ?_) (fun c_31 => ?_)
  · skip
    exact z_vret CX dX4_soakUp_44 rfl (congrArg (fun z => TT w hs k s9 z r9) (by unfold skU; rw [if_neg (Int32.not_lt.mpr c_31)])) (Or.inl rfl)
  · skip
    refine z_aload_n CX 0 dX4_soakUp_34 rfl rfl ?_
    refine z_get CX dX4_soakUp_35 fg_X4_20 to_0 rfl ?_
    refine z_iload_n CX 1 dX4_soakUp_38 rfl rfl ?_
    refine z_iconst CX (v := 3) dX4_soakUp_39 (by decide) ?_
    refine z_iconst CX (v := 3) dX4_soakUp_40 (by decide) ?_
    refine z_callV0 CX dX4_soakUp_41 cv_X4_37 (tB_put h11 (b := b) (c := 3) hb (by omega) _) to_3 rfl rfl (Nat.le_of_ble_eq_true rfl) ⟨Nat.le_of_ble_eq_true rfl, Nat.le_of_ble_eq_true rfl⟩ ⟨Nat.le_refl _, Nat.le_refl _⟩ ?_
    refine z_heap (congrArg (fun z => TT _ _ _ _ z _) upA_up) ?_
    exact z_vret CX dX4_soakUp_44 rfl (congrArg (fun z => TT w hs k s9 z r9) (by unfold skU; rw [if_pos (Int32.not_le.mp c_31)]; rfl)) (Or.inl rfl)
theorem TH_o {w : Wt} {hs : Hs} {k : Nat} {f f' : Nat → Int32} {x : Int32} {z : Nat → Nat → Int32} {h : Nat → Int32} (hR : RIs f) (E : ∀ j, j < 134 ∨ 146 ≤ j → j ≠ 151 → j ≠ 153 → f' j = f j) (h1 : ∀ j, j < 12 → h j = f' (134 + j)) (h2 : ∀ j, 12 ≤ j → h j = z 2 j) : TT w hs k (sF f x) (upA (gF f z) 2 h) (rF f) = TH w hs k f' x z := by
  have h9 := hR.2.2.1
  have h6 := hR.1.2.1
  have e6 : gN f' = gN f := gN_e (E _ (by omega) (by omega) (by omega))
  have e7 : bN f' = bN f := bN_e (E _ (by omega) (by omega) (by omega))
  refine TH_of ⟨(E _ (by omega) (by omega) (by omega)).symm, (E _ (by omega) (by omega) (by omega)).symm, (E _ (by omega) (by omega) (by omega)).symm, (E _ (by omega) (by omega) (by omega)).symm, (E _ (by omega) (by omega) (by omega)).symm, (E _ (by omega) (by omega) (by omega)).symm, rfl⟩ ⟨e6.symm, e7.symm, rfl⟩ ⟨fun j hj => ?_, fun j hj => ?_⟩ ⟨fun b c hb hc => ?_, fun j hj => ?_⟩ ⟨fun j hj => ?_, fun j hj => ?_⟩
  · exact (gF_0 (by omega)).trans (E _ (by omega) (by omega) (by omega)).symm
  · exact gF_0n (by omega)
  · exact (gF_1 (by omega) hc).trans (nv_e (fun c hc => E _ (by omega) (by omega) (by omega)) hc).symm
  · exact gF_1n (by omega)
  · exact h1 j hj
  · exact h2 j hj
/-- boats changed alone -/
theorem TH_b {w : Wt} {hs : Hs} {k : Nat} {f f' : Nat → Int32} {x : Int32} {z : Nat → Nat → Int32} {h : Nat → Int32} (hR : RIs f) (E : ∀ j, j < 24 ∨ 134 ≤ j → j ≠ 151 → j ≠ 152 → j ≠ 153 → f' j = f j) (h1 : ∀ b c, b < bN f → c < 10 → h (b * 10 + c) = nv f' b c) (h2 : ∀ j, 10 * bN f ≤ j → h j = z 1 j) : TT w hs k (sF f x) (upA (gF f z) 1 h) (rF f) = TH w hs k f' x z := by
  have h9 := hR.2.2.1
  have h6 := hR.1.2.1
  have e6 : gN f' = gN f := gN_e (E _ (by omega) (by omega) (by omega) (by omega))
  have e7 : bN f' = bN f := bN_e (E _ (by omega) (by omega) (by omega) (by omega))
  refine TH_of ⟨(E _ (by omega) (by omega) (by omega) (by omega)).symm, (E _ (by omega) (by omega) (by omega) (by omega)).symm, (E _ (by omega) (by omega) (by omega) (by omega)).symm, (E _ (by omega) (by omega) (by omega) (by omega)).symm, (E _ (by omega) (by omega) (by omega) (by omega)).symm, (E _ (by omega) (by omega) (by omega) (by omega)).symm, rfl⟩ ⟨e6.symm, e7.symm, rfl⟩ ⟨fun j hj => ?_, fun j hj => ?_⟩ ⟨fun b c hb hc => ?_, fun j hj => ?_⟩ ⟨fun j hj => ?_, fun j hj => ?_⟩
  · exact (gF_0 (by omega)).trans (E _ (by omega) (by omega) (by omega) (by omega)).symm
  · exact gF_0n (by omega)
  · exact h1 b c (by omega) hc
  · exact h2 j (by omega)
  · exact (gF_2 hj).trans (E _ (by omega) (by omega) (by omega) (by omega)).symm
  · exact gF_2n hj
theorem c10 {c : Nat} (h : c < 10) : c = 0 ∨ c = 1 ∨ c = 2 ∨ c = 3 ∨ c = 4 ∨ c = 5 ∨ c = 6 ∨ c = 7 ∨ c = 8 ∨ c = 9 := by omega
/-- one boat's columns: the others keep theirs -/
theorem TH_b1 {w : Wt} {hs : Hs} {k : Nat} {f f' : Nat → Int32} {x : Int32} {z : Nat → Nat → Int32} {h : Nat → Int32} {b : Nat} (hR : RIs f) (hb : b < bN f) (E : ∀ j, j < 24 + 10 * b ∨ 24 + 10 * b + 9 < j → j ≠ 151 → j ≠ 152 → j ≠ 153 → f' j = f j) (h1 : ∀ c, c < 10 → h (b * 10 + c) = nv f' b c) (h2 : ∀ j, (j < b * 10 ∨ b * 10 + 9 < j) → h j = gF f z 1 j) : TT w hs k (sF f x) (upA (gF f z) 1 h) (rF f) = TH w hs k f' x z := by
  have h9 := hR.2.2.1
  refine TH_b hR (fun j hj => E j (by omega)) (fun b' c hb' hc => ?_) (fun j hj => (h2 j (by omega)).trans (gF_1n hj))
  by_cases e : b' = b
  · subst e; exact h1 c hc
  · rw [h2 _ (by omega), gF_1 hb' hc]
    exact (nv_e (fun c hc => E _ (by omega) (by omega) (by omega) (by omega)) hc).symm
set_option maxHeartbeats 4000000 in
set_option maxRecDepth 100000 in
theorem t_hook {l : Launch} {w : Wt} {hs : Hs} {n : Option Nat} {k : Nat} {f : Nat → Int32} {x : Int32} {z : Nat → Nat → Int32} (hR : RIs f) {o : Nat} (ho : o < 4) (y v : Int32) : Cn l w mX4_putHook 0 0 [.ref (wB w + k), .int (nI o), .int y, .int v] (TH w hs k f x z) n (TH w hs k (hokF f o y v) x z) n none := by
  refine Cn.of (d := mX4_putHook) (by decide +kernel) (Nat.le_of_ble_eq_true rfl) ?_
  intro p e R s m args below meth c CX
  replace CX : Ctx p s m args meth c R w RX4 "putHook" cX4_putHook 4 none 1 24 0 0 := CX
  show ZW p l e R s m args below meth c w 4 _ _ 0 0 (MQ below (Qn w _ _ _) args s 0 0 (wA w)) 0 [(0, .ref (wB w + k)), (1, .int _), (2, .int _), (3, .int _)] []
  refine z_aload_n CX 0 dX4_putHook_0 rfl rfl ?_
  refine z_get CX dX4_putHook_1 fg_X4_23 to_0 rfl ?_
  refine z_iload_n CX 1 dX4_putHook_4 rfl rfl ?_
  refine z_iconst CX (v := 1) dX4_putHook_5 (by decide) ?_
  refine z_iload_n CX 2 dX4_putHook_6 rfl rfl ?_
  refine z_callV0 CX dX4_putHook_7 cv_X4_37 (tO_put (Nat.le_refl 4) (b := o) (c := 1) ho (by omega) _) to_5 rfl rfl (Nat.le_of_ble_eq_true rfl) ⟨Nat.le_of_ble_eq_true rfl, Nat.le_of_ble_eq_true rfl⟩ ⟨Nat.le_refl _, Nat.le_refl _⟩ ?_
  refine z_aload_n CX 0 dX4_putHook_10 rfl rfl ?_
  refine z_get CX dX4_putHook_11 fg_X4_23 to_0 rfl ?_
  refine z_iload_n CX 1 dX4_putHook_14 rfl rfl ?_
  refine z_iconst CX (v := 2) dX4_putHook_15 (by decide) ?_
  refine z_iload_n CX 3 dX4_putHook_16 rfl rfl ?_
  refine z_callV0 CX dX4_putHook_17 cv_X4_37 (tO_put (Nat.le_refl 4) (b := o) (c := 2) ho (by omega) _) to_5 rfl rfl (Nat.le_of_ble_eq_true rfl) ⟨Nat.le_of_ble_eq_true rfl, Nat.le_of_ble_eq_true rfl⟩ ⟨Nat.le_refl _, Nat.le_refl _⟩ ?_
  refine z_heap (congrArg (fun z => TT _ _ _ _ z _) upA_up) ?_
  exact z_vret CX dX4_putHook_20 rfl (TH_o hR (fun j h1 h2 h3 => hokF_n (by omega) (by omega)) (fun j hj => by
        show upd (upd (gF f z 2) (o * 3 + 1) y) (o * 3 + 2) v j = hokF f o y v (134 + j)
        by_cases e2 : j = o * 3 + 2
        · subst e2; rw [pk_us]; unfold hokF; rw [show 134 + (o * 3 + 2) = 134 + 3 * o + 2 by omega, pk_us]
        · rw [pk_un e2]
          by_cases e1 : j = o * 3 + 1
          · subst e1; rw [pk_us]; unfold hokF; rw [show 134 + (o * 3 + 1) = 134 + 3 * o + 1 by omega, pk_un (by omega), pk_us]
          · rw [pk_un e1, hokF_n (by omega) (by omega)]; exact gF_2 hj) (fun j hj => by
        show upd (upd (gF f z 2) (o * 3 + 1) y) (o * 3 + 2) v j = _
        rw [pk_un (by omega), pk_un (by omega)]; exact gF_2n hj)) (Or.inl rfl)
set_option maxHeartbeats 4000000 in
set_option maxRecDepth 100000 in
theorem t_chS {l : Launch} {w : Wt} {hs : Hs} {n : Option Nat} {k : Nat} {f : Nat → Int32} {x : Int32} {z : Nat → Nat → Int32} (hR : RIs f) {i : Nat} (hi : i < 3) (v : Int32) : Cn l w mX4_changeSetting 0 0 [.ref (wB w + k), .int (nI i), .int v] (TH w hs k f x z) n (TH w hs k (upd f (154 + i) v) x z) n (some (.int (f (154 + i)))) := by
  have h9 := hR.2.2.1
  have h6 := hR.1.2.1
  have hE : ∀ s' : Nat → Int32, s' 3 = f 148 → s' 4 = f 149 → s' 5 = f 150 → s' 6 = x → (∀ q, q < 3 → s' q = upd f (154 + i) v (154 + q)) → TT w hs k s' (gF f z) (rF f) = TH w hs k (upd f (154 + i) v) x z := by
    intro s' e3 e4 e5 e6 e
    refine TH_of ⟨e 0 (by omega), e 1 (by omega), e 2 (by omega), e3.trans (pk_un (by omega)).symm, e4.trans (pk_un (by omega)).symm, e5.trans (pk_un (by omega)).symm, e6⟩ ⟨(gN_e (pk_un (by omega))).symm, (bN_e (pk_un (by omega))).symm, rfl⟩ ⟨fun j hj => ?_, fun j hj => ?_⟩ ⟨fun b c hb hc => ?_, fun j hj => ?_⟩ ⟨fun j hj => ?_, fun j hj => gF_2n hj⟩
    · rw [gN_e (pk_un (by omega))] at hj
      exact (gF_0 hj).trans (pk_un (by omega)).symm
    · rw [gN_e (pk_un (by omega))] at hj
      exact gF_0n hj
    · rw [bN_e (pk_un (by omega))] at hb
      exact (gF_1 hb hc).trans (nv_e (fun c hc => pk_un (by omega)) hc).symm
    · rw [bN_e (pk_un (by omega))] at hj
      exact gF_1n hj
    · exact (gF_2 hj).trans (pk_un (by omega)).symm
  rcases is3 hi with e | e | e
  · subst e
    refine Cn.of (d := mX4_changeSetting) (by decide +kernel) (Nat.le_of_ble_eq_true rfl) ?_
    intro p e R s m args below meth c CX
    replace CX : Ctx p s m args meth c R w RX4 "changeSetting" cX4_changeSetting 4 (some .int) 1 21 0 0 := CX
    show ZW p l e R s m args below meth c w 4 _ _ 0 0 (MQ below (Qn w _ _ _) args s 0 0 (wA w)) 0 [(0, .ref (wB w + k)), (1, .int _), (2, .int _)] []
    refine z_aload_n CX 0 dX4_changeSetting_0 rfl rfl ?_
    refine z_iload_n CX 1 dX4_changeSetting_1 rfl rfl ?_
    refine z_callV1 CX dX4_changeSetting_2 cv_X4_145 (t_setN (i := 0) (by omega)) to_0 rfl rfl (Nat.le_of_ble_eq_true rfl) ⟨Nat.le_of_ble_eq_true rfl, Nat.le_of_ble_eq_true rfl⟩ ⟨Nat.le_refl _, Nat.le_refl _⟩ ?_
    refine z_istore_n CX 3 dX4_changeSetting_5 rfl (by decide) ?_
    refine z_iload_n CX 1 dX4_changeSetting_6 rfl rfl ?_
    refine z_if_ne CX 18 dX4_changeSetting_7 (by decide) (fun q9 => absurd q9 (fun q => q rfl)) (fun _ => ?_)
    refine z_aload_n CX 0 dX4_changeSetting_10 rfl rfl ?_
    refine z_iload_n CX 2 dX4_changeSetting_11 rfl rfl ?_
    refine z_put CX dX4_changeSetting_12 fg_X4_41 fp_X4_3 to_0 (Nat.le_of_ble_eq_true rfl) rfl rfl ?_
    refine z_heap to_f0 ?_
    refine z_goto CX 36 dX4_changeSetting_15 (by decide) ?_
    refine z_iload_n CX 3 dX4_changeSetting_36 rfl rfl ?_
    exact z_iret CX dX4_changeSetting_37 rfl rfl (hE _ rfl rfl rfl rfl (fun q hq => by rcases is3 hq with e | e | e <;> subst e <;> rfl)) (Or.inl rfl)
  · subst e
    refine Cn.of (d := mX4_changeSetting) (by decide +kernel) (Nat.le_of_ble_eq_true rfl) ?_
    intro p e R s m args below meth c CX
    replace CX : Ctx p s m args meth c R w RX4 "changeSetting" cX4_changeSetting 4 (some .int) 1 21 0 0 := CX
    show ZW p l e R s m args below meth c w 4 _ _ 0 0 (MQ below (Qn w _ _ _) args s 0 0 (wA w)) 0 [(0, .ref (wB w + k)), (1, .int _), (2, .int _)] []
    refine z_aload_n CX 0 dX4_changeSetting_0 rfl rfl ?_
    refine z_iload_n CX 1 dX4_changeSetting_1 rfl rfl ?_
    refine z_callV1 CX dX4_changeSetting_2 cv_X4_145 (t_setN (i := 1) (by omega)) to_0 rfl rfl (Nat.le_of_ble_eq_true rfl) ⟨Nat.le_of_ble_eq_true rfl, Nat.le_of_ble_eq_true rfl⟩ ⟨Nat.le_refl _, Nat.le_refl _⟩ ?_
    refine z_istore_n CX 3 dX4_changeSetting_5 rfl (by decide) ?_
    refine z_iload_n CX 1 dX4_changeSetting_6 rfl rfl ?_
    refine z_if_ne CX 18 dX4_changeSetting_7 (by decide) (fun _ => ?_) (fun q9 => absurd q9 (by decide))
    refine z_iload_n CX 1 dX4_changeSetting_18 rfl rfl ?_
    refine z_iconst CX (v := 1) dX4_changeSetting_19 (by decide) ?_
    refine z_icmp_ne CX 31 dX4_changeSetting_20 (by decide) (fun q9 => absurd q9 (fun q => q rfl)) (fun _ => ?_)
    refine z_aload_n CX 0 dX4_changeSetting_23 rfl rfl ?_
    refine z_iload_n CX 2 dX4_changeSetting_24 rfl rfl ?_
    refine z_put CX dX4_changeSetting_25 fg_X4_44 fp_X4_4 to_0 (Nat.le_of_ble_eq_true rfl) rfl rfl ?_
    refine z_heap to_f1 ?_
    refine z_goto CX 36 dX4_changeSetting_28 (by decide) ?_
    refine z_iload_n CX 3 dX4_changeSetting_36 rfl rfl ?_
    exact z_iret CX dX4_changeSetting_37 rfl rfl (hE _ rfl rfl rfl rfl (fun q hq => by rcases is3 hq with e | e | e <;> subst e <;> rfl)) (Or.inl rfl)
  · subst e
    refine Cn.of (d := mX4_changeSetting) (by decide +kernel) (Nat.le_of_ble_eq_true rfl) ?_
    intro p e R s m args below meth c CX
    replace CX : Ctx p s m args meth c R w RX4 "changeSetting" cX4_changeSetting 4 (some .int) 1 21 0 0 := CX
    show ZW p l e R s m args below meth c w 4 _ _ 0 0 (MQ below (Qn w _ _ _) args s 0 0 (wA w)) 0 [(0, .ref (wB w + k)), (1, .int _), (2, .int _)] []
    refine z_aload_n CX 0 dX4_changeSetting_0 rfl rfl ?_
    refine z_iload_n CX 1 dX4_changeSetting_1 rfl rfl ?_
    refine z_callV1 CX dX4_changeSetting_2 cv_X4_145 (t_setN (i := 2) (by omega)) to_0 rfl rfl (Nat.le_of_ble_eq_true rfl) ⟨Nat.le_of_ble_eq_true rfl, Nat.le_of_ble_eq_true rfl⟩ ⟨Nat.le_refl _, Nat.le_refl _⟩ ?_
    refine z_istore_n CX 3 dX4_changeSetting_5 rfl (by decide) ?_
    refine z_iload_n CX 1 dX4_changeSetting_6 rfl rfl ?_
    refine z_if_ne CX 18 dX4_changeSetting_7 (by decide) (fun _ => ?_) (fun q9 => absurd q9 (by decide))
    refine z_iload_n CX 1 dX4_changeSetting_18 rfl rfl ?_
    refine z_iconst CX (v := 1) dX4_changeSetting_19 (by decide) ?_
    refine z_icmp_ne CX 31 dX4_changeSetting_20 (by decide) (fun _ => ?_) (fun q9 => absurd q9 (by decide))
    refine z_aload_n CX 0 dX4_changeSetting_31 rfl rfl ?_
    refine z_iload_n CX 2 dX4_changeSetting_32 rfl rfl ?_
    refine z_put CX dX4_changeSetting_33 fg_X4_47 fp_X4_5 to_0 (Nat.le_of_ble_eq_true rfl) rfl rfl ?_
    refine z_heap to_f2 ?_
    refine z_iload_n CX 3 dX4_changeSetting_36 rfl rfl ?_
    exact z_iret CX dX4_changeSetting_37 rfl rfl (hE _ rfl rfl rfl rfl (fun q hq => by rcases is3 hq with e | e | e <;> subst e <;> rfl)) (Or.inl rfl)
