/-! A TEXT: three cells: the object, its characters, its numbers. s: 0 length, 1 position, 2 letter -/
def XT (w : Wt) (hs : Hs) (k : Nat) (s : Nat → Int32) (c d : Nat → Int32) : Hs := fun j => if j = k then some (.inr (3, [.ref (wB w + (k + 1)), .ref (wB w + (k + 2)), .int (s 0), .int (s 1), .int (s 2)])) else if j = k + 1 then some (.inl (wC w 0, 120, .inl c)) else if j = k + 2 then some (.inl (wC w 0, 4, .inl d)) else hs j
section
variable {w : Wt} {hs : Hs} {k : Nat} {s c d : Nat → Int32}
theorem xt_0 : XT w hs k s c d k = some (.inr (3, [.ref (wB w + (k + 1)), .ref (wB w + (k + 2)), .int (s 0), .int (s 1), .int (s 2)])) := if_pos rfl
theorem xt_1 : XT w hs k s c d (k + 1) = some (.inl (wC w 0, 120, .inl c)) := by unfold XT; rw [if_neg (by omega), if_pos rfl]
theorem xt_2 : XT w hs k s c d (k + 2) = some (.inl (wC w 0, 4, .inl d)) := by unfold XT; rw [if_neg (by omega), if_neg (by omega), if_pos rfl]
theorem xt_n {j : Nat} (h : j < k ∨ k + 3 ≤ j) : XT w hs k s c d j = hs j := by unfold XT; rw [if_neg (by omega), if_neg (by omega), if_neg (by omega)]
theorem xt_f0 {x : Int32} : upH (XT w hs k s c d) k (.inr (3, [.ref (wB w + (k + 1)), .ref (wB w + (k + 2)), .int x, .int (s 1), .int (s 2)])) = XT w hs k (upd s 0 x) c d := by
  funext j; unfold upH XT
  by_cases h : j = k
  · rw [if_pos h, if_pos h]; rfl
  · rw [if_neg h, if_neg h, if_neg h]
theorem xt_f1 {x : Int32} : upH (XT w hs k s c d) k (.inr (3, [.ref (wB w + (k + 1)), .ref (wB w + (k + 2)), .int (s 0), .int x, .int (s 2)])) = XT w hs k (upd s 1 x) c d := by
  funext j; unfold upH XT
  by_cases h : j = k
  · rw [if_pos h, if_pos h]; rfl
  · rw [if_neg h, if_neg h, if_neg h]
theorem xt_f2 {x : Int32} : upH (XT w hs k s c d) k (.inr (3, [.ref (wB w + (k + 1)), .ref (wB w + (k + 2)), .int (s 0), .int (s 1), .int x])) = XT w hs k (upd s 2 x) c d := by
  funext j; unfold upH XT
  by_cases h : j = k
  · rw [if_pos h, if_pos h]; rfl
  · rw [if_neg h, if_neg h, if_neg h]
theorem xt_c {f : Nat → Int32} : upH (XT w hs k s c d) (k + 1) (.inl (wC w 0, 120, .inl f)) = XT w hs k s f d := by
  funext j; unfold upH XT
  by_cases h : j = k + 1
  · rw [if_pos h, if_neg (by omega), if_pos h]
  · rw [if_neg h, if_neg h, if_neg h]
theorem xt_d {f : Nat → Int32} : upH (XT w hs k s c d) (k + 2) (.inl (wC w 0, 4, .inl f)) = XT w hs k s c f := by
  funext j; unfold upH XT
  by_cases h : j = k + 2
  · rw [if_pos h, if_neg (by omega), if_neg (by omega), if_pos h]
  · rw [if_neg h, if_neg h, if_neg h]
end
theorem upd_up9 {f : Nat → Int32} {i : Nat} {a b : Int32} : upd (upd f i a) i b = upd f i b := by
  funext j; unfold upd; split <;> rfl
theorem upd_id9 {f : Nat → Int32} {i : Nat} {a : Int32} (h : f i = a) : upd f i a = f := by
  funext j; unfold upd
  by_cases e : j = i
  · rw [if_pos e, e, h]
  · rw [if_neg e]
set_option maxHeartbeats 4000000 in
set_option maxRecDepth 100000 in
theorem x_full {l : Launch} {w : Wt} {hs : Hs} {n : Option Nat} {k : Nat} {s9 c9 d9 : Nat → Int32} {len : Nat} (h0 : s9 0 = nI len) (hl : len ≤ 120) : Cn l w mX3_isFull 0 0 [.ref (wB w + k)] (XT w hs k s9 c9 d9) n (XT w hs k s9 c9 d9) n (some (.int (bI (decide (len = 120))))) := by
  refine Cn.of (d := mX3_isFull) (by decide +kernel) (Nat.le_of_ble_eq_true rfl) ?_
  intro p e R s m args below meth c CX
  replace CX : Ctx p s m args meth c R w RX3 "isFull" cX3_isFull 1 (some .boolean) 0 0 0 0 := CX
  show ZW p l e R s m args below meth c w 1 _ _ 0 0 (MQ below (Qn w _ _ _) args s 0 0 (wA w)) 0 [(0, .ref (wB w + k))] []
  refine z_aload_n CX 0 dX3_isFull_0 rfl rfl ?_
  refine z_get CX dX3_isFull_1 fg_X3_18 xt_0 rfl ?_
  refine z_bipush CX (v := 120) dX3_isFull_4 (by decide) ?_
  refine z_icmp_lt CX 13 dX3_isFull_6 (by decide) (fun c_6 => ?_) (fun c_6 => ?_)
  · skip
    refine z_iconst CX (v := 0) dX3_isFull_13 (by decide) ?_
    exact z_zret CX dX3_isFull_14 rfl (by first | rfl | exact bI_nar _) (congrArg Value.int (by rw [h0] at c_6; rw [show bI (decide (len = 120)) = 0 from by rw [decide_eq_false (fun q => absurd c_6 (by rw [q]; decide))]; rfl])) rfl (Or.inl rfl)
  · skip
    refine z_iconst CX (v := 1) dX3_isFull_9 (by decide) ?_
    refine z_goto CX 14 dX3_isFull_10 (by decide) ?_
    exact z_zret CX dX3_isFull_14 rfl (by first | rfl | exact bI_nar _) (congrArg Value.int (by rw [h0] at c_6; rw [show bI (decide (len = 120)) = 1 from by rw [decide_eq_true (show len = 120 from Nat.le_antisymm hl (Nat.le_of_not_lt (fun q => c_6 (nI_lt (b := 120) q (by omega)))))]; rfl])) rfl (Or.inl rfl)
set_option maxHeartbeats 4000000 in
set_option maxRecDepth 100000 in
theorem x_add {l : Launch} {w : Wt} {hs : Hs} {n : Option Nat} {k : Nat} {s9 c9 d9 : Nat → Int32} {len : Nat} (x : Int32) (h0 : s9 0 = nI len) (hl : len < 120) : Cn l w mX3_add 0 0 [.ref (wB w + k), .int x] (XT w hs k s9 c9 d9) n (XT w hs k (upd s9 0 (nI (len + 1))) (upd c9 len x) d9) n (some (.int (nI (len + 1)))) := by
  refine Cn.of (d := mX3_add) (by decide +kernel) (Nat.le_of_ble_eq_true rfl) ?_
  intro p e R s m args below meth c CX
  replace CX : Ctx p s m args meth c R w RX3 "add" cX3_add 2 (some .int) 0 0 0 0 := CX
  show ZW p l e R s m args below meth c w 2 _ _ 0 0 (MQ below (Qn w _ _ _) args s 0 0 (wA w)) 0 [(0, .ref (wB w + k)), (1, .int _)] []
  refine z_aload_n CX 0 dX3_add_0 rfl rfl ?_
  refine z_get CX dX3_add_1 fg_X3_18 xt_0 rfl ?_
  refine z_if_lt CX 39 dX3_add_4 (by decide) (fun q9 => absurd q9 (by rw [h0]; exact Int32.not_lt.mpr (nI_le (Nat.zero_le _) (by omega)))) (fun _ => ?_)
  refine z_aload_n CX 0 dX3_add_7 rfl rfl ?_
  refine z_get CX dX3_add_8 fg_X3_18 xt_0 rfl ?_
  refine z_aload_n CX 0 dX3_add_11 rfl rfl ?_
  refine z_get CX dX3_add_12 fg_X3_9 xt_0 rfl ?_
  refine z_alen CX 0 dX3_add_15 xt_1 rfl rfl ?_
  refine z_icmp_ge CX 39 dX3_add_16 (by decide) (fun q9 => absurd q9 (by rw [h0]; exact nI_ge (b := 120) hl (by omega))) (fun _ => ?_)
  refine z_aload_n CX 0 dX3_add_19 rfl rfl ?_
  refine z_get CX dX3_add_20 fg_X3_9 xt_0 rfl ?_
  refine z_aload_n CX 0 dX3_add_23 rfl rfl ?_
  refine z_get CX dX3_add_24 fg_X3_18 xt_0 rfl ?_
  refine z_iload_n CX 1 dX3_add_27 rfl rfl ?_
  refine z_is CX (j := len) dX3_add_28 xt_1 h0 (by omega) (by decide) ?_
  refine z_heap xt_c ?_
  refine z_aload_n CX 0 dX3_add_29 rfl rfl ?_
  refine z_dup CX dX3_add_30 rfl ?_
  refine z_get CX dX3_add_31 fg_X3_18 xt_0 rfl ?_
  refine z_iconst CX (v := 1) dX3_add_34 (by decide) ?_
  refine z_iadd CX dX3_add_35 ?_
  rw [show s9 0 + 1 = nI (len + 1) from by rw [h0, nI_succ]]
  refine z_put CX dX3_add_36 fg_X3_18 fp_X3_2 xt_0 (Nat.le_of_ble_eq_true rfl) rfl rfl ?_
  refine z_heap xt_f0 ?_
  refine z_aload_n CX 0 dX3_add_39 rfl rfl ?_
  refine z_get CX dX3_add_40 fg_X3_18 xt_0 rfl ?_
  exact z_iret CX dX3_add_43 rfl rfl rfl (Or.inl rfl)
set_option maxHeartbeats 4000000 in
set_option maxRecDepth 100000 in
theorem x_empty {l : Launch} {w : Wt} {hs : Hs} {n : Option Nat} {k : Nat} {s9 c9 d9 : Nat → Int32} {len : Nat} (h0 : s9 0 = nI len) : Cn l w mX3_makeEmpty 0 0 [.ref (wB w + k)] (XT w hs k s9 c9 d9) n (XT w hs k (upd s9 0 0) c9 d9) n (some (.int (nI len))) := by
  refine Cn.of (d := mX3_makeEmpty) (by decide +kernel) (Nat.le_of_ble_eq_true rfl) ?_
  intro p e R s m args below meth c CX
  replace CX : Ctx p s m args meth c R w RX3 "makeEmpty" cX3_makeEmpty 2 (some .int) 0 0 0 0 := CX
  show ZW p l e R s m args below meth c w 2 _ _ 0 0 (MQ below (Qn w _ _ _) args s 0 0 (wA w)) 0 [(0, .ref (wB w + k))] []
  refine z_aload_n CX 0 dX3_makeEmpty_0 rfl rfl ?_
  refine z_get CX dX3_makeEmpty_1 fg_X3_18 xt_0 rfl ?_
  refine z_istore_n CX 1 dX3_makeEmpty_4 rfl (by decide) ?_
  refine z_aload_n CX 0 dX3_makeEmpty_5 rfl rfl ?_
  refine z_iconst CX (v := 0) dX3_makeEmpty_6 (by decide) ?_
  refine z_put CX dX3_makeEmpty_7 fg_X3_18 fp_X3_2 xt_0 (Nat.le_of_ble_eq_true rfl) rfl rfl ?_
  refine z_heap xt_f0 ?_
  refine z_iload_n CX 1 dX3_makeEmpty_10 rfl rfl ?_
  exact z_iret CX dX3_makeEmpty_11 rfl (congrArg Value.int h0.symm) rfl (Or.inl rfl)
set_option maxHeartbeats 4000000 in
set_option maxRecDepth 100000 in
theorem x_hand {l : Launch} {w : Wt} {hs : Hs} {n : Option Nat} {k : Nat} {s9 c9 d9 : Nat → Int32} {len y : Nat} (h0 : s9 0 = nI len) (hl : len ≤ 120) (h1 : s9 1 = nI y) (hy : y < 1000) : Cn l w mX3_atHand 0 0 [.ref (wB w + k)] (XT w hs k s9 c9 d9) n (XT w hs k s9 c9 d9) n (some (.int (hrF c9 len y))) := by
  refine Cn.of (d := mX3_atHand) (by decide +kernel) (Nat.le_of_ble_eq_true rfl) ?_
  intro p e R s m args below meth c CX
  replace CX : Ctx p s m args meth c R w RX3 "atHand" cX3_atHand 1 (some .int) 0 0 0 0 := CX
  show ZW p l e R s m args below meth c w 1 _ _ 0 0 (MQ below (Qn w _ _ _) args s 0 0 (wA w)) 0 [(0, .ref (wB w + k))] []
  refine z_aload_n CX 0 dX3_atHand_0 rfl rfl ?_
  refine z_get CX dX3_atHand_1 fg_X3_22 xt_0 rfl ?_
  refine z_if_lt CX 42 dX3_atHand_4 (by decide) (fun q9 => absurd q9 (by rw [h1]; exact Int32.not_lt.mpr (nI_le (Nat.zero_le _) (by omega)))) (fun _ => ?_)
  refine z_aload_n CX 0 dX3_atHand_7 rfl rfl ?_
  refine z_get CX dX3_atHand_8 fg_X3_22 xt_0 rfl ?_
  refine z_aload_n CX 0 dX3_atHand_11 rfl rfl ?_
  refine z_get CX dX3_atHand_12 fg_X3_18 xt_0 rfl ?_
  refine z_icmp_ge CX 42 dX3_atHand_15 (by decide) (fun c_15 => ?_) (fun c_15 => ?_)
  · skip
    refine z_iconst CX (v := (-1 : Int32)) dX3_atHand_42 (by decide) ?_
    exact z_iret CX dX3_atHand_43 rfl (congrArg Value.int (by unfold hrF; rw [h0, h1] at c_15; rw [if_neg (fun q => absurd c_15 (nI_ge q (by omega)))])) rfl (Or.inl rfl)
  · skip
    rw [h1, h0] at c_15
    have hp : y < len := Nat.lt_of_not_le (fun q => c_15 (nI_le q (by omega)))
    refine z_aload_n CX 0 dX3_atHand_18 rfl rfl ?_
    refine z_get CX dX3_atHand_19 fg_X3_22 xt_0 rfl ?_
    refine z_aload_n CX 0 dX3_atHand_22 rfl rfl ?_
    refine z_get CX dX3_atHand_23 fg_X3_9 xt_0 rfl ?_
    refine z_alen CX 0 dX3_atHand_26 xt_1 rfl rfl ?_
    refine z_icmp_ge CX 42 dX3_atHand_27 (by decide) (fun q9 => absurd q9 (by rw [h1]; exact nI_ge (b := 120) (by omega) (by omega))) (fun _ => ?_)
    refine z_aload_n CX 0 dX3_atHand_30 rfl rfl ?_
    refine z_get CX dX3_atHand_31 fg_X3_9 xt_0 rfl ?_
    refine z_aload_n CX 0 dX3_atHand_34 rfl rfl ?_
    refine z_get CX dX3_atHand_35 fg_X3_22 xt_0 rfl ?_
    refine z_ia CX (j := y) dX3_atHand_38 xt_1 h1 (by omega) (by decide) ?_
    refine z_goto CX 43 dX3_atHand_39 (by decide) ?_
    exact z_iret CX dX3_atHand_43 rfl (congrArg Value.int (by unfold hrF; rw [if_pos hp])) rfl (Or.inl rfl)
