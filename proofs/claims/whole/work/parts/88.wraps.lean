/-! the wrappers, each over a contract of the method that it calls -/
theorem vp_in_0 : vp_in (0 : Int32) 1 := by unfold vp_in; decide
set_option maxHeartbeats 4000000 in
set_option maxRecDepth 100000 in
theorem w0_about {l : Launch} {w : Wt} {hs hs9 : Hs} {n n9 : Option Nat} {k io : Nat} {a : Int32} {v : Int32} {fs : List Value} {f : Nat → Int64} (hx : hs k = some (.inr (5, fs))) (ho : hs9 io = some (.inl (wC w 2, 1, .inr (.inl f)))) (hn9 : n9 = n9 ∨ n9 = none) (hC : Cn l w mX5_about 0 0 [.ref (wB w + k), .int a] hs n hs9 n9 (some (.int v))) : Cw l w mL_about [(0, 9, 12, 13)] 1 6 [.ref (wB w + k), .int a, .ref (wB w + io)] hs n (upH hs9 io (.inl (wC w 2, 1, .inr (.inl (vp_updL f 0 v.toInt64))))) n9 (some (.int 0)) := by
  refine Cw.of (d := mL_about) (hh := [(0, 9, 12, 13)]) (by decide +kernel) (Nat.le_of_ble_eq_true rfl) ?_
  intro p e R s m args below meth c CX htb hN
  replace CX : Ctx p s m args meth c R w RL "about" cL_about 4 (some .int) 8 133 1 6 := CX
  show ZW p l e R s m args below meth c w 4 _ _ 0 0 (MQ below (Qn w _ _ _) args s 1 6 (wA w)) 0 [(0, .ref (wB w + k)), (1, .int _), (2, .ref (wB w + io))] []
  refine z_aload_n CX 2 dL_about_0 rfl rfl ?_
  refine z_iconst CX (v := 0) dL_about_1 (by decide) ?_
  refine z_aload_n CX 0 dL_about_2 rfl rfl ?_
  refine z_iload_n CX 1 dL_about_3 rfl rfl ?_
  refine z_callV1 CX dL_about_4 cv_L_21 hC hx rfl rfl (Nat.le_of_ble_eq_true rfl) ⟨Nat.le_of_ble_eq_true rfl, Nat.le_of_ble_eq_true rfl⟩ ⟨Nat.le_of_ble_eq_true rfl, Nat.le_of_ble_eq_true rfl⟩ ?_
  refine z_i2l CX dL_about_7 rfl ?_
  refine z_last CX dL_about_8 ho vp_in_0 ?_
  refine z_goto CX 15 dL_about_9 (by decide) ?_
  refine z_iconst CX (v := 0) dL_about_15 (by decide) ?_
  refine z_widen (k9 := 1) (n9 := 6) (by omega) (by omega) ?_
  exact z_iret CX dL_about_16 rfl rfl rfl (Or.inl rfl)
set_option maxHeartbeats 4000000 in
set_option maxRecDepth 100000 in
theorem wx_about2 {l : Launch} {w : Wt} {hs hs9 : Hs} {n : Option Nat} {k io : Nat} {a : Int32} {fs : List Value} (hx : hs k = some (.inr (5, fs))) (hC : Cx l w mX5_about 1 6 [.ref (wB w + k), .int a] hs n hs9 (exN 2)) : Cw l w mL_about [(0, 9, 12, 13)] 1 6 [.ref (wB w + k), .int a, .ref (wB w + io)] hs n hs9 none (some (.int 1)) := by
  refine Cw.of (d := mL_about) (hh := [(0, 9, 12, 13)]) (by decide +kernel) (Nat.le_of_ble_eq_true rfl) ?_
  intro p e R s m args below meth c CX htb hN
  replace CX : Ctx p s m args meth c R w RL "about" cL_about 4 (some .int) 8 133 1 6 := CX
  show ZW p l e R s m args below meth c w 4 _ _ 0 0 (MQ below (Qn w _ _ _) args s 1 6 (wA w)) 0 [(0, .ref (wB w + k)), (1, .int _), (2, .ref (wB w + io))] []
  refine z_aload_n CX 2 dL_about_0 rfl rfl ?_
  refine z_iconst CX (v := 0) dL_about_1 (by decide) ?_
  refine z_aload_n CX 0 dL_about_2 rfl rfl ?_
  refine z_iload_n CX 1 dL_about_3 rfl rfl ?_
  refine z_callVc CX htb hN (j := 2) [] [] ⟨0, 9, 12, 13⟩ rfl (by decide) (by decide) ⟨by omega, by omega⟩ (fun _ h => absurd h List.not_mem_nil) (wa_mem 302 (by decide +kernel) rfl) dL_about_4 cv_L_21 hC hx rfl rfl (Nat.le_of_ble_eq_true rfl) ⟨Nat.le_of_ble_eq_true rfl, Nat.le_of_ble_eq_true rfl⟩ ⟨Nat.le_of_ble_eq_true rfl, Nat.le_of_ble_eq_true rfl⟩ (fun q9 => ?_)
  refine z_astore_n CX 3 dL_about_12 rfl (by decide) ?_
  refine z_iconst CX (v := 1) dL_about_13 (by decide) ?_
  exact z_iret CX dL_about_14 rfl rfl rfl (Or.inl rfl)
set_option maxHeartbeats 4000000 in
set_option maxRecDepth 100000 in
theorem w0_append {l : Launch} {w : Wt} {hs hs9 : Hs} {n n9 : Option Nat} {k io : Nat} {a : Int32} {v : Int32} {fs : List Value} {f : Nat → Int64} (hx : hs k = some (.inr (5, fs))) (ho : hs9 io = some (.inl (wC w 2, 1, .inr (.inl f)))) (hn9 : n9 = n9 ∨ n9 = none) (hC : Cn l w mX5_append 0 0 [.ref (wB w + k), .int a] hs n hs9 n9 (some (.int v))) : Cw l w mL_append [(0, 9, 12, 13), (0, 9, 15, 15)] 1 6 [.ref (wB w + k), .int a, .ref (wB w + io)] hs n (upH hs9 io (.inl (wC w 2, 1, .inr (.inl (vp_updL f 0 v.toInt64))))) n9 (some (.int 0)) := by
  refine Cw.of (d := mL_append) (hh := [(0, 9, 12, 13), (0, 9, 15, 15)]) (by decide +kernel) (Nat.le_of_ble_eq_true rfl) ?_
  intro p e R s m args below meth c CX htb hN
  replace CX : Ctx p s m args meth c R w RL "append" cL_append 4 (some .int) 8 133 1 6 := CX
  show ZW p l e R s m args below meth c w 4 _ _ 0 0 (MQ below (Qn w _ _ _) args s 1 6 (wA w)) 0 [(0, .ref (wB w + k)), (1, .int _), (2, .ref (wB w + io))] []
  refine z_aload_n CX 2 dL_append_0 rfl rfl ?_
  refine z_iconst CX (v := 0) dL_append_1 (by decide) ?_
  refine z_aload_n CX 0 dL_append_2 rfl rfl ?_
  refine z_iload_n CX 1 dL_append_3 rfl rfl ?_
  refine z_callV1 CX dL_append_4 cv_L_7 hC hx rfl rfl (Nat.le_of_ble_eq_true rfl) ⟨Nat.le_of_ble_eq_true rfl, Nat.le_of_ble_eq_true rfl⟩ ⟨Nat.le_of_ble_eq_true rfl, Nat.le_of_ble_eq_true rfl⟩ ?_
  refine z_i2l CX dL_append_7 rfl ?_
  refine z_last CX dL_append_8 ho vp_in_0 ?_
  refine z_goto CX 18 dL_append_9 (by decide) ?_
  refine z_iconst CX (v := 0) dL_append_18 (by decide) ?_
  refine z_widen (k9 := 1) (n9 := 6) (by omega) (by omega) ?_
  exact z_iret CX dL_append_19 rfl rfl rfl (Or.inl rfl)
set_option maxHeartbeats 4000000 in
set_option maxRecDepth 100000 in
theorem wx_append2 {l : Launch} {w : Wt} {hs hs9 : Hs} {n : Option Nat} {k io : Nat} {a : Int32} {fs : List Value} (hx : hs k = some (.inr (5, fs))) (hC : Cx l w mX5_append 1 6 [.ref (wB w + k), .int a] hs n hs9 (exN 2)) : Cw l w mL_append [(0, 9, 12, 13), (0, 9, 15, 15)] 1 6 [.ref (wB w + k), .int a, .ref (wB w + io)] hs n hs9 none (some (.int 1)) := by
  refine Cw.of (d := mL_append) (hh := [(0, 9, 12, 13), (0, 9, 15, 15)]) (by decide +kernel) (Nat.le_of_ble_eq_true rfl) ?_
  intro p e R s m args below meth c CX htb hN
  replace CX : Ctx p s m args meth c R w RL "append" cL_append 4 (some .int) 8 133 1 6 := CX
  show ZW p l e R s m args below meth c w 4 _ _ 0 0 (MQ below (Qn w _ _ _) args s 1 6 (wA w)) 0 [(0, .ref (wB w + k)), (1, .int _), (2, .ref (wB w + io))] []
  refine z_aload_n CX 2 dL_append_0 rfl rfl ?_
  refine z_iconst CX (v := 0) dL_append_1 (by decide) ?_
  refine z_aload_n CX 0 dL_append_2 rfl rfl ?_
  refine z_iload_n CX 1 dL_append_3 rfl rfl ?_
  refine z_callVc CX htb hN (j := 2) [] [(⟨0, 9, 15, 15⟩ : ExceptionTableEntry)] ⟨0, 9, 12, 13⟩ rfl (by decide) (by decide) ⟨by omega, by omega⟩ (fun _ h => absurd h List.not_mem_nil) (wa_mem 302 (by decide +kernel) rfl) dL_append_4 cv_L_7 hC hx rfl rfl (Nat.le_of_ble_eq_true rfl) ⟨Nat.le_of_ble_eq_true rfl, Nat.le_of_ble_eq_true rfl⟩ ⟨Nat.le_of_ble_eq_true rfl, Nat.le_of_ble_eq_true rfl⟩ (fun q9 => ?_)
  refine z_astore_n CX 3 dL_append_12 rfl (by decide) ?_
  refine z_iconst CX (v := 1) dL_append_13 (by decide) ?_
  exact z_iret CX dL_append_14 rfl rfl rfl (Or.inl rfl)
set_option maxHeartbeats 4000000 in
set_option maxRecDepth 100000 in
theorem wx_append3 {l : Launch} {w : Wt} {hs hs9 : Hs} {n : Option Nat} {k io : Nat} {a : Int32} {fs : List Value} (hx : hs k = some (.inr (5, fs))) (hC : Cx l w mX5_append 1 6 [.ref (wB w + k), .int a] hs n hs9 (exN 3)) : Cw l w mL_append [(0, 9, 12, 13), (0, 9, 15, 15)] 1 6 [.ref (wB w + k), .int a, .ref (wB w + io)] hs n hs9 none (some (.int 2)) := by
  refine Cw.of (d := mL_append) (hh := [(0, 9, 12, 13), (0, 9, 15, 15)]) (by decide +kernel) (Nat.le_of_ble_eq_true rfl) ?_
  intro p e R s m args below meth c CX htb hN
  replace CX : Ctx p s m args meth c R w RL "append" cL_append 4 (some .int) 8 133 1 6 := CX
  show ZW p l e R s m args below meth c w 4 _ _ 0 0 (MQ below (Qn w _ _ _) args s 1 6 (wA w)) 0 [(0, .ref (wB w + k)), (1, .int _), (2, .ref (wB w + io))] []
  refine z_aload_n CX 2 dL_append_0 rfl rfl ?_
  refine z_iconst CX (v := 0) dL_append_1 (by decide) ?_
  refine z_aload_n CX 0 dL_append_2 rfl rfl ?_
  refine z_iload_n CX 1 dL_append_3 rfl rfl ?_
  refine z_callVc CX htb hN (j := 3) [(⟨0, 9, 12, 13⟩ : ExceptionTableEntry)] [] ⟨0, 9, 15, 15⟩ rfl (by decide) (by decide) ⟨by omega, by omega⟩ (List.forall_mem_cons.mpr ⟨⟨by decide, 2, ⟨by omega, by omega⟩, by omega, wa_mem 302 (by decide +kernel) rfl⟩, (fun _ h => absurd h List.not_mem_nil)⟩) (wa_mem 303 (by decide +kernel) rfl) dL_append_4 cv_L_7 hC hx rfl rfl (Nat.le_of_ble_eq_true rfl) ⟨Nat.le_of_ble_eq_true rfl, Nat.le_of_ble_eq_true rfl⟩ ⟨Nat.le_of_ble_eq_true rfl, Nat.le_of_ble_eq_true rfl⟩ (fun q9 => ?_)
  refine z_astore_n CX 3 dL_append_15 rfl (by decide) ?_
  refine z_iconst CX (v := 2) dL_append_16 (by decide) ?_
  exact z_iret CX dL_append_17 rfl rfl rfl (Or.inl rfl)
set_option maxHeartbeats 4000000 in
set_option maxRecDepth 100000 in
theorem w0_boat {l : Launch} {w : Wt} {hs hs9 : Hs} {n n9 : Option Nat} {k io : Nat} {a : Int32} {b : Int32} {c : Int32} {v : Int32} {fs : List Value} {f : Nat → Int64} (hx : hs k = some (.inr (5, fs))) (ho : hs9 io = some (.inl (wC w 2, 1, .inr (.inl f)))) (hn9 : n9 = n9 ∨ n9 = none) (hC : Cn l w mX5_boat 0 0 [.ref (wB w + k), .int a, .int b, .int c] hs n hs9 n9 (some (.int v))) : Cw l w mL_boat [(0, 12, 15, 28), (0, 12, 19, 13), (0, 12, 23, 15)] 1 6 [.ref (wB w + k), .int a, .int b, .int c, .ref (wB w + io)] hs n (upH hs9 io (.inl (wC w 2, 1, .inr (.inl (vp_updL f 0 v.toInt64))))) n9 (some (.int 0)) := by
  refine Cw.of (d := mL_boat) (hh := [(0, 12, 15, 28), (0, 12, 19, 13), (0, 12, 23, 15)]) (by decide +kernel) (Nat.le_of_ble_eq_true rfl) ?_
  intro p e R s m args below meth c CX htb hN
  replace CX : Ctx p s m args meth c R w RL "boat" cL_boat 6 (some .int) 8 153 1 6 := CX
  show ZW p l e R s m args below meth c w 6 _ _ 0 0 (MQ below (Qn w _ _ _) args s 1 6 (wA w)) 0 [(0, .ref (wB w + k)), (1, .int _), (2, .int _), (3, .int _), (4, .ref (wB w + io))] []
  refine z_aload CX dL_boat_0 rfl ?_
  refine z_iconst CX (v := 0) dL_boat_2 (by decide) ?_
  refine z_aload_n CX 0 dL_boat_3 rfl rfl ?_
  refine z_iload_n CX 1 dL_boat_4 rfl rfl ?_
  refine z_iload_n CX 2 dL_boat_5 rfl rfl ?_
  refine z_iload_n CX 3 dL_boat_6 rfl rfl ?_
  refine z_callV1 CX dL_boat_7 cv_L_47 hC hx rfl rfl (Nat.le_of_ble_eq_true rfl) ⟨Nat.le_of_ble_eq_true rfl, Nat.le_of_ble_eq_true rfl⟩ ⟨Nat.le_of_ble_eq_true rfl, Nat.le_of_ble_eq_true rfl⟩ ?_
  refine z_i2l CX dL_boat_10 rfl ?_
  refine z_last CX dL_boat_11 ho vp_in_0 ?_
  refine z_goto CX 27 dL_boat_12 (by decide) ?_
  refine z_iconst CX (v := 0) dL_boat_27 (by decide) ?_
  refine z_widen (k9 := 1) (n9 := 6) (by omega) (by omega) ?_
  exact z_iret CX dL_boat_28 rfl rfl rfl (Or.inl rfl)
set_option maxHeartbeats 4000000 in
set_option maxRecDepth 100000 in
theorem wx_boat1 {l : Launch} {w : Wt} {hs hs9 : Hs} {n : Option Nat} {k io : Nat} {a : Int32} {b : Int32} {c : Int32} {fs : List Value} (hx : hs k = some (.inr (5, fs))) (hC : Cx l w mX5_boat 1 6 [.ref (wB w + k), .int a, .int b, .int c] hs n hs9 (exN 1)) : Cw l w mL_boat [(0, 12, 15, 28), (0, 12, 19, 13), (0, 12, 23, 15)] 1 6 [.ref (wB w + k), .int a, .int b, .int c, .ref (wB w + io)] hs n hs9 none (some (.int 1)) := by
  refine Cw.of (d := mL_boat) (hh := [(0, 12, 15, 28), (0, 12, 19, 13), (0, 12, 23, 15)]) (by decide +kernel) (Nat.le_of_ble_eq_true rfl) ?_
  intro p e R s m args below meth c CX htb hN
  replace CX : Ctx p s m args meth c R w RL "boat" cL_boat 6 (some .int) 8 153 1 6 := CX
  show ZW p l e R s m args below meth c w 6 _ _ 0 0 (MQ below (Qn w _ _ _) args s 1 6 (wA w)) 0 [(0, .ref (wB w + k)), (1, .int _), (2, .int _), (3, .int _), (4, .ref (wB w + io))] []
  refine z_aload CX dL_boat_0 rfl ?_
  refine z_iconst CX (v := 0) dL_boat_2 (by decide) ?_
  refine z_aload_n CX 0 dL_boat_3 rfl rfl ?_
  refine z_iload_n CX 1 dL_boat_4 rfl rfl ?_
  refine z_iload_n CX 2 dL_boat_5 rfl rfl ?_
  refine z_iload_n CX 3 dL_boat_6 rfl rfl ?_
  refine z_callVc CX htb hN (j := 1) [] [(⟨0, 12, 19, 13⟩ : ExceptionTableEntry), (⟨0, 12, 23, 15⟩ : ExceptionTableEntry)] ⟨0, 12, 15, 28⟩ rfl (by decide) (by decide) ⟨by omega, by omega⟩ (fun _ h => absurd h List.not_mem_nil) (wa_mem 552 (by decide +kernel) rfl) dL_boat_7 cv_L_47 hC hx rfl rfl (Nat.le_of_ble_eq_true rfl) ⟨Nat.le_of_ble_eq_true rfl, Nat.le_of_ble_eq_true rfl⟩ ⟨Nat.le_of_ble_eq_true rfl, Nat.le_of_ble_eq_true rfl⟩ (fun q9 => ?_)
  refine z_astore CX dL_boat_15 (by decide) ?_
  refine z_iconst CX (v := 1) dL_boat_17 (by decide) ?_
  exact z_iret CX dL_boat_18 rfl rfl rfl (Or.inl rfl)
set_option maxHeartbeats 4000000 in
set_option maxRecDepth 100000 in
theorem wx_boat2 {l : Launch} {w : Wt} {hs hs9 : Hs} {n : Option Nat} {k io : Nat} {a : Int32} {b : Int32} {c : Int32} {fs : List Value} (hx : hs k = some (.inr (5, fs))) (hC : Cx l w mX5_boat 1 6 [.ref (wB w + k), .int a, .int b, .int c] hs n hs9 (exN 2)) : Cw l w mL_boat [(0, 12, 15, 28), (0, 12, 19, 13), (0, 12, 23, 15)] 1 6 [.ref (wB w + k), .int a, .int b, .int c, .ref (wB w + io)] hs n hs9 none (some (.int 2)) := by
  refine Cw.of (d := mL_boat) (hh := [(0, 12, 15, 28), (0, 12, 19, 13), (0, 12, 23, 15)]) (by decide +kernel) (Nat.le_of_ble_eq_true rfl) ?_
  intro p e R s m args below meth c CX htb hN
  replace CX : Ctx p s m args meth c R w RL "boat" cL_boat 6 (some .int) 8 153 1 6 := CX
  show ZW p l e R s m args below meth c w 6 _ _ 0 0 (MQ below (Qn w _ _ _) args s 1 6 (wA w)) 0 [(0, .ref (wB w + k)), (1, .int _), (2, .int _), (3, .int _), (4, .ref (wB w + io))] []
  refine z_aload CX dL_boat_0 rfl ?_
  refine z_iconst CX (v := 0) dL_boat_2 (by decide) ?_
  refine z_aload_n CX 0 dL_boat_3 rfl rfl ?_
  refine z_iload_n CX 1 dL_boat_4 rfl rfl ?_
  refine z_iload_n CX 2 dL_boat_5 rfl rfl ?_
  refine z_iload_n CX 3 dL_boat_6 rfl rfl ?_
  refine z_callVc CX htb hN (j := 2) [(⟨0, 12, 15, 28⟩ : ExceptionTableEntry)] [(⟨0, 12, 23, 15⟩ : ExceptionTableEntry)] ⟨0, 12, 19, 13⟩ rfl (by decide) (by decide) ⟨by omega, by omega⟩ (List.forall_mem_cons.mpr ⟨⟨by decide, 1, ⟨by omega, by omega⟩, by omega, wa_mem 552 (by decide +kernel) rfl⟩, (fun _ h => absurd h List.not_mem_nil)⟩) (wa_mem 302 (by decide +kernel) rfl) dL_boat_7 cv_L_47 hC hx rfl rfl (Nat.le_of_ble_eq_true rfl) ⟨Nat.le_of_ble_eq_true rfl, Nat.le_of_ble_eq_true rfl⟩ ⟨Nat.le_of_ble_eq_true rfl, Nat.le_of_ble_eq_true rfl⟩ (fun q9 => ?_)
  refine z_astore CX dL_boat_19 (by decide) ?_
  refine z_iconst CX (v := 2) dL_boat_21 (by decide) ?_
  exact z_iret CX dL_boat_22 rfl rfl rfl (Or.inl rfl)
set_option maxHeartbeats 4000000 in
set_option maxRecDepth 100000 in
theorem wx_boat3 {l : Launch} {w : Wt} {hs hs9 : Hs} {n : Option Nat} {k io : Nat} {a : Int32} {b : Int32} {c : Int32} {fs : List Value} (hx : hs k = some (.inr (5, fs))) (hC : Cx l w mX5_boat 1 6 [.ref (wB w + k), .int a, .int b, .int c] hs n hs9 (exN 3)) : Cw l w mL_boat [(0, 12, 15, 28), (0, 12, 19, 13), (0, 12, 23, 15)] 1 6 [.ref (wB w + k), .int a, .int b, .int c, .ref (wB w + io)] hs n hs9 none (some (.int 3)) := by
  refine Cw.of (d := mL_boat) (hh := [(0, 12, 15, 28), (0, 12, 19, 13), (0, 12, 23, 15)]) (by decide +kernel) (Nat.le_of_ble_eq_true rfl) ?_
  intro p e R s m args below meth c CX htb hN
  replace CX : Ctx p s m args meth c R w RL "boat" cL_boat 6 (some .int) 8 153 1 6 := CX
  show ZW p l e R s m args below meth c w 6 _ _ 0 0 (MQ below (Qn w _ _ _) args s 1 6 (wA w)) 0 [(0, .ref (wB w + k)), (1, .int _), (2, .int _), (3, .int _), (4, .ref (wB w + io))] []
  refine z_aload CX dL_boat_0 rfl ?_
  refine z_iconst CX (v := 0) dL_boat_2 (by decide) ?_
  refine z_aload_n CX 0 dL_boat_3 rfl rfl ?_
  refine z_iload_n CX 1 dL_boat_4 rfl rfl ?_
  refine z_iload_n CX 2 dL_boat_5 rfl rfl ?_
  refine z_iload_n CX 3 dL_boat_6 rfl rfl ?_
  refine z_callVc CX htb hN (j := 3) [(⟨0, 12, 15, 28⟩ : ExceptionTableEntry), (⟨0, 12, 19, 13⟩ : ExceptionTableEntry)] [] ⟨0, 12, 23, 15⟩ rfl (by decide) (by decide) ⟨by omega, by omega⟩ (List.forall_mem_cons.mpr ⟨⟨by decide, 1, ⟨by omega, by omega⟩, by omega, wa_mem 552 (by decide +kernel) rfl⟩, (List.forall_mem_cons.mpr ⟨⟨by decide, 2, ⟨by omega, by omega⟩, by omega, wa_mem 302 (by decide +kernel) rfl⟩, (fun _ h => absurd h List.not_mem_nil)⟩)⟩) (wa_mem 303 (by decide +kernel) rfl) dL_boat_7 cv_L_47 hC hx rfl rfl (Nat.le_of_ble_eq_true rfl) ⟨Nat.le_of_ble_eq_true rfl, Nat.le_of_ble_eq_true rfl⟩ ⟨Nat.le_of_ble_eq_true rfl, Nat.le_of_ble_eq_true rfl⟩ (fun q9 => ?_)
  refine z_astore CX dL_boat_23 (by decide) ?_
  refine z_iconst CX (v := 3) dL_boat_25 (by decide) ?_
  exact z_iret CX dL_boat_26 rfl rfl rfl (Or.inl rfl)
set_option maxHeartbeats 4000000 in
set_option maxRecDepth 100000 in
theorem w0_boatOf {l : Launch} {w : Wt} {hs hs9 : Hs} {n n9 : Option Nat} {k io : Nat} {a : Int32} {b : Int32} {v : Int32} {fs : List Value} {f : Nat → Int64} (hx : hs k = some (.inr (5, fs))) (ho : hs9 io = some (.inl (wC w 2, 1, .inr (.inl f)))) (hn9 : n9 = n9 ∨ n9 = none) (hC : Cn l w mX5_boatOf 0 0 [.ref (wB w + k), .int a, .int b] hs n hs9 n9 (some (.int v))) : Cw l w mL_boatOf [(0, 10, 13, 28), (0, 10, 17, 13)] 1 6 [.ref (wB w + k), .int a, .int b, .ref (wB w + io)] hs n (upH hs9 io (.inl (wC w 2, 1, .inr (.inl (vp_updL f 0 v.toInt64))))) n9 (some (.int 0)) := by
  refine Cw.of (d := mL_boatOf) (hh := [(0, 10, 13, 28), (0, 10, 17, 13)]) (by decide +kernel) (Nat.le_of_ble_eq_true rfl) ?_
  intro p e R s m args below meth c CX htb hN
  replace CX : Ctx p s m args meth c R w RL "boatOf" cL_boatOf 5 (some .int) 8 134 1 6 := CX
  show ZW p l e R s m args below meth c w 5 _ _ 0 0 (MQ below (Qn w _ _ _) args s 1 6 (wA w)) 0 [(0, .ref (wB w + k)), (1, .int _), (2, .int _), (3, .ref (wB w + io))] []
  refine z_aload_n CX 3 dL_boatOf_0 rfl rfl ?_
  refine z_iconst CX (v := 0) dL_boatOf_1 (by decide) ?_
  refine z_aload_n CX 0 dL_boatOf_2 rfl rfl ?_
  refine z_iload_n CX 1 dL_boatOf_3 rfl rfl ?_
  refine z_iload_n CX 2 dL_boatOf_4 rfl rfl ?_
  refine z_callV1 CX dL_boatOf_5 cv_L_30 hC hx rfl rfl (Nat.le_of_ble_eq_true rfl) ⟨Nat.le_of_ble_eq_true rfl, Nat.le_of_ble_eq_true rfl⟩ ⟨Nat.le_of_ble_eq_true rfl, Nat.le_of_ble_eq_true rfl⟩ ?_
  refine z_i2l CX dL_boatOf_8 rfl ?_
  refine z_last CX dL_boatOf_9 ho vp_in_0 ?_
  refine z_goto CX 21 dL_boatOf_10 (by decide) ?_
  refine z_iconst CX (v := 0) dL_boatOf_21 (by decide) ?_
  refine z_widen (k9 := 1) (n9 := 6) (by omega) (by omega) ?_
  exact z_iret CX dL_boatOf_22 rfl rfl rfl (Or.inl rfl)
set_option maxHeartbeats 4000000 in
set_option maxRecDepth 100000 in
theorem wx_boatOf1 {l : Launch} {w : Wt} {hs hs9 : Hs} {n : Option Nat} {k io : Nat} {a : Int32} {b : Int32} {fs : List Value} (hx : hs k = some (.inr (5, fs))) (hC : Cx l w mX5_boatOf 1 6 [.ref (wB w + k), .int a, .int b] hs n hs9 (exN 1)) : Cw l w mL_boatOf [(0, 10, 13, 28), (0, 10, 17, 13)] 1 6 [.ref (wB w + k), .int a, .int b, .ref (wB w + io)] hs n hs9 none (some (.int 1)) := by
  refine Cw.of (d := mL_boatOf) (hh := [(0, 10, 13, 28), (0, 10, 17, 13)]) (by decide +kernel) (Nat.le_of_ble_eq_true rfl) ?_
  intro p e R s m args below meth c CX htb hN
  replace CX : Ctx p s m args meth c R w RL "boatOf" cL_boatOf 5 (some .int) 8 134 1 6 := CX
  show ZW p l e R s m args below meth c w 5 _ _ 0 0 (MQ below (Qn w _ _ _) args s 1 6 (wA w)) 0 [(0, .ref (wB w + k)), (1, .int _), (2, .int _), (3, .ref (wB w + io))] []
  refine z_aload_n CX 3 dL_boatOf_0 rfl rfl ?_
  refine z_iconst CX (v := 0) dL_boatOf_1 (by decide) ?_
  refine z_aload_n CX 0 dL_boatOf_2 rfl rfl ?_
  refine z_iload_n CX 1 dL_boatOf_3 rfl rfl ?_
  refine z_iload_n CX 2 dL_boatOf_4 rfl rfl ?_
  refine z_callVc CX htb hN (j := 1) [] [(⟨0, 10, 17, 13⟩ : ExceptionTableEntry)] ⟨0, 10, 13, 28⟩ rfl (by decide) (by decide) ⟨by omega, by omega⟩ (fun _ h => absurd h List.not_mem_nil) (wa_mem 552 (by decide +kernel) rfl) dL_boatOf_5 cv_L_30 hC hx rfl rfl (Nat.le_of_ble_eq_true rfl) ⟨Nat.le_of_ble_eq_true rfl, Nat.le_of_ble_eq_true rfl⟩ ⟨Nat.le_of_ble_eq_true rfl, Nat.le_of_ble_eq_true rfl⟩ (fun q9 => ?_)
  refine z_astore CX dL_boatOf_13 (by decide) ?_
  refine z_iconst CX (v := 1) dL_boatOf_15 (by decide) ?_
  exact z_iret CX dL_boatOf_16 rfl rfl rfl (Or.inl rfl)
set_option maxHeartbeats 4000000 in
set_option maxRecDepth 100000 in
theorem wx_boatOf2 {l : Launch} {w : Wt} {hs hs9 : Hs} {n : Option Nat} {k io : Nat} {a : Int32} {b : Int32} {fs : List Value} (hx : hs k = some (.inr (5, fs))) (hC : Cx l w mX5_boatOf 1 6 [.ref (wB w + k), .int a, .int b] hs n hs9 (exN 2)) : Cw l w mL_boatOf [(0, 10, 13, 28), (0, 10, 17, 13)] 1 6 [.ref (wB w + k), .int a, .int b, .ref (wB w + io)] hs n hs9 none (some (.int 2)) := by
  refine Cw.of (d := mL_boatOf) (hh := [(0, 10, 13, 28), (0, 10, 17, 13)]) (by decide +kernel) (Nat.le_of_ble_eq_true rfl) ?_
  intro p e R s m args below meth c CX htb hN
  replace CX : Ctx p s m args meth c R w RL "boatOf" cL_boatOf 5 (some .int) 8 134 1 6 := CX
  show ZW p l e R s m args below meth c w 5 _ _ 0 0 (MQ below (Qn w _ _ _) args s 1 6 (wA w)) 0 [(0, .ref (wB w + k)), (1, .int _), (2, .int _), (3, .ref (wB w + io))] []
  refine z_aload_n CX 3 dL_boatOf_0 rfl rfl ?_
  refine z_iconst CX (v := 0) dL_boatOf_1 (by decide) ?_
  refine z_aload_n CX 0 dL_boatOf_2 rfl rfl ?_
  refine z_iload_n CX 1 dL_boatOf_3 rfl rfl ?_
  refine z_iload_n CX 2 dL_boatOf_4 rfl rfl ?_
  refine z_callVc CX htb hN (j := 2) [(⟨0, 10, 13, 28⟩ : ExceptionTableEntry)] [] ⟨0, 10, 17, 13⟩ rfl (by decide) (by decide) ⟨by omega, by omega⟩ (List.forall_mem_cons.mpr ⟨⟨by decide, 1, ⟨by omega, by omega⟩, by omega, wa_mem 552 (by decide +kernel) rfl⟩, (fun _ h => absurd h List.not_mem_nil)⟩) (wa_mem 302 (by decide +kernel) rfl) dL_boatOf_5 cv_L_30 hC hx rfl rfl (Nat.le_of_ble_eq_true rfl) ⟨Nat.le_of_ble_eq_true rfl, Nat.le_of_ble_eq_true rfl⟩ ⟨Nat.le_of_ble_eq_true rfl, Nat.le_of_ble_eq_true rfl⟩ (fun q9 => ?_)
  refine z_astore CX dL_boatOf_17 (by decide) ?_
  refine z_iconst CX (v := 2) dL_boatOf_19 (by decide) ?_
  exact z_iret CX dL_boatOf_20 rfl rfl rfl (Or.inl rfl)
set_option maxHeartbeats 4000000 in
set_option maxRecDepth 100000 in
theorem w0_claim {l : Launch} {w : Wt} {hs hs9 : Hs} {n n9 : Option Nat} {k io : Nat} {a : Int32} {b : Int32} {v : Int32} {fs : List Value} {f : Nat → Int64} (hx : hs k = some (.inr (5, fs))) (ho : hs9 io = some (.inl (wC w 2, 1, .inr (.inl f)))) (hn9 : n9 = n9 ∨ n9 = none) (hC : Cn l w mX5_claim 0 0 [.ref (wB w + k), .int a, .int b] hs n hs9 n9 (some (.int v))) : Cw l w mL_claim [(0, 10, 13, 28)] 1 6 [.ref (wB w + k), .int a, .int b, .ref (wB w + io)] hs n (upH hs9 io (.inl (wC w 2, 1, .inr (.inl (vp_updL f 0 v.toInt64))))) n9 (some (.int 0)) := by
  refine Cw.of (d := mL_claim) (hh := [(0, 10, 13, 28)]) (by decide +kernel) (Nat.le_of_ble_eq_true rfl) ?_
  intro p e R s m args below meth c CX htb hN
  replace CX : Ctx p s m args meth c R w RL "claim" cL_claim 5 (some .int) 8 153 1 6 := CX
  show ZW p l e R s m args below meth c w 5 _ _ 0 0 (MQ below (Qn w _ _ _) args s 1 6 (wA w)) 0 [(0, .ref (wB w + k)), (1, .int _), (2, .int _), (3, .ref (wB w + io))] []
  refine z_aload_n CX 3 dL_claim_0 rfl rfl ?_
  refine z_iconst CX (v := 0) dL_claim_1 (by decide) ?_
  refine z_aload_n CX 0 dL_claim_2 rfl rfl ?_
  refine z_iload_n CX 1 dL_claim_3 rfl rfl ?_
  refine z_iload_n CX 2 dL_claim_4 rfl rfl ?_
  refine z_callV1 CX dL_claim_5 cv_L_56 hC hx rfl rfl (Nat.le_of_ble_eq_true rfl) ⟨Nat.le_of_ble_eq_true rfl, Nat.le_of_ble_eq_true rfl⟩ ⟨Nat.le_of_ble_eq_true rfl, Nat.le_of_ble_eq_true rfl⟩ ?_
  refine z_i2l CX dL_claim_8 rfl ?_
  refine z_last CX dL_claim_9 ho vp_in_0 ?_
  refine z_goto CX 17 dL_claim_10 (by decide) ?_
  refine z_iconst CX (v := 0) dL_claim_17 (by decide) ?_
  refine z_widen (k9 := 1) (n9 := 6) (by omega) (by omega) ?_
  exact z_iret CX dL_claim_18 rfl rfl rfl (Or.inl rfl)
set_option maxHeartbeats 4000000 in
set_option maxRecDepth 100000 in
theorem wx_claim1 {l : Launch} {w : Wt} {hs hs9 : Hs} {n : Option Nat} {k io : Nat} {a : Int32} {b : Int32} {fs : List Value} (hx : hs k = some (.inr (5, fs))) (hC : Cx l w mX5_claim 1 6 [.ref (wB w + k), .int a, .int b] hs n hs9 (exN 1)) : Cw l w mL_claim [(0, 10, 13, 28)] 1 6 [.ref (wB w + k), .int a, .int b, .ref (wB w + io)] hs n hs9 none (some (.int 1)) := by
  refine Cw.of (d := mL_claim) (hh := [(0, 10, 13, 28)]) (by decide +kernel) (Nat.le_of_ble_eq_true rfl) ?_
  intro p e R s m args below meth c CX htb hN
  replace CX : Ctx p s m args meth c R w RL "claim" cL_claim 5 (some .int) 8 153 1 6 := CX
  show ZW p l e R s m args below meth c w 5 _ _ 0 0 (MQ below (Qn w _ _ _) args s 1 6 (wA w)) 0 [(0, .ref (wB w + k)), (1, .int _), (2, .int _), (3, .ref (wB w + io))] []
  refine z_aload_n CX 3 dL_claim_0 rfl rfl ?_
  refine z_iconst CX (v := 0) dL_claim_1 (by decide) ?_
  refine z_aload_n CX 0 dL_claim_2 rfl rfl ?_
  refine z_iload_n CX 1 dL_claim_3 rfl rfl ?_
  refine z_iload_n CX 2 dL_claim_4 rfl rfl ?_
  refine z_callVc CX htb hN (j := 1) [] [] ⟨0, 10, 13, 28⟩ rfl (by decide) (by decide) ⟨by omega, by omega⟩ (fun _ h => absurd h List.not_mem_nil) (wa_mem 552 (by decide +kernel) rfl) dL_claim_5 cv_L_56 hC hx rfl rfl (Nat.le_of_ble_eq_true rfl) ⟨Nat.le_of_ble_eq_true rfl, Nat.le_of_ble_eq_true rfl⟩ ⟨Nat.le_of_ble_eq_true rfl, Nat.le_of_ble_eq_true rfl⟩ (fun q9 => ?_)
  refine z_astore CX dL_claim_13 (by decide) ?_
  refine z_iconst CX (v := 1) dL_claim_15 (by decide) ?_
  exact z_iret CX dL_claim_16 rfl rfl rfl (Or.inl rfl)
set_option maxHeartbeats 4000000 in
set_option maxRecDepth 100000 in
theorem w0_endsIn {l : Launch} {w : Wt} {hs hs9 : Hs} {n n9 : Option Nat} {k io : Nat} {a : Int32} {b : Int32} {v : Int32} {fs : List Value} {f : Nat → Int64} (hx : hs k = some (.inr (5, fs))) (ho : hs9 io = some (.inl (wC w 2, 1, .inr (.inl f)))) (hn9 : n9 = n9 ∨ n9 = none) (hC : Cn l w mX5_endsIn 0 0 [.ref (wB w + k), .int a, .int b] hs n hs9 n9 (some (.int v))) : Cw l w mL_endsIn [(0, 10, 13, 28), (0, 10, 17, 13), (0, 10, 21, 15)] 1 6 [.ref (wB w + k), .int a, .int b, .ref (wB w + io)] hs n (upH hs9 io (.inl (wC w 2, 1, .inr (.inl (vp_updL f 0 v.toInt64))))) n9 (some (.int 0)) := by
  refine Cw.of (d := mL_endsIn) (hh := [(0, 10, 13, 28), (0, 10, 17, 13), (0, 10, 21, 15)]) (by decide +kernel) (Nat.le_of_ble_eq_true rfl) ?_
  intro p e R s m args below meth c CX htb hN
  replace CX : Ctx p s m args meth c R w RL "endsIn" cL_endsIn 5 (some .int) 8 142 1 6 := CX
  show ZW p l e R s m args below meth c w 5 _ _ 0 0 (MQ below (Qn w _ _ _) args s 1 6 (wA w)) 0 [(0, .ref (wB w + k)), (1, .int _), (2, .int _), (3, .ref (wB w + io))] []
  refine z_aload_n CX 3 dL_endsIn_0 rfl rfl ?_
  refine z_iconst CX (v := 0) dL_endsIn_1 (by decide) ?_
  refine z_aload_n CX 0 dL_endsIn_2 rfl rfl ?_
  refine z_iload_n CX 1 dL_endsIn_3 rfl rfl ?_
  refine z_iload_n CX 2 dL_endsIn_4 rfl rfl ?_
  refine z_callV1 CX dL_endsIn_5 cv_L_71 hC hx rfl rfl (Nat.le_of_ble_eq_true rfl) ⟨Nat.le_of_ble_eq_true rfl, Nat.le_of_ble_eq_true rfl⟩ ⟨Nat.le_of_ble_eq_true rfl, Nat.le_of_ble_eq_true rfl⟩ ?_
  refine z_i2l CX dL_endsIn_8 rfl ?_
  refine z_last CX dL_endsIn_9 ho vp_in_0 ?_
  refine z_goto CX 25 dL_endsIn_10 (by decide) ?_
  refine z_iconst CX (v := 0) dL_endsIn_25 (by decide) ?_
  refine z_widen (k9 := 1) (n9 := 6) (by omega) (by omega) ?_
  exact z_iret CX dL_endsIn_26 rfl rfl rfl (Or.inl rfl)
set_option maxHeartbeats 4000000 in
set_option maxRecDepth 100000 in
theorem wx_endsIn1 {l : Launch} {w : Wt} {hs hs9 : Hs} {n : Option Nat} {k io : Nat} {a : Int32} {b : Int32} {fs : List Value} (hx : hs k = some (.inr (5, fs))) (hC : Cx l w mX5_endsIn 1 6 [.ref (wB w + k), .int a, .int b] hs n hs9 (exN 1)) : Cw l w mL_endsIn [(0, 10, 13, 28), (0, 10, 17, 13), (0, 10, 21, 15)] 1 6 [.ref (wB w + k), .int a, .int b, .ref (wB w + io)] hs n hs9 none (some (.int 1)) := by
  refine Cw.of (d := mL_endsIn) (hh := [(0, 10, 13, 28), (0, 10, 17, 13), (0, 10, 21, 15)]) (by decide +kernel) (Nat.le_of_ble_eq_true rfl) ?_
  intro p e R s m args below meth c CX htb hN
  replace CX : Ctx p s m args meth c R w RL "endsIn" cL_endsIn 5 (some .int) 8 142 1 6 := CX
  show ZW p l e R s m args below meth c w 5 _ _ 0 0 (MQ below (Qn w _ _ _) args s 1 6 (wA w)) 0 [(0, .ref (wB w + k)), (1, .int _), (2, .int _), (3, .ref (wB w + io))] []
  refine z_aload_n CX 3 dL_endsIn_0 rfl rfl ?_
  refine z_iconst CX (v := 0) dL_endsIn_1 (by decide) ?_
  refine z_aload_n CX 0 dL_endsIn_2 rfl rfl ?_
  refine z_iload_n CX 1 dL_endsIn_3 rfl rfl ?_
  refine z_iload_n CX 2 dL_endsIn_4 rfl rfl ?_
  refine z_callVc CX htb hN (j := 1) [] [(⟨0, 10, 17, 13⟩ : ExceptionTableEntry), (⟨0, 10, 21, 15⟩ : ExceptionTableEntry)] ⟨0, 10, 13, 28⟩ rfl (by decide) (by decide) ⟨by omega, by omega⟩ (fun _ h => absurd h List.not_mem_nil) (wa_mem 552 (by decide +kernel) rfl) dL_endsIn_5 cv_L_71 hC hx rfl rfl (Nat.le_of_ble_eq_true rfl) ⟨Nat.le_of_ble_eq_true rfl, Nat.le_of_ble_eq_true rfl⟩ ⟨Nat.le_of_ble_eq_true rfl, Nat.le_of_ble_eq_true rfl⟩ (fun q9 => ?_)
  refine z_astore CX dL_endsIn_13 (by decide) ?_
  refine z_iconst CX (v := 1) dL_endsIn_15 (by decide) ?_
  exact z_iret CX dL_endsIn_16 rfl rfl rfl (Or.inl rfl)
set_option maxHeartbeats 4000000 in
set_option maxRecDepth 100000 in
theorem wx_endsIn2 {l : Launch} {w : Wt} {hs hs9 : Hs} {n : Option Nat} {k io : Nat} {a : Int32} {b : Int32} {fs : List Value} (hx : hs k = some (.inr (5, fs))) (hC : Cx l w mX5_endsIn 1 6 [.ref (wB w + k), .int a, .int b] hs n hs9 (exN 2)) : Cw l w mL_endsIn [(0, 10, 13, 28), (0, 10, 17, 13), (0, 10, 21, 15)] 1 6 [.ref (wB w + k), .int a, .int b, .ref (wB w + io)] hs n hs9 none (some (.int 2)) := by
  refine Cw.of (d := mL_endsIn) (hh := [(0, 10, 13, 28), (0, 10, 17, 13), (0, 10, 21, 15)]) (by decide +kernel) (Nat.le_of_ble_eq_true rfl) ?_
  intro p e R s m args below meth c CX htb hN
  replace CX : Ctx p s m args meth c R w RL "endsIn" cL_endsIn 5 (some .int) 8 142 1 6 := CX
  show ZW p l e R s m args below meth c w 5 _ _ 0 0 (MQ below (Qn w _ _ _) args s 1 6 (wA w)) 0 [(0, .ref (wB w + k)), (1, .int _), (2, .int _), (3, .ref (wB w + io))] []
  refine z_aload_n CX 3 dL_endsIn_0 rfl rfl ?_
  refine z_iconst CX (v := 0) dL_endsIn_1 (by decide) ?_
  refine z_aload_n CX 0 dL_endsIn_2 rfl rfl ?_
  refine z_iload_n CX 1 dL_endsIn_3 rfl rfl ?_
  refine z_iload_n CX 2 dL_endsIn_4 rfl rfl ?_
  refine z_callVc CX htb hN (j := 2) [(⟨0, 10, 13, 28⟩ : ExceptionTableEntry)] [(⟨0, 10, 21, 15⟩ : ExceptionTableEntry)] ⟨0, 10, 17, 13⟩ rfl (by decide) (by decide) ⟨by omega, by omega⟩ (List.forall_mem_cons.mpr ⟨⟨by decide, 1, ⟨by omega, by omega⟩, by omega, wa_mem 552 (by decide +kernel) rfl⟩, (fun _ h => absurd h List.not_mem_nil)⟩) (wa_mem 302 (by decide +kernel) rfl) dL_endsIn_5 cv_L_71 hC hx rfl rfl (Nat.le_of_ble_eq_true rfl) ⟨Nat.le_of_ble_eq_true rfl, Nat.le_of_ble_eq_true rfl⟩ ⟨Nat.le_of_ble_eq_true rfl, Nat.le_of_ble_eq_true rfl⟩ (fun q9 => ?_)
  refine z_astore CX dL_endsIn_17 (by decide) ?_
  refine z_iconst CX (v := 2) dL_endsIn_19 (by decide) ?_
  exact z_iret CX dL_endsIn_20 rfl rfl rfl (Or.inl rfl)
set_option maxHeartbeats 4000000 in
set_option maxRecDepth 100000 in
theorem wx_endsIn3 {l : Launch} {w : Wt} {hs hs9 : Hs} {n : Option Nat} {k io : Nat} {a : Int32} {b : Int32} {fs : List Value} (hx : hs k = some (.inr (5, fs))) (hC : Cx l w mX5_endsIn 1 6 [.ref (wB w + k), .int a, .int b] hs n hs9 (exN 3)) : Cw l w mL_endsIn [(0, 10, 13, 28), (0, 10, 17, 13), (0, 10, 21, 15)] 1 6 [.ref (wB w + k), .int a, .int b, .ref (wB w + io)] hs n hs9 none (some (.int 3)) := by
  refine Cw.of (d := mL_endsIn) (hh := [(0, 10, 13, 28), (0, 10, 17, 13), (0, 10, 21, 15)]) (by decide +kernel) (Nat.le_of_ble_eq_true rfl) ?_
  intro p e R s m args below meth c CX htb hN
  replace CX : Ctx p s m args meth c R w RL "endsIn" cL_endsIn 5 (some .int) 8 142 1 6 := CX
  show ZW p l e R s m args below meth c w 5 _ _ 0 0 (MQ below (Qn w _ _ _) args s 1 6 (wA w)) 0 [(0, .ref (wB w + k)), (1, .int _), (2, .int _), (3, .ref (wB w + io))] []
  refine z_aload_n CX 3 dL_endsIn_0 rfl rfl ?_
  refine z_iconst CX (v := 0) dL_endsIn_1 (by decide) ?_
  refine z_aload_n CX 0 dL_endsIn_2 rfl rfl ?_
  refine z_iload_n CX 1 dL_endsIn_3 rfl rfl ?_
  refine z_iload_n CX 2 dL_endsIn_4 rfl rfl ?_
  refine z_callVc CX htb hN (j := 3) [(⟨0, 10, 13, 28⟩ : ExceptionTableEntry), (⟨0, 10, 17, 13⟩ : ExceptionTableEntry)] [] ⟨0, 10, 21, 15⟩ rfl (by decide) (by decide) ⟨by omega, by omega⟩ (List.forall_mem_cons.mpr ⟨⟨by decide, 1, ⟨by omega, by omega⟩, by omega, wa_mem 552 (by decide +kernel) rfl⟩, (List.forall_mem_cons.mpr ⟨⟨by decide, 2, ⟨by omega, by omega⟩, by omega, wa_mem 302 (by decide +kernel) rfl⟩, (fun _ h => absurd h List.not_mem_nil)⟩)⟩) (wa_mem 303 (by decide +kernel) rfl) dL_endsIn_5 cv_L_71 hC hx rfl rfl (Nat.le_of_ble_eq_true rfl) ⟨Nat.le_of_ble_eq_true rfl, Nat.le_of_ble_eq_true rfl⟩ ⟨Nat.le_of_ble_eq_true rfl, Nat.le_of_ble_eq_true rfl⟩ (fun q9 => ?_)
  refine z_astore CX dL_endsIn_21 (by decide) ?_
  refine z_iconst CX (v := 3) dL_endsIn_23 (by decide) ?_
  exact z_iret CX dL_endsIn_24 rfl rfl rfl (Or.inl rfl)
set_option maxHeartbeats 4000000 in
set_option maxRecDepth 100000 in
theorem w0_gutter {l : Launch} {w : Wt} {hs hs9 : Hs} {n n9 : Option Nat} {k io : Nat} {a : Int32} {b : Int32} {c : Int32} {x : Int32} {v : Int32} {fs : List Value} {f : Nat → Int64} (hx : hs k = some (.inr (5, fs))) (ho : hs9 io = some (.inl (wC w 2, 1, .inr (.inl f)))) (hn9 : n9 = n9 ∨ n9 = none) (hC : Cn l w mX5_gutter 0 0 [.ref (wB w + k), .int a, .int b, .int c, .int x] hs n hs9 n9 (some (.int v))) : Cw l w mL_gutter [(0, 14, 17, 28), (0, 14, 21, 13), (0, 14, 25, 15)] 1 6 [.ref (wB w + k), .int a, .int b, .int c, .int x, .ref (wB w + io)] hs n (upH hs9 io (.inl (wC w 2, 1, .inr (.inl (vp_updL f 0 v.toInt64))))) n9 (some (.int 0)) := by
  refine Cw.of (d := mL_gutter) (hh := [(0, 14, 17, 28), (0, 14, 21, 13), (0, 14, 25, 15)]) (by decide +kernel) (Nat.le_of_ble_eq_true rfl) ?_
  intro p e R s m args below meth c CX htb hN
  replace CX : Ctx p s m args meth c R w RL "gutter" cL_gutter 7 (some .int) 8 154 1 6 := CX
  show ZW p l e R s m args below meth c w 7 _ _ 0 0 (MQ below (Qn w _ _ _) args s 1 6 (wA w)) 0 [(0, .ref (wB w + k)), (1, .int _), (2, .int _), (3, .int _), (4, .int _), (5, .ref (wB w + io))] []
  refine z_aload CX dL_gutter_0 rfl ?_
  refine z_iconst CX (v := 0) dL_gutter_2 (by decide) ?_
  refine z_aload_n CX 0 dL_gutter_3 rfl rfl ?_
  refine z_iload_n CX 1 dL_gutter_4 rfl rfl ?_
  refine z_iload_n CX 2 dL_gutter_5 rfl rfl ?_
  refine z_iload_n CX 3 dL_gutter_6 rfl rfl ?_
  refine z_iload CX dL_gutter_7 rfl ?_
  refine z_callV1 CX dL_gutter_9 cv_L_43 hC hx rfl rfl (Nat.le_of_ble_eq_true rfl) ⟨Nat.le_of_ble_eq_true rfl, Nat.le_of_ble_eq_true rfl⟩ ⟨Nat.le_of_ble_eq_true rfl, Nat.le_of_ble_eq_true rfl⟩ ?_
  refine z_i2l CX dL_gutter_12 rfl ?_
  refine z_last CX dL_gutter_13 ho vp_in_0 ?_
  refine z_goto CX 29 dL_gutter_14 (by decide) ?_
  refine z_iconst CX (v := 0) dL_gutter_29 (by decide) ?_
  refine z_widen (k9 := 1) (n9 := 6) (by omega) (by omega) ?_
  exact z_iret CX dL_gutter_30 rfl rfl rfl (Or.inl rfl)
set_option maxHeartbeats 4000000 in
set_option maxRecDepth 100000 in
theorem wx_gutter1 {l : Launch} {w : Wt} {hs hs9 : Hs} {n : Option Nat} {k io : Nat} {a : Int32} {b : Int32} {c : Int32} {x : Int32} {fs : List Value} (hx : hs k = some (.inr (5, fs))) (hC : Cx l w mX5_gutter 1 6 [.ref (wB w + k), .int a, .int b, .int c, .int x] hs n hs9 (exN 1)) : Cw l w mL_gutter [(0, 14, 17, 28), (0, 14, 21, 13), (0, 14, 25, 15)] 1 6 [.ref (wB w + k), .int a, .int b, .int c, .int x, .ref (wB w + io)] hs n hs9 none (some (.int 1)) := by
  refine Cw.of (d := mL_gutter) (hh := [(0, 14, 17, 28), (0, 14, 21, 13), (0, 14, 25, 15)]) (by decide +kernel) (Nat.le_of_ble_eq_true rfl) ?_
  intro p e R s m args below meth c CX htb hN
  replace CX : Ctx p s m args meth c R w RL "gutter" cL_gutter 7 (some .int) 8 154 1 6 := CX
  show ZW p l e R s m args below meth c w 7 _ _ 0 0 (MQ below (Qn w _ _ _) args s 1 6 (wA w)) 0 [(0, .ref (wB w + k)), (1, .int _), (2, .int _), (3, .int _), (4, .int _), (5, .ref (wB w + io))] []
  refine z_aload CX dL_gutter_0 rfl ?_
  refine z_iconst CX (v := 0) dL_gutter_2 (by decide) ?_
  refine z_aload_n CX 0 dL_gutter_3 rfl rfl ?_
  refine z_iload_n CX 1 dL_gutter_4 rfl rfl ?_
  refine z_iload_n CX 2 dL_gutter_5 rfl rfl ?_
  refine z_iload_n CX 3 dL_gutter_6 rfl rfl ?_
  refine z_iload CX dL_gutter_7 rfl ?_
  refine z_callVc CX htb hN (j := 1) [] [(⟨0, 14, 21, 13⟩ : ExceptionTableEntry), (⟨0, 14, 25, 15⟩ : ExceptionTableEntry)] ⟨0, 14, 17, 28⟩ rfl (by decide) (by decide) ⟨by omega, by omega⟩ (fun _ h => absurd h List.not_mem_nil) (wa_mem 552 (by decide +kernel) rfl) dL_gutter_9 cv_L_43 hC hx rfl rfl (Nat.le_of_ble_eq_true rfl) ⟨Nat.le_of_ble_eq_true rfl, Nat.le_of_ble_eq_true rfl⟩ ⟨Nat.le_of_ble_eq_true rfl, Nat.le_of_ble_eq_true rfl⟩ (fun q9 => ?_)
  refine z_astore CX dL_gutter_17 (by decide) ?_
  refine z_iconst CX (v := 1) dL_gutter_19 (by decide) ?_
  exact z_iret CX dL_gutter_20 rfl rfl rfl (Or.inl rfl)
set_option maxHeartbeats 4000000 in
set_option maxRecDepth 100000 in
theorem wx_gutter2 {l : Launch} {w : Wt} {hs hs9 : Hs} {n : Option Nat} {k io : Nat} {a : Int32} {b : Int32} {c : Int32} {x : Int32} {fs : List Value} (hx : hs k = some (.inr (5, fs))) (hC : Cx l w mX5_gutter 1 6 [.ref (wB w + k), .int a, .int b, .int c, .int x] hs n hs9 (exN 2)) : Cw l w mL_gutter [(0, 14, 17, 28), (0, 14, 21, 13), (0, 14, 25, 15)] 1 6 [.ref (wB w + k), .int a, .int b, .int c, .int x, .ref (wB w + io)] hs n hs9 none (some (.int 2)) := by
  refine Cw.of (d := mL_gutter) (hh := [(0, 14, 17, 28), (0, 14, 21, 13), (0, 14, 25, 15)]) (by decide +kernel) (Nat.le_of_ble_eq_true rfl) ?_
  intro p e R s m args below meth c CX htb hN
  replace CX : Ctx p s m args meth c R w RL "gutter" cL_gutter 7 (some .int) 8 154 1 6 := CX
  show ZW p l e R s m args below meth c w 7 _ _ 0 0 (MQ below (Qn w _ _ _) args s 1 6 (wA w)) 0 [(0, .ref (wB w + k)), (1, .int _), (2, .int _), (3, .int _), (4, .int _), (5, .ref (wB w + io))] []
  refine z_aload CX dL_gutter_0 rfl ?_
  refine z_iconst CX (v := 0) dL_gutter_2 (by decide) ?_
  refine z_aload_n CX 0 dL_gutter_3 rfl rfl ?_
  refine z_iload_n CX 1 dL_gutter_4 rfl rfl ?_
  refine z_iload_n CX 2 dL_gutter_5 rfl rfl ?_
  refine z_iload_n CX 3 dL_gutter_6 rfl rfl ?_
  refine z_iload CX dL_gutter_7 rfl ?_
  refine z_callVc CX htb hN (j := 2) [(⟨0, 14, 17, 28⟩ : ExceptionTableEntry)] [(⟨0, 14, 25, 15⟩ : ExceptionTableEntry)] ⟨0, 14, 21, 13⟩ rfl (by decide) (by decide) ⟨by omega, by omega⟩ (List.forall_mem_cons.mpr ⟨⟨by decide, 1, ⟨by omega, by omega⟩, by omega, wa_mem 552 (by decide +kernel) rfl⟩, (fun _ h => absurd h List.not_mem_nil)⟩) (wa_mem 302 (by decide +kernel) rfl) dL_gutter_9 cv_L_43 hC hx rfl rfl (Nat.le_of_ble_eq_true rfl) ⟨Nat.le_of_ble_eq_true rfl, Nat.le_of_ble_eq_true rfl⟩ ⟨Nat.le_of_ble_eq_true rfl, Nat.le_of_ble_eq_true rfl⟩ (fun q9 => ?_)
  refine z_astore CX dL_gutter_21 (by decide) ?_
  refine z_iconst CX (v := 2) dL_gutter_23 (by decide) ?_
  exact z_iret CX dL_gutter_24 rfl rfl rfl (Or.inl rfl)
set_option maxHeartbeats 4000000 in
set_option maxRecDepth 100000 in
theorem wx_gutter3 {l : Launch} {w : Wt} {hs hs9 : Hs} {n : Option Nat} {k io : Nat} {a : Int32} {b : Int32} {c : Int32} {x : Int32} {fs : List Value} (hx : hs k = some (.inr (5, fs))) (hC : Cx l w mX5_gutter 1 6 [.ref (wB w + k), .int a, .int b, .int c, .int x] hs n hs9 (exN 3)) : Cw l w mL_gutter [(0, 14, 17, 28), (0, 14, 21, 13), (0, 14, 25, 15)] 1 6 [.ref (wB w + k), .int a, .int b, .int c, .int x, .ref (wB w + io)] hs n hs9 none (some (.int 3)) := by
  refine Cw.of (d := mL_gutter) (hh := [(0, 14, 17, 28), (0, 14, 21, 13), (0, 14, 25, 15)]) (by decide +kernel) (Nat.le_of_ble_eq_true rfl) ?_
  intro p e R s m args below meth c CX htb hN
  replace CX : Ctx p s m args meth c R w RL "gutter" cL_gutter 7 (some .int) 8 154 1 6 := CX
  show ZW p l e R s m args below meth c w 7 _ _ 0 0 (MQ below (Qn w _ _ _) args s 1 6 (wA w)) 0 [(0, .ref (wB w + k)), (1, .int _), (2, .int _), (3, .int _), (4, .int _), (5, .ref (wB w + io))] []
  refine z_aload CX dL_gutter_0 rfl ?_
  refine z_iconst CX (v := 0) dL_gutter_2 (by decide) ?_
  refine z_aload_n CX 0 dL_gutter_3 rfl rfl ?_
  refine z_iload_n CX 1 dL_gutter_4 rfl rfl ?_
  refine z_iload_n CX 2 dL_gutter_5 rfl rfl ?_
  refine z_iload_n CX 3 dL_gutter_6 rfl rfl ?_
  refine z_iload CX dL_gutter_7 rfl ?_
  refine z_callVc CX htb hN (j := 3) [(⟨0, 14, 17, 28⟩ : ExceptionTableEntry), (⟨0, 14, 21, 13⟩ : ExceptionTableEntry)] [] ⟨0, 14, 25, 15⟩ rfl (by decide) (by decide) ⟨by omega, by omega⟩ (List.forall_mem_cons.mpr ⟨⟨by decide, 1, ⟨by omega, by omega⟩, by omega, wa_mem 552 (by decide +kernel) rfl⟩, (List.forall_mem_cons.mpr ⟨⟨by decide, 2, ⟨by omega, by omega⟩, by omega, wa_mem 302 (by decide +kernel) rfl⟩, (fun _ h => absurd h List.not_mem_nil)⟩)⟩) (wa_mem 303 (by decide +kernel) rfl) dL_gutter_9 cv_L_43 hC hx rfl rfl (Nat.le_of_ble_eq_true rfl) ⟨Nat.le_of_ble_eq_true rfl, Nat.le_of_ble_eq_true rfl⟩ ⟨Nat.le_of_ble_eq_true rfl, Nat.le_of_ble_eq_true rfl⟩ (fun q9 => ?_)
  refine z_astore CX dL_gutter_25 (by decide) ?_
  refine z_iconst CX (v := 3) dL_gutter_27 (by decide) ?_
  exact z_iret CX dL_gutter_28 rfl rfl rfl (Or.inl rfl)
set_option maxHeartbeats 4000000 in
set_option maxRecDepth 100000 in
theorem w0_gutterOf {l : Launch} {w : Wt} {hs hs9 : Hs} {n n9 : Option Nat} {k io : Nat} {a : Int32} {b : Int32} {v : Int32} {fs : List Value} {f : Nat → Int64} (hx : hs k = some (.inr (5, fs))) (ho : hs9 io = some (.inl (wC w 2, 1, .inr (.inl f)))) (hn9 : n9 = n9 ∨ n9 = none) (hC : Cn l w mX5_gutterOf 0 0 [.ref (wB w + k), .int a, .int b] hs n hs9 n9 (some (.int v))) : Cw l w mL_gutterOf [(0, 10, 13, 28), (0, 10, 17, 13)] 1 6 [.ref (wB w + k), .int a, .int b, .ref (wB w + io)] hs n (upH hs9 io (.inl (wC w 2, 1, .inr (.inl (vp_updL f 0 v.toInt64))))) n9 (some (.int 0)) := by
  refine Cw.of (d := mL_gutterOf) (hh := [(0, 10, 13, 28), (0, 10, 17, 13)]) (by decide +kernel) (Nat.le_of_ble_eq_true rfl) ?_
  intro p e R s m args below meth c CX htb hN
  replace CX : Ctx p s m args meth c R w RL "gutterOf" cL_gutterOf 5 (some .int) 8 134 1 6 := CX
  show ZW p l e R s m args below meth c w 5 _ _ 0 0 (MQ below (Qn w _ _ _) args s 1 6 (wA w)) 0 [(0, .ref (wB w + k)), (1, .int _), (2, .int _), (3, .ref (wB w + io))] []
  refine z_aload_n CX 3 dL_gutterOf_0 rfl rfl ?_
  refine z_iconst CX (v := 0) dL_gutterOf_1 (by decide) ?_
  refine z_aload_n CX 0 dL_gutterOf_2 rfl rfl ?_
  refine z_iload_n CX 1 dL_gutterOf_3 rfl rfl ?_
  refine z_iload_n CX 2 dL_gutterOf_4 rfl rfl ?_
  refine z_callV1 CX dL_gutterOf_5 cv_L_24 hC hx rfl rfl (Nat.le_of_ble_eq_true rfl) ⟨Nat.le_of_ble_eq_true rfl, Nat.le_of_ble_eq_true rfl⟩ ⟨Nat.le_of_ble_eq_true rfl, Nat.le_of_ble_eq_true rfl⟩ ?_
  refine z_i2l CX dL_gutterOf_8 rfl ?_
  refine z_last CX dL_gutterOf_9 ho vp_in_0 ?_
  refine z_goto CX 21 dL_gutterOf_10 (by decide) ?_
  refine z_iconst CX (v := 0) dL_gutterOf_21 (by decide) ?_
  refine z_widen (k9 := 1) (n9 := 6) (by omega) (by omega) ?_
  exact z_iret CX dL_gutterOf_22 rfl rfl rfl (Or.inl rfl)
set_option maxHeartbeats 4000000 in
set_option maxRecDepth 100000 in
theorem wx_gutterOf1 {l : Launch} {w : Wt} {hs hs9 : Hs} {n : Option Nat} {k io : Nat} {a : Int32} {b : Int32} {fs : List Value} (hx : hs k = some (.inr (5, fs))) (hC : Cx l w mX5_gutterOf 1 6 [.ref (wB w + k), .int a, .int b] hs n hs9 (exN 1)) : Cw l w mL_gutterOf [(0, 10, 13, 28), (0, 10, 17, 13)] 1 6 [.ref (wB w + k), .int a, .int b, .ref (wB w + io)] hs n hs9 none (some (.int 1)) := by
  refine Cw.of (d := mL_gutterOf) (hh := [(0, 10, 13, 28), (0, 10, 17, 13)]) (by decide +kernel) (Nat.le_of_ble_eq_true rfl) ?_
  intro p e R s m args below meth c CX htb hN
  replace CX : Ctx p s m args meth c R w RL "gutterOf" cL_gutterOf 5 (some .int) 8 134 1 6 := CX
  show ZW p l e R s m args below meth c w 5 _ _ 0 0 (MQ below (Qn w _ _ _) args s 1 6 (wA w)) 0 [(0, .ref (wB w + k)), (1, .int _), (2, .int _), (3, .ref (wB w + io))] []
  refine z_aload_n CX 3 dL_gutterOf_0 rfl rfl ?_
  refine z_iconst CX (v := 0) dL_gutterOf_1 (by decide) ?_
  refine z_aload_n CX 0 dL_gutterOf_2 rfl rfl ?_
  refine z_iload_n CX 1 dL_gutterOf_3 rfl rfl ?_
  refine z_iload_n CX 2 dL_gutterOf_4 rfl rfl ?_
  refine z_callVc CX htb hN (j := 1) [] [(⟨0, 10, 17, 13⟩ : ExceptionTableEntry)] ⟨0, 10, 13, 28⟩ rfl (by decide) (by decide) ⟨by omega, by omega⟩ (fun _ h => absurd h List.not_mem_nil) (wa_mem 552 (by decide +kernel) rfl) dL_gutterOf_5 cv_L_24 hC hx rfl rfl (Nat.le_of_ble_eq_true rfl) ⟨Nat.le_of_ble_eq_true rfl, Nat.le_of_ble_eq_true rfl⟩ ⟨Nat.le_of_ble_eq_true rfl, Nat.le_of_ble_eq_true rfl⟩ (fun q9 => ?_)
  refine z_astore CX dL_gutterOf_13 (by decide) ?_
  refine z_iconst CX (v := 1) dL_gutterOf_15 (by decide) ?_
  exact z_iret CX dL_gutterOf_16 rfl rfl rfl (Or.inl rfl)
set_option maxHeartbeats 4000000 in
set_option maxRecDepth 100000 in
theorem wx_gutterOf2 {l : Launch} {w : Wt} {hs hs9 : Hs} {n : Option Nat} {k io : Nat} {a : Int32} {b : Int32} {fs : List Value} (hx : hs k = some (.inr (5, fs))) (hC : Cx l w mX5_gutterOf 1 6 [.ref (wB w + k), .int a, .int b] hs n hs9 (exN 2)) : Cw l w mL_gutterOf [(0, 10, 13, 28), (0, 10, 17, 13)] 1 6 [.ref (wB w + k), .int a, .int b, .ref (wB w + io)] hs n hs9 none (some (.int 2)) := by
  refine Cw.of (d := mL_gutterOf) (hh := [(0, 10, 13, 28), (0, 10, 17, 13)]) (by decide +kernel) (Nat.le_of_ble_eq_true rfl) ?_
  intro p e R s m args below meth c CX htb hN
  replace CX : Ctx p s m args meth c R w RL "gutterOf" cL_gutterOf 5 (some .int) 8 134 1 6 := CX
  show ZW p l e R s m args below meth c w 5 _ _ 0 0 (MQ below (Qn w _ _ _) args s 1 6 (wA w)) 0 [(0, .ref (wB w + k)), (1, .int _), (2, .int _), (3, .ref (wB w + io))] []
  refine z_aload_n CX 3 dL_gutterOf_0 rfl rfl ?_
  refine z_iconst CX (v := 0) dL_gutterOf_1 (by decide) ?_
  refine z_aload_n CX 0 dL_gutterOf_2 rfl rfl ?_
  refine z_iload_n CX 1 dL_gutterOf_3 rfl rfl ?_
  refine z_iload_n CX 2 dL_gutterOf_4 rfl rfl ?_
  refine z_callVc CX htb hN (j := 2) [(⟨0, 10, 13, 28⟩ : ExceptionTableEntry)] [] ⟨0, 10, 17, 13⟩ rfl (by decide) (by decide) ⟨by omega, by omega⟩ (List.forall_mem_cons.mpr ⟨⟨by decide, 1, ⟨by omega, by omega⟩, by omega, wa_mem 552 (by decide +kernel) rfl⟩, (fun _ h => absurd h List.not_mem_nil)⟩) (wa_mem 302 (by decide +kernel) rfl) dL_gutterOf_5 cv_L_24 hC hx rfl rfl (Nat.le_of_ble_eq_true rfl) ⟨Nat.le_of_ble_eq_true rfl, Nat.le_of_ble_eq_true rfl⟩ ⟨Nat.le_of_ble_eq_true rfl, Nat.le_of_ble_eq_true rfl⟩ (fun q9 => ?_)
  refine z_astore CX dL_gutterOf_17 (by decide) ?_
  refine z_iconst CX (v := 2) dL_gutterOf_19 (by decide) ?_
  exact z_iret CX dL_gutterOf_20 rfl rfl rfl (Or.inl rfl)
set_option maxHeartbeats 4000000 in
set_option maxRecDepth 100000 in
theorem w0_hook {l : Launch} {w : Wt} {hs hs9 : Hs} {n n9 : Option Nat} {k io : Nat} {a : Int32} {b : Int32} {c : Int32} {v : Int32} {fs : List Value} {f : Nat → Int64} (hx : hs k = some (.inr (5, fs))) (ho : hs9 io = some (.inl (wC w 2, 1, .inr (.inl f)))) (hn9 : n9 = n9 ∨ n9 = none) (hC : Cn l w mX5_hook 0 0 [.ref (wB w + k), .int a, .int b, .int c] hs n hs9 n9 (some (.int v))) : Cw l w mL_hook [(0, 12, 15, 28)] 1 6 [.ref (wB w + k), .int a, .int b, .int c, .ref (wB w + io)] hs n (upH hs9 io (.inl (wC w 2, 1, .inr (.inl (vp_updL f 0 v.toInt64))))) n9 (some (.int 0)) := by
  refine Cw.of (d := mL_hook) (hh := [(0, 12, 15, 28)]) (by decide +kernel) (Nat.le_of_ble_eq_true rfl) ?_
  intro p e R s m args below meth c CX htb hN
  replace CX : Ctx p s m args meth c R w RL "hook" cL_hook 6 (some .int) 8 153 1 6 := CX
  show ZW p l e R s m args below meth c w 6 _ _ 0 0 (MQ below (Qn w _ _ _) args s 1 6 (wA w)) 0 [(0, .ref (wB w + k)), (1, .int _), (2, .int _), (3, .int _), (4, .ref (wB w + io))] []
  refine z_aload CX dL_hook_0 rfl ?_
  refine z_iconst CX (v := 0) dL_hook_2 (by decide) ?_
  refine z_aload_n CX 0 dL_hook_3 rfl rfl ?_
  refine z_iload_n CX 1 dL_hook_4 rfl rfl ?_
  refine z_iload_n CX 2 dL_hook_5 rfl rfl ?_
  refine z_iload_n CX 3 dL_hook_6 rfl rfl ?_
  refine z_callV1 CX dL_hook_7 cv_L_53 hC hx rfl rfl (Nat.le_of_ble_eq_true rfl) ⟨Nat.le_of_ble_eq_true rfl, Nat.le_of_ble_eq_true rfl⟩ ⟨Nat.le_of_ble_eq_true rfl, Nat.le_of_ble_eq_true rfl⟩ ?_
  refine z_i2l CX dL_hook_10 rfl ?_
  refine z_last CX dL_hook_11 ho vp_in_0 ?_
  refine z_goto CX 19 dL_hook_12 (by decide) ?_
  refine z_iconst CX (v := 0) dL_hook_19 (by decide) ?_
  refine z_widen (k9 := 1) (n9 := 6) (by omega) (by omega) ?_
  exact z_iret CX dL_hook_20 rfl rfl rfl (Or.inl rfl)
set_option maxHeartbeats 4000000 in
set_option maxRecDepth 100000 in
theorem wx_hook1 {l : Launch} {w : Wt} {hs hs9 : Hs} {n : Option Nat} {k io : Nat} {a : Int32} {b : Int32} {c : Int32} {fs : List Value} (hx : hs k = some (.inr (5, fs))) (hC : Cx l w mX5_hook 1 6 [.ref (wB w + k), .int a, .int b, .int c] hs n hs9 (exN 1)) : Cw l w mL_hook [(0, 12, 15, 28)] 1 6 [.ref (wB w + k), .int a, .int b, .int c, .ref (wB w + io)] hs n hs9 none (some (.int 1)) := by
  refine Cw.of (d := mL_hook) (hh := [(0, 12, 15, 28)]) (by decide +kernel) (Nat.le_of_ble_eq_true rfl) ?_
  intro p e R s m args below meth c CX htb hN
  replace CX : Ctx p s m args meth c R w RL "hook" cL_hook 6 (some .int) 8 153 1 6 := CX
  show ZW p l e R s m args below meth c w 6 _ _ 0 0 (MQ below (Qn w _ _ _) args s 1 6 (wA w)) 0 [(0, .ref (wB w + k)), (1, .int _), (2, .int _), (3, .int _), (4, .ref (wB w + io))] []
  refine z_aload CX dL_hook_0 rfl ?_
  refine z_iconst CX (v := 0) dL_hook_2 (by decide) ?_
  refine z_aload_n CX 0 dL_hook_3 rfl rfl ?_
  refine z_iload_n CX 1 dL_hook_4 rfl rfl ?_
  refine z_iload_n CX 2 dL_hook_5 rfl rfl ?_
  refine z_iload_n CX 3 dL_hook_6 rfl rfl ?_
  refine z_callVc CX htb hN (j := 1) [] [] ⟨0, 12, 15, 28⟩ rfl (by decide) (by decide) ⟨by omega, by omega⟩ (fun _ h => absurd h List.not_mem_nil) (wa_mem 552 (by decide +kernel) rfl) dL_hook_7 cv_L_53 hC hx rfl rfl (Nat.le_of_ble_eq_true rfl) ⟨Nat.le_of_ble_eq_true rfl, Nat.le_of_ble_eq_true rfl⟩ ⟨Nat.le_of_ble_eq_true rfl, Nat.le_of_ble_eq_true rfl⟩ (fun q9 => ?_)
  refine z_astore CX dL_hook_15 (by decide) ?_
  refine z_iconst CX (v := 1) dL_hook_17 (by decide) ?_
  exact z_iret CX dL_hook_18 rfl rfl rfl (Or.inl rfl)
set_option maxHeartbeats 4000000 in
set_option maxRecDepth 100000 in
theorem w0_launch {l : Launch} {w : Wt} {hs hs9 : Hs} {n n9 : Option Nat} {k io : Nat} {a : Int32} {b : Int32} {v : Int32} {fs : List Value} {f : Nat → Int64} (hx : hs k = some (.inr (5, fs))) (ho : hs9 io = some (.inl (wC w 2, 1, .inr (.inl f)))) (hn9 : n9 = n9 ∨ n9 = none) (hC : Cn l w mX5_launch 0 0 [.ref (wB w + k), .int a, .int b] hs n hs9 n9 (some (.int v))) : Cw l w mL_launch [(0, 10, 13, 28), (0, 10, 17, 15)] 1 6 [.ref (wB w + k), .int a, .int b, .ref (wB w + io)] hs n (upH hs9 io (.inl (wC w 2, 1, .inr (.inl (vp_updL f 0 v.toInt64))))) n9 (some (.int 0)) := by
  refine Cw.of (d := mL_launch) (hh := [(0, 10, 13, 28), (0, 10, 17, 15)]) (by decide +kernel) (Nat.le_of_ble_eq_true rfl) ?_
  intro p e R s m args below meth c CX htb hN
  replace CX : Ctx p s m args meth c R w RL "launch" cL_launch 5 (some .int) 8 152 1 6 := CX
  show ZW p l e R s m args below meth c w 5 _ _ 0 0 (MQ below (Qn w _ _ _) args s 1 6 (wA w)) 0 [(0, .ref (wB w + k)), (1, .int _), (2, .int _), (3, .ref (wB w + io))] []
  refine z_aload_n CX 3 dL_launch_0 rfl rfl ?_
  refine z_iconst CX (v := 0) dL_launch_1 (by decide) ?_
  refine z_aload_n CX 0 dL_launch_2 rfl rfl ?_
  refine z_iload_n CX 1 dL_launch_3 rfl rfl ?_
  refine z_iload_n CX 2 dL_launch_4 rfl rfl ?_
  refine z_callV1 CX dL_launch_5 cv_L_50 hC hx rfl rfl (Nat.le_of_ble_eq_true rfl) ⟨Nat.le_of_ble_eq_true rfl, Nat.le_of_ble_eq_true rfl⟩ ⟨Nat.le_of_ble_eq_true rfl, Nat.le_of_ble_eq_true rfl⟩ ?_
  refine z_i2l CX dL_launch_8 rfl ?_
  refine z_last CX dL_launch_9 ho vp_in_0 ?_
  refine z_goto CX 21 dL_launch_10 (by decide) ?_
  refine z_iconst CX (v := 0) dL_launch_21 (by decide) ?_
  refine z_widen (k9 := 1) (n9 := 6) (by omega) (by omega) ?_
  exact z_iret CX dL_launch_22 rfl rfl rfl (Or.inl rfl)
set_option maxHeartbeats 4000000 in
set_option maxRecDepth 100000 in
theorem wx_launch1 {l : Launch} {w : Wt} {hs hs9 : Hs} {n : Option Nat} {k io : Nat} {a : Int32} {b : Int32} {fs : List Value} (hx : hs k = some (.inr (5, fs))) (hC : Cx l w mX5_launch 1 6 [.ref (wB w + k), .int a, .int b] hs n hs9 (exN 1)) : Cw l w mL_launch [(0, 10, 13, 28), (0, 10, 17, 15)] 1 6 [.ref (wB w + k), .int a, .int b, .ref (wB w + io)] hs n hs9 none (some (.int 1)) := by
  refine Cw.of (d := mL_launch) (hh := [(0, 10, 13, 28), (0, 10, 17, 15)]) (by decide +kernel) (Nat.le_of_ble_eq_true rfl) ?_
  intro p e R s m args below meth c CX htb hN
  replace CX : Ctx p s m args meth c R w RL "launch" cL_launch 5 (some .int) 8 152 1 6 := CX
  show ZW p l e R s m args below meth c w 5 _ _ 0 0 (MQ below (Qn w _ _ _) args s 1 6 (wA w)) 0 [(0, .ref (wB w + k)), (1, .int _), (2, .int _), (3, .ref (wB w + io))] []
  refine z_aload_n CX 3 dL_launch_0 rfl rfl ?_
  refine z_iconst CX (v := 0) dL_launch_1 (by decide) ?_
  refine z_aload_n CX 0 dL_launch_2 rfl rfl ?_
  refine z_iload_n CX 1 dL_launch_3 rfl rfl ?_
  refine z_iload_n CX 2 dL_launch_4 rfl rfl ?_
  refine z_callVc CX htb hN (j := 1) [] [(⟨0, 10, 17, 15⟩ : ExceptionTableEntry)] ⟨0, 10, 13, 28⟩ rfl (by decide) (by decide) ⟨by omega, by omega⟩ (fun _ h => absurd h List.not_mem_nil) (wa_mem 552 (by decide +kernel) rfl) dL_launch_5 cv_L_50 hC hx rfl rfl (Nat.le_of_ble_eq_true rfl) ⟨Nat.le_of_ble_eq_true rfl, Nat.le_of_ble_eq_true rfl⟩ ⟨Nat.le_of_ble_eq_true rfl, Nat.le_of_ble_eq_true rfl⟩ (fun q9 => ?_)
  refine z_astore CX dL_launch_13 (by decide) ?_
  refine z_iconst CX (v := 1) dL_launch_15 (by decide) ?_
  exact z_iret CX dL_launch_16 rfl rfl rfl (Or.inl rfl)
set_option maxHeartbeats 4000000 in
set_option maxRecDepth 100000 in
theorem wx_launch3 {l : Launch} {w : Wt} {hs hs9 : Hs} {n : Option Nat} {k io : Nat} {a : Int32} {b : Int32} {fs : List Value} (hx : hs k = some (.inr (5, fs))) (hC : Cx l w mX5_launch 1 6 [.ref (wB w + k), .int a, .int b] hs n hs9 (exN 3)) : Cw l w mL_launch [(0, 10, 13, 28), (0, 10, 17, 15)] 1 6 [.ref (wB w + k), .int a, .int b, .ref (wB w + io)] hs n hs9 none (some (.int 2)) := by
  refine Cw.of (d := mL_launch) (hh := [(0, 10, 13, 28), (0, 10, 17, 15)]) (by decide +kernel) (Nat.le_of_ble_eq_true rfl) ?_
  intro p e R s m args below meth c CX htb hN
  replace CX : Ctx p s m args meth c R w RL "launch" cL_launch 5 (some .int) 8 152 1 6 := CX
  show ZW p l e R s m args below meth c w 5 _ _ 0 0 (MQ below (Qn w _ _ _) args s 1 6 (wA w)) 0 [(0, .ref (wB w + k)), (1, .int _), (2, .int _), (3, .ref (wB w + io))] []
  refine z_aload_n CX 3 dL_launch_0 rfl rfl ?_
  refine z_iconst CX (v := 0) dL_launch_1 (by decide) ?_
  refine z_aload_n CX 0 dL_launch_2 rfl rfl ?_
  refine z_iload_n CX 1 dL_launch_3 rfl rfl ?_
  refine z_iload_n CX 2 dL_launch_4 rfl rfl ?_
  refine z_callVc CX htb hN (j := 3) [(⟨0, 10, 13, 28⟩ : ExceptionTableEntry)] [] ⟨0, 10, 17, 15⟩ rfl (by decide) (by decide) ⟨by omega, by omega⟩ (List.forall_mem_cons.mpr ⟨⟨by decide, 1, ⟨by omega, by omega⟩, by omega, wa_mem 552 (by decide +kernel) rfl⟩, (fun _ h => absurd h List.not_mem_nil)⟩) (wa_mem 303 (by decide +kernel) rfl) dL_launch_5 cv_L_50 hC hx rfl rfl (Nat.le_of_ble_eq_true rfl) ⟨Nat.le_of_ble_eq_true rfl, Nat.le_of_ble_eq_true rfl⟩ ⟨Nat.le_of_ble_eq_true rfl, Nat.le_of_ble_eq_true rfl⟩ (fun q9 => ?_)
  refine z_astore CX dL_launch_17 (by decide) ?_
  refine z_iconst CX (v := 2) dL_launch_19 (by decide) ?_
  exact z_iret CX dL_launch_20 rfl rfl rfl (Or.inl rfl)
set_option maxHeartbeats 4000000 in
set_option maxRecDepth 100000 in
theorem w0_leastFolds {l : Launch} {w : Wt} {hs hs9 : Hs} {n n9 : Option Nat} {k io : Nat} {a : Int32} {b : Int32} {v : Int32} {fs : List Value} {f : Nat → Int64} (hx : hs k = some (.inr (5, fs))) (ho : hs9 io = some (.inl (wC w 2, 1, .inr (.inl f)))) (hn9 : n9 = n9 ∨ n9 = none) (hC : Cn l w mX5_leastFolds 0 0 [.ref (wB w + k), .int a, .int b] hs n hs9 n9 (some (.int v))) : Cw l w mL_leastFolds [(0, 10, 13, 28), (0, 10, 17, 13)] 1 6 [.ref (wB w + k), .int a, .int b, .ref (wB w + io)] hs n (upH hs9 io (.inl (wC w 2, 1, .inr (.inl (vp_updL f 0 v.toInt64))))) n9 (some (.int 0)) := by
  refine Cw.of (d := mL_leastFolds) (hh := [(0, 10, 13, 28), (0, 10, 17, 13)]) (by decide +kernel) (Nat.le_of_ble_eq_true rfl) ?_
  intro p e R s m args below meth c CX htb hN
  replace CX : Ctx p s m args meth c R w RL "leastFolds" cL_leastFolds 5 (some .int) 8 142 1 6 := CX
  show ZW p l e R s m args below meth c w 5 _ _ 0 0 (MQ below (Qn w _ _ _) args s 1 6 (wA w)) 0 [(0, .ref (wB w + k)), (1, .int _), (2, .int _), (3, .ref (wB w + io))] []
  refine z_aload_n CX 3 dL_leastFolds_0 rfl rfl ?_
  refine z_iconst CX (v := 0) dL_leastFolds_1 (by decide) ?_
  refine z_aload_n CX 0 dL_leastFolds_2 rfl rfl ?_
  refine z_iload_n CX 1 dL_leastFolds_3 rfl rfl ?_
  refine z_iload_n CX 2 dL_leastFolds_4 rfl rfl ?_
  refine z_callV1 CX dL_leastFolds_5 cv_L_74 hC hx rfl rfl (Nat.le_of_ble_eq_true rfl) ⟨Nat.le_of_ble_eq_true rfl, Nat.le_of_ble_eq_true rfl⟩ ⟨Nat.le_of_ble_eq_true rfl, Nat.le_of_ble_eq_true rfl⟩ ?_
  refine z_i2l CX dL_leastFolds_8 rfl ?_
  refine z_last CX dL_leastFolds_9 ho vp_in_0 ?_
  refine z_goto CX 21 dL_leastFolds_10 (by decide) ?_
  refine z_iconst CX (v := 0) dL_leastFolds_21 (by decide) ?_
  refine z_widen (k9 := 1) (n9 := 6) (by omega) (by omega) ?_
  exact z_iret CX dL_leastFolds_22 rfl rfl rfl (Or.inl rfl)
set_option maxHeartbeats 4000000 in
set_option maxRecDepth 100000 in
theorem wx_leastFolds1 {l : Launch} {w : Wt} {hs hs9 : Hs} {n : Option Nat} {k io : Nat} {a : Int32} {b : Int32} {fs : List Value} (hx : hs k = some (.inr (5, fs))) (hC : Cx l w mX5_leastFolds 1 6 [.ref (wB w + k), .int a, .int b] hs n hs9 (exN 1)) : Cw l w mL_leastFolds [(0, 10, 13, 28), (0, 10, 17, 13)] 1 6 [.ref (wB w + k), .int a, .int b, .ref (wB w + io)] hs n hs9 none (some (.int 1)) := by
  refine Cw.of (d := mL_leastFolds) (hh := [(0, 10, 13, 28), (0, 10, 17, 13)]) (by decide +kernel) (Nat.le_of_ble_eq_true rfl) ?_
  intro p e R s m args below meth c CX htb hN
  replace CX : Ctx p s m args meth c R w RL "leastFolds" cL_leastFolds 5 (some .int) 8 142 1 6 := CX
  show ZW p l e R s m args below meth c w 5 _ _ 0 0 (MQ below (Qn w _ _ _) args s 1 6 (wA w)) 0 [(0, .ref (wB w + k)), (1, .int _), (2, .int _), (3, .ref (wB w + io))] []
  refine z_aload_n CX 3 dL_leastFolds_0 rfl rfl ?_
  refine z_iconst CX (v := 0) dL_leastFolds_1 (by decide) ?_
  refine z_aload_n CX 0 dL_leastFolds_2 rfl rfl ?_
  refine z_iload_n CX 1 dL_leastFolds_3 rfl rfl ?_
  refine z_iload_n CX 2 dL_leastFolds_4 rfl rfl ?_
  refine z_callVc CX htb hN (j := 1) [] [(⟨0, 10, 17, 13⟩ : ExceptionTableEntry)] ⟨0, 10, 13, 28⟩ rfl (by decide) (by decide) ⟨by omega, by omega⟩ (fun _ h => absurd h List.not_mem_nil) (wa_mem 552 (by decide +kernel) rfl) dL_leastFolds_5 cv_L_74 hC hx rfl rfl (Nat.le_of_ble_eq_true rfl) ⟨Nat.le_of_ble_eq_true rfl, Nat.le_of_ble_eq_true rfl⟩ ⟨Nat.le_of_ble_eq_true rfl, Nat.le_of_ble_eq_true rfl⟩ (fun q9 => ?_)
  refine z_astore CX dL_leastFolds_13 (by decide) ?_
  refine z_iconst CX (v := 1) dL_leastFolds_15 (by decide) ?_
  exact z_iret CX dL_leastFolds_16 rfl rfl rfl (Or.inl rfl)
set_option maxHeartbeats 4000000 in
set_option maxRecDepth 100000 in
theorem wx_leastFolds2 {l : Launch} {w : Wt} {hs hs9 : Hs} {n : Option Nat} {k io : Nat} {a : Int32} {b : Int32} {fs : List Value} (hx : hs k = some (.inr (5, fs))) (hC : Cx l w mX5_leastFolds 1 6 [.ref (wB w + k), .int a, .int b] hs n hs9 (exN 2)) : Cw l w mL_leastFolds [(0, 10, 13, 28), (0, 10, 17, 13)] 1 6 [.ref (wB w + k), .int a, .int b, .ref (wB w + io)] hs n hs9 none (some (.int 2)) := by
  refine Cw.of (d := mL_leastFolds) (hh := [(0, 10, 13, 28), (0, 10, 17, 13)]) (by decide +kernel) (Nat.le_of_ble_eq_true rfl) ?_
  intro p e R s m args below meth c CX htb hN
  replace CX : Ctx p s m args meth c R w RL "leastFolds" cL_leastFolds 5 (some .int) 8 142 1 6 := CX
  show ZW p l e R s m args below meth c w 5 _ _ 0 0 (MQ below (Qn w _ _ _) args s 1 6 (wA w)) 0 [(0, .ref (wB w + k)), (1, .int _), (2, .int _), (3, .ref (wB w + io))] []
  refine z_aload_n CX 3 dL_leastFolds_0 rfl rfl ?_
  refine z_iconst CX (v := 0) dL_leastFolds_1 (by decide) ?_
  refine z_aload_n CX 0 dL_leastFolds_2 rfl rfl ?_
  refine z_iload_n CX 1 dL_leastFolds_3 rfl rfl ?_
  refine z_iload_n CX 2 dL_leastFolds_4 rfl rfl ?_
  refine z_callVc CX htb hN (j := 2) [(⟨0, 10, 13, 28⟩ : ExceptionTableEntry)] [] ⟨0, 10, 17, 13⟩ rfl (by decide) (by decide) ⟨by omega, by omega⟩ (List.forall_mem_cons.mpr ⟨⟨by decide, 1, ⟨by omega, by omega⟩, by omega, wa_mem 552 (by decide +kernel) rfl⟩, (fun _ h => absurd h List.not_mem_nil)⟩) (wa_mem 302 (by decide +kernel) rfl) dL_leastFolds_5 cv_L_74 hC hx rfl rfl (Nat.le_of_ble_eq_true rfl) ⟨Nat.le_of_ble_eq_true rfl, Nat.le_of_ble_eq_true rfl⟩ ⟨Nat.le_of_ble_eq_true rfl, Nat.le_of_ble_eq_true rfl⟩ (fun q9 => ?_)
  refine z_astore CX dL_leastFolds_17 (by decide) ?_
  refine z_iconst CX (v := 2) dL_leastFolds_19 (by decide) ?_
  exact z_iret CX dL_leastFolds_20 rfl rfl rfl (Or.inl rfl)
set_option maxHeartbeats 4000000 in
set_option maxRecDepth 100000 in
theorem w0_load {l : Launch} {w : Wt} {hs hs9 : Hs} {n n9 : Option Nat} {k io : Nat}  {v : Int32} {fs : List Value} {f : Nat → Int64} (hx : hs k = some (.inr (5, fs))) (ho : hs9 io = some (.inl (wC w 2, 1, .inr (.inl f)))) (hn9 : n9 = n9 ∨ n9 = none) (hC : Cn l w mX5_load 0 0 [.ref (wB w + k)] hs n hs9 n9 (some (.int v))) : Cw l w mL_load [(0, 8, 11, 15)] 1 6 [.ref (wB w + k), .ref (wB w + io)] hs n (upH hs9 io (.inl (wC w 2, 1, .inr (.inl (vp_updL f 0 v.toInt64))))) n9 (some (.int 0)) := by
  refine Cw.of (d := mL_load) (hh := [(0, 8, 11, 15)]) (by decide +kernel) (Nat.le_of_ble_eq_true rfl) ?_
  intro p e R s m args below meth c CX htb hN
  replace CX : Ctx p s m args meth c R w RL "load" cL_load 3 (some .int) 8 164 1 6 := CX
  show ZW p l e R s m args below meth c w 3 _ _ 0 0 (MQ below (Qn w _ _ _) args s 1 6 (wA w)) 0 [(0, .ref (wB w + k)), (1, .ref (wB w + io))] []
  refine z_aload_n CX 1 dL_load_0 rfl rfl ?_
  refine z_iconst CX (v := 0) dL_load_1 (by decide) ?_
  refine z_aload_n CX 0 dL_load_2 rfl rfl ?_
  refine z_callV1 CX dL_load_3 cv_L_17 hC hx rfl rfl (Nat.le_of_ble_eq_true rfl) ⟨Nat.le_of_ble_eq_true rfl, Nat.le_of_ble_eq_true rfl⟩ ⟨Nat.le_of_ble_eq_true rfl, Nat.le_of_ble_eq_true rfl⟩ ?_
  refine z_i2l CX dL_load_6 rfl ?_
  refine z_last CX dL_load_7 ho vp_in_0 ?_
  refine z_goto CX 14 dL_load_8 (by decide) ?_
  refine z_iconst CX (v := 0) dL_load_14 (by decide) ?_
  refine z_widen (k9 := 1) (n9 := 6) (by omega) (by omega) ?_
  exact z_iret CX dL_load_15 rfl rfl rfl (Or.inl rfl)
set_option maxHeartbeats 4000000 in
set_option maxRecDepth 100000 in
theorem wx_load3 {l : Launch} {w : Wt} {hs hs9 : Hs} {n : Option Nat} {k io : Nat}  {fs : List Value} (hx : hs k = some (.inr (5, fs))) (hC : Cx l w mX5_load 1 6 [.ref (wB w + k)] hs n hs9 (exN 3)) : Cw l w mL_load [(0, 8, 11, 15)] 1 6 [.ref (wB w + k), .ref (wB w + io)] hs n hs9 none (some (.int 1)) := by
  refine Cw.of (d := mL_load) (hh := [(0, 8, 11, 15)]) (by decide +kernel) (Nat.le_of_ble_eq_true rfl) ?_
  intro p e R s m args below meth c CX htb hN
  replace CX : Ctx p s m args meth c R w RL "load" cL_load 3 (some .int) 8 164 1 6 := CX
  show ZW p l e R s m args below meth c w 3 _ _ 0 0 (MQ below (Qn w _ _ _) args s 1 6 (wA w)) 0 [(0, .ref (wB w + k)), (1, .ref (wB w + io))] []
  refine z_aload_n CX 1 dL_load_0 rfl rfl ?_
  refine z_iconst CX (v := 0) dL_load_1 (by decide) ?_
  refine z_aload_n CX 0 dL_load_2 rfl rfl ?_
  refine z_callVc CX htb hN (j := 3) [] [] ⟨0, 8, 11, 15⟩ rfl (by decide) (by decide) ⟨by omega, by omega⟩ (fun _ h => absurd h List.not_mem_nil) (wa_mem 303 (by decide +kernel) rfl) dL_load_3 cv_L_17 hC hx rfl rfl (Nat.le_of_ble_eq_true rfl) ⟨Nat.le_of_ble_eq_true rfl, Nat.le_of_ble_eq_true rfl⟩ ⟨Nat.le_of_ble_eq_true rfl, Nat.le_of_ble_eq_true rfl⟩ (fun q9 => ?_)
  refine z_astore_n CX 2 dL_load_11 rfl (by decide) ?_
  refine z_iconst CX (v := 1) dL_load_12 (by decide) ?_
  exact z_iret CX dL_load_13 rfl rfl rfl (Or.inl rfl)
set_option maxHeartbeats 4000000 in
set_option maxRecDepth 100000 in
theorem w0_minutes {l : Launch} {w : Wt} {hs hs9 : Hs} {n n9 : Option Nat} {k io : Nat} {a : Int32} {v : Int32} {fs : List Value} {f : Nat → Int64} (hx : hs k = some (.inr (5, fs))) (ho : hs9 io = some (.inl (wC w 2, 1, .inr (.inl f)))) (hn9 : n9 = n9 ∨ n9 = none) (hC : Cn l w mX5_minutes 0 0 [.ref (wB w + k), .int a] hs n hs9 n9 (some (.int v))) : Cw l w mL_minutes [(0, 9, 12, 13)] 1 6 [.ref (wB w + k), .int a, .ref (wB w + io)] hs n (upH hs9 io (.inl (wC w 2, 1, .inr (.inl (vp_updL f 0 v.toInt64))))) n9 (some (.int 0)) := by
  refine Cw.of (d := mL_minutes) (hh := [(0, 9, 12, 13)]) (by decide +kernel) (Nat.le_of_ble_eq_true rfl) ?_
  intro p e R s m args below meth c CX htb hN
  replace CX : Ctx p s m args meth c R w RL "minutes" cL_minutes 4 (some .int) 8 151 1 6 := CX
  show ZW p l e R s m args below meth c w 4 _ _ 0 0 (MQ below (Qn w _ _ _) args s 1 6 (wA w)) 0 [(0, .ref (wB w + k)), (1, .int _), (2, .ref (wB w + io))] []
  refine z_aload_n CX 2 dL_minutes_0 rfl rfl ?_
  refine z_iconst CX (v := 0) dL_minutes_1 (by decide) ?_
  refine z_aload_n CX 0 dL_minutes_2 rfl rfl ?_
  refine z_iload_n CX 1 dL_minutes_3 rfl rfl ?_
  refine z_callV1 CX dL_minutes_4 cv_L_59 hC hx rfl rfl (Nat.le_of_ble_eq_true rfl) ⟨Nat.le_of_ble_eq_true rfl, Nat.le_of_ble_eq_true rfl⟩ ⟨Nat.le_of_ble_eq_true rfl, Nat.le_of_ble_eq_true rfl⟩ ?_
  refine z_i2l CX dL_minutes_7 rfl ?_
  refine z_last CX dL_minutes_8 ho vp_in_0 ?_
  refine z_goto CX 15 dL_minutes_9 (by decide) ?_
  refine z_iconst CX (v := 0) dL_minutes_15 (by decide) ?_
  refine z_widen (k9 := 1) (n9 := 6) (by omega) (by omega) ?_
  exact z_iret CX dL_minutes_16 rfl rfl rfl (Or.inl rfl)
set_option maxHeartbeats 4000000 in
set_option maxRecDepth 100000 in
theorem wx_minutes2 {l : Launch} {w : Wt} {hs hs9 : Hs} {n : Option Nat} {k io : Nat} {a : Int32} {fs : List Value} (hx : hs k = some (.inr (5, fs))) (hC : Cx l w mX5_minutes 1 6 [.ref (wB w + k), .int a] hs n hs9 (exN 2)) : Cw l w mL_minutes [(0, 9, 12, 13)] 1 6 [.ref (wB w + k), .int a, .ref (wB w + io)] hs n hs9 none (some (.int 1)) := by
  refine Cw.of (d := mL_minutes) (hh := [(0, 9, 12, 13)]) (by decide +kernel) (Nat.le_of_ble_eq_true rfl) ?_
  intro p e R s m args below meth c CX htb hN
  replace CX : Ctx p s m args meth c R w RL "minutes" cL_minutes 4 (some .int) 8 151 1 6 := CX
  show ZW p l e R s m args below meth c w 4 _ _ 0 0 (MQ below (Qn w _ _ _) args s 1 6 (wA w)) 0 [(0, .ref (wB w + k)), (1, .int _), (2, .ref (wB w + io))] []
  refine z_aload_n CX 2 dL_minutes_0 rfl rfl ?_
  refine z_iconst CX (v := 0) dL_minutes_1 (by decide) ?_
  refine z_aload_n CX 0 dL_minutes_2 rfl rfl ?_
  refine z_iload_n CX 1 dL_minutes_3 rfl rfl ?_
  refine z_callVc CX htb hN (j := 2) [] [] ⟨0, 9, 12, 13⟩ rfl (by decide) (by decide) ⟨by omega, by omega⟩ (fun _ h => absurd h List.not_mem_nil) (wa_mem 302 (by decide +kernel) rfl) dL_minutes_4 cv_L_59 hC hx rfl rfl (Nat.le_of_ble_eq_true rfl) ⟨Nat.le_of_ble_eq_true rfl, Nat.le_of_ble_eq_true rfl⟩ ⟨Nat.le_of_ble_eq_true rfl, Nat.le_of_ble_eq_true rfl⟩ (fun q9 => ?_)
  refine z_astore_n CX 3 dL_minutes_12 rfl (by decide) ?_
  refine z_iconst CX (v := 1) dL_minutes_13 (by decide) ?_
  exact z_iret CX dL_minutes_14 rfl rfl rfl (Or.inl rfl)
set_option maxHeartbeats 4000000 in
set_option maxRecDepth 100000 in
theorem w0_ownerOf {l : Launch} {w : Wt} {hs hs9 : Hs} {n n9 : Option Nat} {k io : Nat} {a : Int32} {b : Int32} {v : Int32} {fs : List Value} {f : Nat → Int64} (hx : hs k = some (.inr (5, fs))) (ho : hs9 io = some (.inl (wC w 2, 1, .inr (.inl f)))) (hn9 : n9 = n9 ∨ n9 = none) (hC : Cn l w mX5_ownerOf 0 0 [.ref (wB w + k), .int a, .int b] hs n hs9 n9 (some (.int v))) : Cw l w mL_ownerOf [(0, 10, 13, 28), (0, 10, 17, 13)] 1 6 [.ref (wB w + k), .int a, .int b, .ref (wB w + io)] hs n (upH hs9 io (.inl (wC w 2, 1, .inr (.inl (vp_updL f 0 v.toInt64))))) n9 (some (.int 0)) := by
  refine Cw.of (d := mL_ownerOf) (hh := [(0, 10, 13, 28), (0, 10, 17, 13)]) (by decide +kernel) (Nat.le_of_ble_eq_true rfl) ?_
  intro p e R s m args below meth c CX htb hN
  replace CX : Ctx p s m args meth c R w RL "ownerOf" cL_ownerOf 5 (some .int) 8 137 1 6 := CX
  show ZW p l e R s m args below meth c w 5 _ _ 0 0 (MQ below (Qn w _ _ _) args s 1 6 (wA w)) 0 [(0, .ref (wB w + k)), (1, .int _), (2, .int _), (3, .ref (wB w + io))] []
  refine z_aload_n CX 3 dL_ownerOf_0 rfl rfl ?_
  refine z_iconst CX (v := 0) dL_ownerOf_1 (by decide) ?_
  refine z_aload_n CX 0 dL_ownerOf_2 rfl rfl ?_
  refine z_iload_n CX 1 dL_ownerOf_3 rfl rfl ?_
  refine z_iload_n CX 2 dL_ownerOf_4 rfl rfl ?_
  refine z_callV1 CX dL_ownerOf_5 cv_L_33 hC hx rfl rfl (Nat.le_of_ble_eq_true rfl) ⟨Nat.le_of_ble_eq_true rfl, Nat.le_of_ble_eq_true rfl⟩ ⟨Nat.le_of_ble_eq_true rfl, Nat.le_of_ble_eq_true rfl⟩ ?_
  refine z_i2l CX dL_ownerOf_8 rfl ?_
  refine z_last CX dL_ownerOf_9 ho vp_in_0 ?_
  refine z_goto CX 21 dL_ownerOf_10 (by decide) ?_
  refine z_iconst CX (v := 0) dL_ownerOf_21 (by decide) ?_
  refine z_widen (k9 := 1) (n9 := 6) (by omega) (by omega) ?_
  exact z_iret CX dL_ownerOf_22 rfl rfl rfl (Or.inl rfl)
set_option maxHeartbeats 4000000 in
set_option maxRecDepth 100000 in
theorem wx_ownerOf1 {l : Launch} {w : Wt} {hs hs9 : Hs} {n : Option Nat} {k io : Nat} {a : Int32} {b : Int32} {fs : List Value} (hx : hs k = some (.inr (5, fs))) (hC : Cx l w mX5_ownerOf 1 6 [.ref (wB w + k), .int a, .int b] hs n hs9 (exN 1)) : Cw l w mL_ownerOf [(0, 10, 13, 28), (0, 10, 17, 13)] 1 6 [.ref (wB w + k), .int a, .int b, .ref (wB w + io)] hs n hs9 none (some (.int 1)) := by
  refine Cw.of (d := mL_ownerOf) (hh := [(0, 10, 13, 28), (0, 10, 17, 13)]) (by decide +kernel) (Nat.le_of_ble_eq_true rfl) ?_
  intro p e R s m args below meth c CX htb hN
  replace CX : Ctx p s m args meth c R w RL "ownerOf" cL_ownerOf 5 (some .int) 8 137 1 6 := CX
  show ZW p l e R s m args below meth c w 5 _ _ 0 0 (MQ below (Qn w _ _ _) args s 1 6 (wA w)) 0 [(0, .ref (wB w + k)), (1, .int _), (2, .int _), (3, .ref (wB w + io))] []
  refine z_aload_n CX 3 dL_ownerOf_0 rfl rfl ?_
  refine z_iconst CX (v := 0) dL_ownerOf_1 (by decide) ?_
  refine z_aload_n CX 0 dL_ownerOf_2 rfl rfl ?_
  refine z_iload_n CX 1 dL_ownerOf_3 rfl rfl ?_
  refine z_iload_n CX 2 dL_ownerOf_4 rfl rfl ?_
  refine z_callVc CX htb hN (j := 1) [] [(⟨0, 10, 17, 13⟩ : ExceptionTableEntry)] ⟨0, 10, 13, 28⟩ rfl (by decide) (by decide) ⟨by omega, by omega⟩ (fun _ h => absurd h List.not_mem_nil) (wa_mem 552 (by decide +kernel) rfl) dL_ownerOf_5 cv_L_33 hC hx rfl rfl (Nat.le_of_ble_eq_true rfl) ⟨Nat.le_of_ble_eq_true rfl, Nat.le_of_ble_eq_true rfl⟩ ⟨Nat.le_of_ble_eq_true rfl, Nat.le_of_ble_eq_true rfl⟩ (fun q9 => ?_)
  refine z_astore CX dL_ownerOf_13 (by decide) ?_
  refine z_iconst CX (v := 1) dL_ownerOf_15 (by decide) ?_
  exact z_iret CX dL_ownerOf_16 rfl rfl rfl (Or.inl rfl)
set_option maxHeartbeats 4000000 in
set_option maxRecDepth 100000 in
theorem wx_ownerOf2 {l : Launch} {w : Wt} {hs hs9 : Hs} {n : Option Nat} {k io : Nat} {a : Int32} {b : Int32} {fs : List Value} (hx : hs k = some (.inr (5, fs))) (hC : Cx l w mX5_ownerOf 1 6 [.ref (wB w + k), .int a, .int b] hs n hs9 (exN 2)) : Cw l w mL_ownerOf [(0, 10, 13, 28), (0, 10, 17, 13)] 1 6 [.ref (wB w + k), .int a, .int b, .ref (wB w + io)] hs n hs9 none (some (.int 2)) := by
  refine Cw.of (d := mL_ownerOf) (hh := [(0, 10, 13, 28), (0, 10, 17, 13)]) (by decide +kernel) (Nat.le_of_ble_eq_true rfl) ?_
  intro p e R s m args below meth c CX htb hN
  replace CX : Ctx p s m args meth c R w RL "ownerOf" cL_ownerOf 5 (some .int) 8 137 1 6 := CX
  show ZW p l e R s m args below meth c w 5 _ _ 0 0 (MQ below (Qn w _ _ _) args s 1 6 (wA w)) 0 [(0, .ref (wB w + k)), (1, .int _), (2, .int _), (3, .ref (wB w + io))] []
  refine z_aload_n CX 3 dL_ownerOf_0 rfl rfl ?_
  refine z_iconst CX (v := 0) dL_ownerOf_1 (by decide) ?_
  refine z_aload_n CX 0 dL_ownerOf_2 rfl rfl ?_
  refine z_iload_n CX 1 dL_ownerOf_3 rfl rfl ?_
  refine z_iload_n CX 2 dL_ownerOf_4 rfl rfl ?_
  refine z_callVc CX htb hN (j := 2) [(⟨0, 10, 13, 28⟩ : ExceptionTableEntry)] [] ⟨0, 10, 17, 13⟩ rfl (by decide) (by decide) ⟨by omega, by omega⟩ (List.forall_mem_cons.mpr ⟨⟨by decide, 1, ⟨by omega, by omega⟩, by omega, wa_mem 552 (by decide +kernel) rfl⟩, (fun _ h => absurd h List.not_mem_nil)⟩) (wa_mem 302 (by decide +kernel) rfl) dL_ownerOf_5 cv_L_33 hC hx rfl rfl (Nat.le_of_ble_eq_true rfl) ⟨Nat.le_of_ble_eq_true rfl, Nat.le_of_ble_eq_true rfl⟩ ⟨Nat.le_of_ble_eq_true rfl, Nat.le_of_ble_eq_true rfl⟩ (fun q9 => ?_)
  refine z_astore CX dL_ownerOf_17 (by decide) ?_
  refine z_iconst CX (v := 2) dL_ownerOf_19 (by decide) ?_
  exact z_iret CX dL_ownerOf_20 rfl rfl rfl (Or.inl rfl)
set_option maxHeartbeats 4000000 in
set_option maxRecDepth 100000 in
theorem w0_restore {l : Launch} {w : Wt} {hs hs9 : Hs} {n n9 : Option Nat} {k io : Nat} {a : Int32} {v : Int32} {fs : List Value} {f : Nat → Int64} (hx : hs k = some (.inr (5, fs))) (ho : hs9 io = some (.inl (wC w 2, 1, .inr (.inl f)))) (hn9 : n9 = n9 ∨ n9 = none) (hC : Cn l w mX5_restore 0 0 [.ref (wB w + k), .int a] hs n hs9 n9 (some (.int v))) : Cw l w mL_restore [(0, 9, 12, 28), (0, 9, 15, 15)] 1 6 [.ref (wB w + k), .int a, .ref (wB w + io)] hs n (upH hs9 io (.inl (wC w 2, 1, .inr (.inl (vp_updL f 0 v.toInt64))))) n9 (some (.int 0)) := by
  refine Cw.of (d := mL_restore) (hh := [(0, 9, 12, 28), (0, 9, 15, 15)]) (by decide +kernel) (Nat.le_of_ble_eq_true rfl) ?_
  intro p e R s m args below meth c CX htb hN
  replace CX : Ctx p s m args meth c R w RL "restore" cL_restore 4 (some .int) 8 133 1 6 := CX
  show ZW p l e R s m args below meth c w 4 _ _ 0 0 (MQ below (Qn w _ _ _) args s 1 6 (wA w)) 0 [(0, .ref (wB w + k)), (1, .int _), (2, .ref (wB w + io))] []
  refine z_aload_n CX 2 dL_restore_0 rfl rfl ?_
  refine z_iconst CX (v := 0) dL_restore_1 (by decide) ?_
  refine z_aload_n CX 0 dL_restore_2 rfl rfl ?_
  refine z_iload_n CX 1 dL_restore_3 rfl rfl ?_
  refine z_callV1 CX dL_restore_4 cv_L_88 hC hx rfl rfl (Nat.le_of_ble_eq_true rfl) ⟨Nat.le_of_ble_eq_true rfl, Nat.le_of_ble_eq_true rfl⟩ ⟨Nat.le_of_ble_eq_true rfl, Nat.le_of_ble_eq_true rfl⟩ ?_
  refine z_i2l CX dL_restore_7 rfl ?_
  refine z_last CX dL_restore_8 ho vp_in_0 ?_
  refine z_goto CX 18 dL_restore_9 (by decide) ?_
  refine z_iconst CX (v := 0) dL_restore_18 (by decide) ?_
  refine z_widen (k9 := 1) (n9 := 6) (by omega) (by omega) ?_
  exact z_iret CX dL_restore_19 rfl rfl rfl (Or.inl rfl)
set_option maxHeartbeats 4000000 in
set_option maxRecDepth 100000 in
theorem wx_restore1 {l : Launch} {w : Wt} {hs hs9 : Hs} {n : Option Nat} {k io : Nat} {a : Int32} {fs : List Value} (hx : hs k = some (.inr (5, fs))) (hC : Cx l w mX5_restore 1 6 [.ref (wB w + k), .int a] hs n hs9 (exN 1)) : Cw l w mL_restore [(0, 9, 12, 28), (0, 9, 15, 15)] 1 6 [.ref (wB w + k), .int a, .ref (wB w + io)] hs n hs9 none (some (.int 1)) := by
  refine Cw.of (d := mL_restore) (hh := [(0, 9, 12, 28), (0, 9, 15, 15)]) (by decide +kernel) (Nat.le_of_ble_eq_true rfl) ?_
  intro p e R s m args below meth c CX htb hN
  replace CX : Ctx p s m args meth c R w RL "restore" cL_restore 4 (some .int) 8 133 1 6 := CX
  show ZW p l e R s m args below meth c w 4 _ _ 0 0 (MQ below (Qn w _ _ _) args s 1 6 (wA w)) 0 [(0, .ref (wB w + k)), (1, .int _), (2, .ref (wB w + io))] []
  refine z_aload_n CX 2 dL_restore_0 rfl rfl ?_
  refine z_iconst CX (v := 0) dL_restore_1 (by decide) ?_
  refine z_aload_n CX 0 dL_restore_2 rfl rfl ?_
  refine z_iload_n CX 1 dL_restore_3 rfl rfl ?_
  refine z_callVc CX htb hN (j := 1) [] [(⟨0, 9, 15, 15⟩ : ExceptionTableEntry)] ⟨0, 9, 12, 28⟩ rfl (by decide) (by decide) ⟨by omega, by omega⟩ (fun _ h => absurd h List.not_mem_nil) (wa_mem 552 (by decide +kernel) rfl) dL_restore_4 cv_L_88 hC hx rfl rfl (Nat.le_of_ble_eq_true rfl) ⟨Nat.le_of_ble_eq_true rfl, Nat.le_of_ble_eq_true rfl⟩ ⟨Nat.le_of_ble_eq_true rfl, Nat.le_of_ble_eq_true rfl⟩ (fun q9 => ?_)
  refine z_astore_n CX 3 dL_restore_12 rfl (by decide) ?_
  refine z_iconst CX (v := 1) dL_restore_13 (by decide) ?_
  exact z_iret CX dL_restore_14 rfl rfl rfl (Or.inl rfl)
set_option maxHeartbeats 4000000 in
set_option maxRecDepth 100000 in
theorem wx_restore3 {l : Launch} {w : Wt} {hs hs9 : Hs} {n : Option Nat} {k io : Nat} {a : Int32} {fs : List Value} (hx : hs k = some (.inr (5, fs))) (hC : Cx l w mX5_restore 1 6 [.ref (wB w + k), .int a] hs n hs9 (exN 3)) : Cw l w mL_restore [(0, 9, 12, 28), (0, 9, 15, 15)] 1 6 [.ref (wB w + k), .int a, .ref (wB w + io)] hs n hs9 none (some (.int 2)) := by
  refine Cw.of (d := mL_restore) (hh := [(0, 9, 12, 28), (0, 9, 15, 15)]) (by decide +kernel) (Nat.le_of_ble_eq_true rfl) ?_
  intro p e R s m args below meth c CX htb hN
  replace CX : Ctx p s m args meth c R w RL "restore" cL_restore 4 (some .int) 8 133 1 6 := CX
  show ZW p l e R s m args below meth c w 4 _ _ 0 0 (MQ below (Qn w _ _ _) args s 1 6 (wA w)) 0 [(0, .ref (wB w + k)), (1, .int _), (2, .ref (wB w + io))] []
  refine z_aload_n CX 2 dL_restore_0 rfl rfl ?_
  refine z_iconst CX (v := 0) dL_restore_1 (by decide) ?_
  refine z_aload_n CX 0 dL_restore_2 rfl rfl ?_
  refine z_iload_n CX 1 dL_restore_3 rfl rfl ?_
  refine z_callVc CX htb hN (j := 3) [(⟨0, 9, 12, 28⟩ : ExceptionTableEntry)] [] ⟨0, 9, 15, 15⟩ rfl (by decide) (by decide) ⟨by omega, by omega⟩ (List.forall_mem_cons.mpr ⟨⟨by decide, 1, ⟨by omega, by omega⟩, by omega, wa_mem 552 (by decide +kernel) rfl⟩, (fun _ h => absurd h List.not_mem_nil)⟩) (wa_mem 303 (by decide +kernel) rfl) dL_restore_4 cv_L_88 hC hx rfl rfl (Nat.le_of_ble_eq_true rfl) ⟨Nat.le_of_ble_eq_true rfl, Nat.le_of_ble_eq_true rfl⟩ ⟨Nat.le_of_ble_eq_true rfl, Nat.le_of_ble_eq_true rfl⟩ (fun q9 => ?_)
  refine z_astore_n CX 3 dL_restore_15 rfl (by decide) ?_
  refine z_iconst CX (v := 2) dL_restore_16 (by decide) ?_
  exact z_iret CX dL_restore_17 rfl rfl rfl (Or.inl rfl)
set_option maxHeartbeats 4000000 in
set_option maxRecDepth 100000 in
theorem w0_runScript {l : Launch} {w : Wt} {hs hs9 : Hs} {n n9 : Option Nat} {k io : Nat} {a : Int32} {b : Int64} {v : Int32} {fs : List Value} {f : Nat → Int64} (hx : hs k = some (.inr (5, fs))) (ho : hs9 io = some (.inl (wC w 2, 1, .inr (.inl f)))) (hn9 : n9 = n9 ∨ n9 = none) (hC : Cn l w mX5_runScript 0 0 [.ref (wB w + k), .int a, .long b] hs n hs9 n9 (some (.int v))) : Cw l w mL_runScript [(0, 11, 14, 13)] 1 6 [.ref (wB w + k), .int a, .long b, .ref (wB w + io)] hs n (upH hs9 io (.inl (wC w 2, 1, .inr (.inl (vp_updL f 0 v.toInt64))))) n9 (some (.int 0)) := by
  refine Cw.of (d := mL_runScript) (hh := [(0, 11, 14, 13)]) (by decide +kernel) (Nat.le_of_ble_eq_true rfl) ?_
  intro p e R s m args below meth c CX htb hN
  replace CX : Ctx p s m args meth c R w RL "runScript" cL_runScript 6 (some .int) 8 171 1 6 := CX
  show ZW p l e R s m args below meth c w 6 _ _ 0 0 (MQ below (Qn w _ _ _) args s 1 6 (wA w)) 0 [(0, .ref (wB w + k)), (1, .int _), (2, .long _), (4, .ref (wB w + io))] []
  refine z_aload CX dL_runScript_0 rfl ?_
  refine z_iconst CX (v := 0) dL_runScript_2 (by decide) ?_
  refine z_aload_n CX 0 dL_runScript_3 rfl rfl ?_
  refine z_iload_n CX 1 dL_runScript_4 rfl rfl ?_
  refine z_lload_n CX 2 dL_runScript_5 rfl rfl ?_
  refine z_callV1 CX dL_runScript_6 cv_L_77 hC hx rfl rfl (Nat.le_of_ble_eq_true rfl) ⟨Nat.le_of_ble_eq_true rfl, Nat.le_of_ble_eq_true rfl⟩ ⟨Nat.le_of_ble_eq_true rfl, Nat.le_of_ble_eq_true rfl⟩ ?_
  refine z_i2l CX dL_runScript_9 rfl ?_
  refine z_last CX dL_runScript_10 ho vp_in_0 ?_
  refine z_goto CX 18 dL_runScript_11 (by decide) ?_
  refine z_iconst CX (v := 0) dL_runScript_18 (by decide) ?_
  refine z_widen (k9 := 1) (n9 := 6) (by omega) (by omega) ?_
  exact z_iret CX dL_runScript_19 rfl rfl rfl (Or.inl rfl)
set_option maxHeartbeats 4000000 in
set_option maxRecDepth 100000 in
theorem wx_runScript2 {l : Launch} {w : Wt} {hs hs9 : Hs} {n : Option Nat} {k io : Nat} {a : Int32} {b : Int64} {fs : List Value} (hx : hs k = some (.inr (5, fs))) (hC : Cx l w mX5_runScript 1 6 [.ref (wB w + k), .int a, .long b] hs n hs9 (exN 2)) : Cw l w mL_runScript [(0, 11, 14, 13)] 1 6 [.ref (wB w + k), .int a, .long b, .ref (wB w + io)] hs n hs9 none (some (.int 1)) := by
  refine Cw.of (d := mL_runScript) (hh := [(0, 11, 14, 13)]) (by decide +kernel) (Nat.le_of_ble_eq_true rfl) ?_
  intro p e R s m args below meth c CX htb hN
  replace CX : Ctx p s m args meth c R w RL "runScript" cL_runScript 6 (some .int) 8 171 1 6 := CX
  show ZW p l e R s m args below meth c w 6 _ _ 0 0 (MQ below (Qn w _ _ _) args s 1 6 (wA w)) 0 [(0, .ref (wB w + k)), (1, .int _), (2, .long _), (4, .ref (wB w + io))] []
  refine z_aload CX dL_runScript_0 rfl ?_
  refine z_iconst CX (v := 0) dL_runScript_2 (by decide) ?_
  refine z_aload_n CX 0 dL_runScript_3 rfl rfl ?_
  refine z_iload_n CX 1 dL_runScript_4 rfl rfl ?_
  refine z_lload_n CX 2 dL_runScript_5 rfl rfl ?_
  refine z_callVc CX htb hN (j := 2) [] [] ⟨0, 11, 14, 13⟩ rfl (by decide) (by decide) ⟨by omega, by omega⟩ (fun _ h => absurd h List.not_mem_nil) (wa_mem 302 (by decide +kernel) rfl) dL_runScript_6 cv_L_77 hC hx rfl rfl (Nat.le_of_ble_eq_true rfl) ⟨Nat.le_of_ble_eq_true rfl, Nat.le_of_ble_eq_true rfl⟩ ⟨Nat.le_of_ble_eq_true rfl, Nat.le_of_ble_eq_true rfl⟩ (fun q9 => ?_)
  refine z_astore CX dL_runScript_14 (by decide) ?_
  refine z_iconst CX (v := 1) dL_runScript_16 (by decide) ?_
  exact z_iret CX dL_runScript_17 rfl rfl rfl (Or.inl rfl)
set_option maxHeartbeats 4000000 in
set_option maxRecDepth 100000 in
theorem w0_save {l : Launch} {w : Wt} {hs hs9 : Hs} {n n9 : Option Nat} {k io : Nat} {a : Int32} {v : Int32} {fs : List Value} {f : Nat → Int64} (hx : hs k = some (.inr (5, fs))) (ho : hs9 io = some (.inl (wC w 2, 1, .inr (.inl f)))) (hn9 : n9 = n9 ∨ n9 = none) (hC : Cn l w mX5_save 0 0 [.ref (wB w + k), .int a] hs n hs9 n9 (some (.int v))) : Cw l w mL_save [(0, 9, 12, 28)] 1 6 [.ref (wB w + k), .int a, .ref (wB w + io)] hs n (upH hs9 io (.inl (wC w 2, 1, .inr (.inl (vp_updL f 0 v.toInt64))))) n9 (some (.int 0)) := by
  refine Cw.of (d := mL_save) (hh := [(0, 9, 12, 28)]) (by decide +kernel) (Nat.le_of_ble_eq_true rfl) ?_
  intro p e R s m args below meth c CX htb hN
  replace CX : Ctx p s m args meth c R w RL "save" cL_save 4 (some .int) 8 133 1 6 := CX
  show ZW p l e R s m args below meth c w 4 _ _ 0 0 (MQ below (Qn w _ _ _) args s 1 6 (wA w)) 0 [(0, .ref (wB w + k)), (1, .int _), (2, .ref (wB w + io))] []
  refine z_aload_n CX 2 dL_save_0 rfl rfl ?_
  refine z_iconst CX (v := 0) dL_save_1 (by decide) ?_
  refine z_aload_n CX 0 dL_save_2 rfl rfl ?_
  refine z_iload_n CX 1 dL_save_3 rfl rfl ?_
  refine z_callV1 CX dL_save_4 cv_L_85 hC hx rfl rfl (Nat.le_of_ble_eq_true rfl) ⟨Nat.le_of_ble_eq_true rfl, Nat.le_of_ble_eq_true rfl⟩ ⟨Nat.le_of_ble_eq_true rfl, Nat.le_of_ble_eq_true rfl⟩ ?_
  refine z_i2l CX dL_save_7 rfl ?_
  refine z_last CX dL_save_8 ho vp_in_0 ?_
  refine z_goto CX 15 dL_save_9 (by decide) ?_
  refine z_iconst CX (v := 0) dL_save_15 (by decide) ?_
  refine z_widen (k9 := 1) (n9 := 6) (by omega) (by omega) ?_
  exact z_iret CX dL_save_16 rfl rfl rfl (Or.inl rfl)
set_option maxHeartbeats 4000000 in
set_option maxRecDepth 100000 in
theorem wx_save1 {l : Launch} {w : Wt} {hs hs9 : Hs} {n : Option Nat} {k io : Nat} {a : Int32} {fs : List Value} (hx : hs k = some (.inr (5, fs))) (hC : Cx l w mX5_save 1 6 [.ref (wB w + k), .int a] hs n hs9 (exN 1)) : Cw l w mL_save [(0, 9, 12, 28)] 1 6 [.ref (wB w + k), .int a, .ref (wB w + io)] hs n hs9 none (some (.int 1)) := by
  refine Cw.of (d := mL_save) (hh := [(0, 9, 12, 28)]) (by decide +kernel) (Nat.le_of_ble_eq_true rfl) ?_
  intro p e R s m args below meth c CX htb hN
  replace CX : Ctx p s m args meth c R w RL "save" cL_save 4 (some .int) 8 133 1 6 := CX
  show ZW p l e R s m args below meth c w 4 _ _ 0 0 (MQ below (Qn w _ _ _) args s 1 6 (wA w)) 0 [(0, .ref (wB w + k)), (1, .int _), (2, .ref (wB w + io))] []
  refine z_aload_n CX 2 dL_save_0 rfl rfl ?_
  refine z_iconst CX (v := 0) dL_save_1 (by decide) ?_
  refine z_aload_n CX 0 dL_save_2 rfl rfl ?_
  refine z_iload_n CX 1 dL_save_3 rfl rfl ?_
  refine z_callVc CX htb hN (j := 1) [] [] ⟨0, 9, 12, 28⟩ rfl (by decide) (by decide) ⟨by omega, by omega⟩ (fun _ h => absurd h List.not_mem_nil) (wa_mem 552 (by decide +kernel) rfl) dL_save_4 cv_L_85 hC hx rfl rfl (Nat.le_of_ble_eq_true rfl) ⟨Nat.le_of_ble_eq_true rfl, Nat.le_of_ble_eq_true rfl⟩ ⟨Nat.le_of_ble_eq_true rfl, Nat.le_of_ble_eq_true rfl⟩ (fun q9 => ?_)
  refine z_astore_n CX 3 dL_save_12 rfl (by decide) ?_
  refine z_iconst CX (v := 1) dL_save_13 (by decide) ?_
  exact z_iret CX dL_save_14 rfl rfl rfl (Or.inl rfl)
set_option maxHeartbeats 4000000 in
set_option maxRecDepth 100000 in
theorem w0_set {l : Launch} {w : Wt} {hs hs9 : Hs} {n n9 : Option Nat} {k io : Nat} {a : Int32} {b : Int32} {v : Int32} {fs : List Value} {f : Nat → Int64} (hx : hs k = some (.inr (5, fs))) (ho : hs9 io = some (.inl (wC w 2, 1, .inr (.inl f)))) (hn9 : n9 = n9 ∨ n9 = none) (hC : Cn l w mX5_set 0 0 [.ref (wB w + k), .int a, .int b] hs n hs9 n9 (some (.int v))) : Cw l w mL_set [(0, 10, 13, 13)] 1 6 [.ref (wB w + k), .int a, .int b, .ref (wB w + io)] hs n (upH hs9 io (.inl (wC w 2, 1, .inr (.inl (vp_updL f 0 v.toInt64))))) n9 (some (.int 0)) := by
  refine Cw.of (d := mL_set) (hh := [(0, 10, 13, 13)]) (by decide +kernel) (Nat.le_of_ble_eq_true rfl) ?_
  intro p e R s m args below meth c CX htb hN
  replace CX : Ctx p s m args meth c R w RL "set" cL_set 5 (some .int) 8 152 1 6 := CX
  show ZW p l e R s m args below meth c w 5 _ _ 0 0 (MQ below (Qn w _ _ _) args s 1 6 (wA w)) 0 [(0, .ref (wB w + k)), (1, .int _), (2, .int _), (3, .ref (wB w + io))] []
  refine z_aload_n CX 3 dL_set_0 rfl rfl ?_
  refine z_iconst CX (v := 0) dL_set_1 (by decide) ?_
  refine z_aload_n CX 0 dL_set_2 rfl rfl ?_
  refine z_iload_n CX 1 dL_set_3 rfl rfl ?_
  refine z_iload_n CX 2 dL_set_4 rfl rfl ?_
  refine z_callV1 CX dL_set_5 cv_L_62 hC hx rfl rfl (Nat.le_of_ble_eq_true rfl) ⟨Nat.le_of_ble_eq_true rfl, Nat.le_of_ble_eq_true rfl⟩ ⟨Nat.le_of_ble_eq_true rfl, Nat.le_of_ble_eq_true rfl⟩ ?_
  refine z_i2l CX dL_set_8 rfl ?_
  refine z_last CX dL_set_9 ho vp_in_0 ?_
  refine z_goto CX 17 dL_set_10 (by decide) ?_
  refine z_iconst CX (v := 0) dL_set_17 (by decide) ?_
  refine z_widen (k9 := 1) (n9 := 6) (by omega) (by omega) ?_
  exact z_iret CX dL_set_18 rfl rfl rfl (Or.inl rfl)
set_option maxHeartbeats 4000000 in
set_option maxRecDepth 100000 in
theorem wx_set2 {l : Launch} {w : Wt} {hs hs9 : Hs} {n : Option Nat} {k io : Nat} {a : Int32} {b : Int32} {fs : List Value} (hx : hs k = some (.inr (5, fs))) (hC : Cx l w mX5_set 1 6 [.ref (wB w + k), .int a, .int b] hs n hs9 (exN 2)) : Cw l w mL_set [(0, 10, 13, 13)] 1 6 [.ref (wB w + k), .int a, .int b, .ref (wB w + io)] hs n hs9 none (some (.int 1)) := by
  refine Cw.of (d := mL_set) (hh := [(0, 10, 13, 13)]) (by decide +kernel) (Nat.le_of_ble_eq_true rfl) ?_
  intro p e R s m args below meth c CX htb hN
  replace CX : Ctx p s m args meth c R w RL "set" cL_set 5 (some .int) 8 152 1 6 := CX
  show ZW p l e R s m args below meth c w 5 _ _ 0 0 (MQ below (Qn w _ _ _) args s 1 6 (wA w)) 0 [(0, .ref (wB w + k)), (1, .int _), (2, .int _), (3, .ref (wB w + io))] []
  refine z_aload_n CX 3 dL_set_0 rfl rfl ?_
  refine z_iconst CX (v := 0) dL_set_1 (by decide) ?_
  refine z_aload_n CX 0 dL_set_2 rfl rfl ?_
  refine z_iload_n CX 1 dL_set_3 rfl rfl ?_
  refine z_iload_n CX 2 dL_set_4 rfl rfl ?_
  refine z_callVc CX htb hN (j := 2) [] [] ⟨0, 10, 13, 13⟩ rfl (by decide) (by decide) ⟨by omega, by omega⟩ (fun _ h => absurd h List.not_mem_nil) (wa_mem 302 (by decide +kernel) rfl) dL_set_5 cv_L_62 hC hx rfl rfl (Nat.le_of_ble_eq_true rfl) ⟨Nat.le_of_ble_eq_true rfl, Nat.le_of_ble_eq_true rfl⟩ ⟨Nat.le_of_ble_eq_true rfl, Nat.le_of_ble_eq_true rfl⟩ (fun q9 => ?_)
  refine z_astore CX dL_set_13 (by decide) ?_
  refine z_iconst CX (v := 1) dL_set_15 (by decide) ?_
  exact z_iret CX dL_set_16 rfl rfl rfl (Or.inl rfl)
set_option maxHeartbeats 4000000 in
set_option maxRecDepth 100000 in
theorem w0_setting {l : Launch} {w : Wt} {hs hs9 : Hs} {n n9 : Option Nat} {k io : Nat} {a : Int32} {v : Int32} {fs : List Value} {f : Nat → Int64} (hx : hs k = some (.inr (5, fs))) (ho : hs9 io = some (.inl (wC w 2, 1, .inr (.inl f)))) (hn9 : n9 = n9 ∨ n9 = none) (hC : Cn l w mX5_setting 0 0 [.ref (wB w + k), .int a] hs n hs9 n9 (some (.int v))) : Cw l w mL_setting [(0, 9, 12, 13)] 1 6 [.ref (wB w + k), .int a, .ref (wB w + io)] hs n (upH hs9 io (.inl (wC w 2, 1, .inr (.inl (vp_updL f 0 v.toInt64))))) n9 (some (.int 0)) := by
  refine Cw.of (d := mL_setting) (hh := [(0, 9, 12, 13)]) (by decide +kernel) (Nat.le_of_ble_eq_true rfl) ?_
  intro p e R s m args below meth c CX htb hN
  replace CX : Ctx p s m args meth c R w RL "setting" cL_setting 4 (some .int) 8 133 1 6 := CX
  show ZW p l e R s m args below meth c w 4 _ _ 0 0 (MQ below (Qn w _ _ _) args s 1 6 (wA w)) 0 [(0, .ref (wB w + k)), (1, .int _), (2, .ref (wB w + io))] []
  refine z_aload_n CX 2 dL_setting_0 rfl rfl ?_
  refine z_iconst CX (v := 0) dL_setting_1 (by decide) ?_
  refine z_aload_n CX 0 dL_setting_2 rfl rfl ?_
  refine z_iload_n CX 1 dL_setting_3 rfl rfl ?_
  refine z_callV1 CX dL_setting_4 cv_L_40 hC hx rfl rfl (Nat.le_of_ble_eq_true rfl) ⟨Nat.le_of_ble_eq_true rfl, Nat.le_of_ble_eq_true rfl⟩ ⟨Nat.le_of_ble_eq_true rfl, Nat.le_of_ble_eq_true rfl⟩ ?_
  refine z_i2l CX dL_setting_7 rfl ?_
  refine z_last CX dL_setting_8 ho vp_in_0 ?_
  refine z_goto CX 15 dL_setting_9 (by decide) ?_
  refine z_iconst CX (v := 0) dL_setting_15 (by decide) ?_
  refine z_widen (k9 := 1) (n9 := 6) (by omega) (by omega) ?_
  exact z_iret CX dL_setting_16 rfl rfl rfl (Or.inl rfl)
set_option maxHeartbeats 4000000 in
set_option maxRecDepth 100000 in
theorem wx_setting2 {l : Launch} {w : Wt} {hs hs9 : Hs} {n : Option Nat} {k io : Nat} {a : Int32} {fs : List Value} (hx : hs k = some (.inr (5, fs))) (hC : Cx l w mX5_setting 1 6 [.ref (wB w + k), .int a] hs n hs9 (exN 2)) : Cw l w mL_setting [(0, 9, 12, 13)] 1 6 [.ref (wB w + k), .int a, .ref (wB w + io)] hs n hs9 none (some (.int 1)) := by
  refine Cw.of (d := mL_setting) (hh := [(0, 9, 12, 13)]) (by decide +kernel) (Nat.le_of_ble_eq_true rfl) ?_
  intro p e R s m args below meth c CX htb hN
  replace CX : Ctx p s m args meth c R w RL "setting" cL_setting 4 (some .int) 8 133 1 6 := CX
  show ZW p l e R s m args below meth c w 4 _ _ 0 0 (MQ below (Qn w _ _ _) args s 1 6 (wA w)) 0 [(0, .ref (wB w + k)), (1, .int _), (2, .ref (wB w + io))] []
  refine z_aload_n CX 2 dL_setting_0 rfl rfl ?_
  refine z_iconst CX (v := 0) dL_setting_1 (by decide) ?_
  refine z_aload_n CX 0 dL_setting_2 rfl rfl ?_
  refine z_iload_n CX 1 dL_setting_3 rfl rfl ?_
  refine z_callVc CX htb hN (j := 2) [] [] ⟨0, 9, 12, 13⟩ rfl (by decide) (by decide) ⟨by omega, by omega⟩ (fun _ h => absurd h List.not_mem_nil) (wa_mem 302 (by decide +kernel) rfl) dL_setting_4 cv_L_40 hC hx rfl rfl (Nat.le_of_ble_eq_true rfl) ⟨Nat.le_of_ble_eq_true rfl, Nat.le_of_ble_eq_true rfl⟩ ⟨Nat.le_of_ble_eq_true rfl, Nat.le_of_ble_eq_true rfl⟩ (fun q9 => ?_)
  refine z_astore_n CX 3 dL_setting_12 rfl (by decide) ?_
  refine z_iconst CX (v := 1) dL_setting_13 (by decide) ?_
  exact z_iret CX dL_setting_14 rfl rfl rfl (Or.inl rfl)
set_option maxHeartbeats 4000000 in
set_option maxRecDepth 100000 in
theorem w0_simulate {l : Launch} {w : Wt} {hs hs9 : Hs} {n n9 : Option Nat} {k io : Nat} {a : Int64} {b : Int32} {v : Int32} {fs : List Value} {f : Nat → Int64} (hx : hs k = some (.inr (5, fs))) (ho : hs9 io = some (.inl (wC w 2, 1, .inr (.inl f)))) (hn9 : n9 = n9 ∨ n9 = none) (hC : Cn l w mX5_simulate 0 0 [.ref (wB w + k), .long a, .int b] hs n hs9 n9 (some (.int v))) : Cw l w mL_simulate [(0, 11, 14, 13)] 1 6 [.ref (wB w + k), .long a, .int b, .ref (wB w + io)] hs n (upH hs9 io (.inl (wC w 2, 1, .inr (.inl (vp_updL f 0 v.toInt64))))) n9 (some (.int 0)) := by
  refine Cw.of (d := mL_simulate) (hh := [(0, 11, 14, 13)]) (by decide +kernel) (Nat.le_of_ble_eq_true rfl) ?_
  intro p e R s m args below meth c CX htb hN
  replace CX : Ctx p s m args meth c R w RL "simulate" cL_simulate 6 (some .int) 8 169 1 6 := CX
  show ZW p l e R s m args below meth c w 6 _ _ 0 0 (MQ below (Qn w _ _ _) args s 1 6 (wA w)) 0 [(0, .ref (wB w + k)), (1, .long _), (3, .int _), (4, .ref (wB w + io))] []
  refine z_aload CX dL_simulate_0 rfl ?_
  refine z_iconst CX (v := 0) dL_simulate_2 (by decide) ?_
  refine z_aload_n CX 0 dL_simulate_3 rfl rfl ?_
  refine z_lload_n CX 1 dL_simulate_4 rfl rfl ?_
  refine z_iload_n CX 3 dL_simulate_5 rfl rfl ?_
  refine z_callV1 CX dL_simulate_6 cv_L_81 hC hx rfl rfl (Nat.le_of_ble_eq_true rfl) ⟨Nat.le_of_ble_eq_true rfl, Nat.le_of_ble_eq_true rfl⟩ ⟨Nat.le_of_ble_eq_true rfl, Nat.le_of_ble_eq_true rfl⟩ ?_
  refine z_i2l CX dL_simulate_9 rfl ?_
  refine z_last CX dL_simulate_10 ho vp_in_0 ?_
  refine z_goto CX 18 dL_simulate_11 (by decide) ?_
  refine z_iconst CX (v := 0) dL_simulate_18 (by decide) ?_
  refine z_widen (k9 := 1) (n9 := 6) (by omega) (by omega) ?_
  exact z_iret CX dL_simulate_19 rfl rfl rfl (Or.inl rfl)
set_option maxHeartbeats 4000000 in
set_option maxRecDepth 100000 in
theorem wx_simulate2 {l : Launch} {w : Wt} {hs hs9 : Hs} {n : Option Nat} {k io : Nat} {a : Int64} {b : Int32} {fs : List Value} (hx : hs k = some (.inr (5, fs))) (hC : Cx l w mX5_simulate 1 6 [.ref (wB w + k), .long a, .int b] hs n hs9 (exN 2)) : Cw l w mL_simulate [(0, 11, 14, 13)] 1 6 [.ref (wB w + k), .long a, .int b, .ref (wB w + io)] hs n hs9 none (some (.int 1)) := by
  refine Cw.of (d := mL_simulate) (hh := [(0, 11, 14, 13)]) (by decide +kernel) (Nat.le_of_ble_eq_true rfl) ?_
  intro p e R s m args below meth c CX htb hN
  replace CX : Ctx p s m args meth c R w RL "simulate" cL_simulate 6 (some .int) 8 169 1 6 := CX
  show ZW p l e R s m args below meth c w 6 _ _ 0 0 (MQ below (Qn w _ _ _) args s 1 6 (wA w)) 0 [(0, .ref (wB w + k)), (1, .long _), (3, .int _), (4, .ref (wB w + io))] []
  refine z_aload CX dL_simulate_0 rfl ?_
  refine z_iconst CX (v := 0) dL_simulate_2 (by decide) ?_
  refine z_aload_n CX 0 dL_simulate_3 rfl rfl ?_
  refine z_lload_n CX 1 dL_simulate_4 rfl rfl ?_
  refine z_iload_n CX 3 dL_simulate_5 rfl rfl ?_
  refine z_callVc CX htb hN (j := 2) [] [] ⟨0, 11, 14, 13⟩ rfl (by decide) (by decide) ⟨by omega, by omega⟩ (fun _ h => absurd h List.not_mem_nil) (wa_mem 302 (by decide +kernel) rfl) dL_simulate_6 cv_L_81 hC hx rfl rfl (Nat.le_of_ble_eq_true rfl) ⟨Nat.le_of_ble_eq_true rfl, Nat.le_of_ble_eq_true rfl⟩ ⟨Nat.le_of_ble_eq_true rfl, Nat.le_of_ble_eq_true rfl⟩ (fun q9 => ?_)
  refine z_astore CX dL_simulate_14 (by decide) ?_
  refine z_iconst CX (v := 1) dL_simulate_16 (by decide) ?_
  exact z_iret CX dL_simulate_17 rfl rfl rfl (Or.inl rfl)
set_option maxHeartbeats 4000000 in
set_option maxRecDepth 100000 in
theorem w0_undo {l : Launch} {w : Wt} {hs hs9 : Hs} {n n9 : Option Nat} {k io : Nat}  {v : Int32} {fs : List Value} {f : Nat → Int64} (hx : hs k = some (.inr (5, fs))) (ho : hs9 io = some (.inl (wC w 2, 1, .inr (.inl f)))) (hn9 : n9 = n9 ∨ n9 = none) (hC : Cn l w mX5_undo 0 0 [.ref (wB w + k)] hs n hs9 n9 (some (.int v))) : Cw l w mL_undo [(0, 8, 11, 15)] 1 6 [.ref (wB w + k), .ref (wB w + io)] hs n (upH hs9 io (.inl (wC w 2, 1, .inr (.inl (vp_updL f 0 v.toInt64))))) n9 (some (.int 0)) := by
  refine Cw.of (d := mL_undo) (hh := [(0, 8, 11, 15)]) (by decide +kernel) (Nat.le_of_ble_eq_true rfl) ?_
  intro p e R s m args below meth c CX htb hN
  replace CX : Ctx p s m args meth c R w RL "undo" cL_undo 3 (some .int) 8 150 1 6 := CX
  show ZW p l e R s m args below meth c w 3 _ _ 0 0 (MQ below (Qn w _ _ _) args s 1 6 (wA w)) 0 [(0, .ref (wB w + k)), (1, .ref (wB w + io))] []
  refine z_aload_n CX 1 dL_undo_0 rfl rfl ?_
  refine z_iconst CX (v := 0) dL_undo_1 (by decide) ?_
  refine z_aload_n CX 0 dL_undo_2 rfl rfl ?_
  refine z_callV1 CX dL_undo_3 cv_L_65 hC hx rfl rfl (Nat.le_of_ble_eq_true rfl) ⟨Nat.le_of_ble_eq_true rfl, Nat.le_of_ble_eq_true rfl⟩ ⟨Nat.le_of_ble_eq_true rfl, Nat.le_of_ble_eq_true rfl⟩ ?_
  refine z_i2l CX dL_undo_6 rfl ?_
  refine z_last CX dL_undo_7 ho vp_in_0 ?_
  refine z_goto CX 14 dL_undo_8 (by decide) ?_
  refine z_iconst CX (v := 0) dL_undo_14 (by decide) ?_
  refine z_widen (k9 := 1) (n9 := 6) (by omega) (by omega) ?_
  exact z_iret CX dL_undo_15 rfl rfl rfl (Or.inl rfl)
set_option maxHeartbeats 4000000 in
set_option maxRecDepth 100000 in
theorem wx_undo3 {l : Launch} {w : Wt} {hs hs9 : Hs} {n : Option Nat} {k io : Nat}  {fs : List Value} (hx : hs k = some (.inr (5, fs))) (hC : Cx l w mX5_undo 1 6 [.ref (wB w + k)] hs n hs9 (exN 3)) : Cw l w mL_undo [(0, 8, 11, 15)] 1 6 [.ref (wB w + k), .ref (wB w + io)] hs n hs9 none (some (.int 1)) := by
  refine Cw.of (d := mL_undo) (hh := [(0, 8, 11, 15)]) (by decide +kernel) (Nat.le_of_ble_eq_true rfl) ?_
  intro p e R s m args below meth c CX htb hN
  replace CX : Ctx p s m args meth c R w RL "undo" cL_undo 3 (some .int) 8 150 1 6 := CX
  show ZW p l e R s m args below meth c w 3 _ _ 0 0 (MQ below (Qn w _ _ _) args s 1 6 (wA w)) 0 [(0, .ref (wB w + k)), (1, .ref (wB w + io))] []
  refine z_aload_n CX 1 dL_undo_0 rfl rfl ?_
  refine z_iconst CX (v := 0) dL_undo_1 (by decide) ?_
  refine z_aload_n CX 0 dL_undo_2 rfl rfl ?_
  refine z_callVc CX htb hN (j := 3) [] [] ⟨0, 8, 11, 15⟩ rfl (by decide) (by decide) ⟨by omega, by omega⟩ (fun _ h => absurd h List.not_mem_nil) (wa_mem 303 (by decide +kernel) rfl) dL_undo_3 cv_L_65 hC hx rfl rfl (Nat.le_of_ble_eq_true rfl) ⟨Nat.le_of_ble_eq_true rfl, Nat.le_of_ble_eq_true rfl⟩ ⟨Nat.le_of_ble_eq_true rfl, Nat.le_of_ble_eq_true rfl⟩ (fun q9 => ?_)
  refine z_astore_n CX 2 dL_undo_11 rfl (by decide) ?_
  refine z_iconst CX (v := 1) dL_undo_12 (by decide) ?_
  exact z_iret CX dL_undo_13 rfl rfl rfl (Or.inl rfl)
set_option maxHeartbeats 4000000 in
set_option maxRecDepth 100000 in
theorem w0_way {l : Launch} {w : Wt} {hs hs9 : Hs} {n n9 : Option Nat} {k io : Nat} {a : Int32} {b : Int32} {c : Int32} {v : Int32} {fs : List Value} {f : Nat → Int64} (hx : hs k = some (.inr (5, fs))) (ho : hs9 io = some (.inl (wC w 2, 1, .inr (.inl f)))) (hn9 : n9 = n9 ∨ n9 = none) (hC : Cn l w mX5_way 0 0 [.ref (wB w + k), .int a, .int b, .int c] hs n hs9 n9 (some (.int v))) : Cw l w mL_way [(0, 12, 15, 28), (0, 12, 19, 13)] 1 6 [.ref (wB w + k), .int a, .int b, .int c, .ref (wB w + io)] hs n (upH hs9 io (.inl (wC w 2, 1, .inr (.inl (vp_updL f 0 v.toInt64))))) n9 (some (.int 0)) := by
  refine Cw.of (d := mL_way) (hh := [(0, 12, 15, 28), (0, 12, 19, 13)]) (by decide +kernel) (Nat.le_of_ble_eq_true rfl) ?_
  intro p e R s m args below meth c CX htb hN
  replace CX : Ctx p s m args meth c R w RL "way" cL_way 6 (some .int) 8 135 1 6 := CX
  show ZW p l e R s m args below meth c w 6 _ _ 0 0 (MQ below (Qn w _ _ _) args s 1 6 (wA w)) 0 [(0, .ref (wB w + k)), (1, .int _), (2, .int _), (3, .int _), (4, .ref (wB w + io))] []
  refine z_aload CX dL_way_0 rfl ?_
  refine z_iconst CX (v := 0) dL_way_2 (by decide) ?_
  refine z_aload_n CX 0 dL_way_3 rfl rfl ?_
  refine z_iload_n CX 1 dL_way_4 rfl rfl ?_
  refine z_iload_n CX 2 dL_way_5 rfl rfl ?_
  refine z_iload_n CX 3 dL_way_6 rfl rfl ?_
  refine z_callV1 CX dL_way_7 cv_L_36 hC hx rfl rfl (Nat.le_of_ble_eq_true rfl) ⟨Nat.le_of_ble_eq_true rfl, Nat.le_of_ble_eq_true rfl⟩ ⟨Nat.le_of_ble_eq_true rfl, Nat.le_of_ble_eq_true rfl⟩ ?_
  refine z_i2l CX dL_way_10 rfl ?_
  refine z_last CX dL_way_11 ho vp_in_0 ?_
  refine z_goto CX 23 dL_way_12 (by decide) ?_
  refine z_iconst CX (v := 0) dL_way_23 (by decide) ?_
  refine z_widen (k9 := 1) (n9 := 6) (by omega) (by omega) ?_
  exact z_iret CX dL_way_24 rfl rfl rfl (Or.inl rfl)
set_option maxHeartbeats 4000000 in
set_option maxRecDepth 100000 in
theorem wx_way1 {l : Launch} {w : Wt} {hs hs9 : Hs} {n : Option Nat} {k io : Nat} {a : Int32} {b : Int32} {c : Int32} {fs : List Value} (hx : hs k = some (.inr (5, fs))) (hC : Cx l w mX5_way 1 6 [.ref (wB w + k), .int a, .int b, .int c] hs n hs9 (exN 1)) : Cw l w mL_way [(0, 12, 15, 28), (0, 12, 19, 13)] 1 6 [.ref (wB w + k), .int a, .int b, .int c, .ref (wB w + io)] hs n hs9 none (some (.int 1)) := by
  refine Cw.of (d := mL_way) (hh := [(0, 12, 15, 28), (0, 12, 19, 13)]) (by decide +kernel) (Nat.le_of_ble_eq_true rfl) ?_
  intro p e R s m args below meth c CX htb hN
  replace CX : Ctx p s m args meth c R w RL "way" cL_way 6 (some .int) 8 135 1 6 := CX
  show ZW p l e R s m args below meth c w 6 _ _ 0 0 (MQ below (Qn w _ _ _) args s 1 6 (wA w)) 0 [(0, .ref (wB w + k)), (1, .int _), (2, .int _), (3, .int _), (4, .ref (wB w + io))] []
  refine z_aload CX dL_way_0 rfl ?_
  refine z_iconst CX (v := 0) dL_way_2 (by decide) ?_
  refine z_aload_n CX 0 dL_way_3 rfl rfl ?_
  refine z_iload_n CX 1 dL_way_4 rfl rfl ?_
  refine z_iload_n CX 2 dL_way_5 rfl rfl ?_
  refine z_iload_n CX 3 dL_way_6 rfl rfl ?_
  refine z_callVc CX htb hN (j := 1) [] [(⟨0, 12, 19, 13⟩ : ExceptionTableEntry)] ⟨0, 12, 15, 28⟩ rfl (by decide) (by decide) ⟨by omega, by omega⟩ (fun _ h => absurd h List.not_mem_nil) (wa_mem 552 (by decide +kernel) rfl) dL_way_7 cv_L_36 hC hx rfl rfl (Nat.le_of_ble_eq_true rfl) ⟨Nat.le_of_ble_eq_true rfl, Nat.le_of_ble_eq_true rfl⟩ ⟨Nat.le_of_ble_eq_true rfl, Nat.le_of_ble_eq_true rfl⟩ (fun q9 => ?_)
  refine z_astore CX dL_way_15 (by decide) ?_
  refine z_iconst CX (v := 1) dL_way_17 (by decide) ?_
  exact z_iret CX dL_way_18 rfl rfl rfl (Or.inl rfl)
set_option maxHeartbeats 4000000 in
set_option maxRecDepth 100000 in
theorem wx_way2 {l : Launch} {w : Wt} {hs hs9 : Hs} {n : Option Nat} {k io : Nat} {a : Int32} {b : Int32} {c : Int32} {fs : List Value} (hx : hs k = some (.inr (5, fs))) (hC : Cx l w mX5_way 1 6 [.ref (wB w + k), .int a, .int b, .int c] hs n hs9 (exN 2)) : Cw l w mL_way [(0, 12, 15, 28), (0, 12, 19, 13)] 1 6 [.ref (wB w + k), .int a, .int b, .int c, .ref (wB w + io)] hs n hs9 none (some (.int 2)) := by
  refine Cw.of (d := mL_way) (hh := [(0, 12, 15, 28), (0, 12, 19, 13)]) (by decide +kernel) (Nat.le_of_ble_eq_true rfl) ?_
  intro p e R s m args below meth c CX htb hN
  replace CX : Ctx p s m args meth c R w RL "way" cL_way 6 (some .int) 8 135 1 6 := CX
  show ZW p l e R s m args below meth c w 6 _ _ 0 0 (MQ below (Qn w _ _ _) args s 1 6 (wA w)) 0 [(0, .ref (wB w + k)), (1, .int _), (2, .int _), (3, .int _), (4, .ref (wB w + io))] []
  refine z_aload CX dL_way_0 rfl ?_
  refine z_iconst CX (v := 0) dL_way_2 (by decide) ?_
  refine z_aload_n CX 0 dL_way_3 rfl rfl ?_
  refine z_iload_n CX 1 dL_way_4 rfl rfl ?_
  refine z_iload_n CX 2 dL_way_5 rfl rfl ?_
  refine z_iload_n CX 3 dL_way_6 rfl rfl ?_
  refine z_callVc CX htb hN (j := 2) [(⟨0, 12, 15, 28⟩ : ExceptionTableEntry)] [] ⟨0, 12, 19, 13⟩ rfl (by decide) (by decide) ⟨by omega, by omega⟩ (List.forall_mem_cons.mpr ⟨⟨by decide, 1, ⟨by omega, by omega⟩, by omega, wa_mem 552 (by decide +kernel) rfl⟩, (fun _ h => absurd h List.not_mem_nil)⟩) (wa_mem 302 (by decide +kernel) rfl) dL_way_7 cv_L_36 hC hx rfl rfl (Nat.le_of_ble_eq_true rfl) ⟨Nat.le_of_ble_eq_true rfl, Nat.le_of_ble_eq_true rfl⟩ ⟨Nat.le_of_ble_eq_true rfl, Nat.le_of_ble_eq_true rfl⟩ (fun q9 => ?_)
  refine z_astore CX dL_way_19 (by decide) ?_
  refine z_iconst CX (v := 2) dL_way_21 (by decide) ?_
  exact z_iret CX dL_way_22 rfl rfl rfl (Or.inl rfl)
set_option maxHeartbeats 4000000 in
set_option maxRecDepth 100000 in
theorem w0_why {l : Launch} {w : Wt} {hs hs9 : Hs} {n n9 : Option Nat} {k io : Nat} {a : Int32} {b : Int32} {v : Int32} {fs : List Value} {f : Nat → Int64} (hx : hs k = some (.inr (5, fs))) (ho : hs9 io = some (.inl (wC w 2, 1, .inr (.inl f)))) (hn9 : n9 = n9 ∨ n9 = none) (hC : Cn l w mX5_why 0 0 [.ref (wB w + k), .int a, .int b] hs n hs9 n9 (some (.int v))) : Cw l w mL_why [(0, 10, 13, 28)] 1 6 [.ref (wB w + k), .int a, .int b, .ref (wB w + io)] hs n (upH hs9 io (.inl (wC w 2, 1, .inr (.inl (vp_updL f 0 v.toInt64))))) n9 (some (.int 0)) := by
  refine Cw.of (d := mL_why) (hh := [(0, 10, 13, 28)]) (by decide +kernel) (Nat.le_of_ble_eq_true rfl) ?_
  intro p e R s m args below meth c CX htb hN
  replace CX : Ctx p s m args meth c R w RL "why" cL_why 5 (some .int) 8 134 1 6 := CX
  show ZW p l e R s m args below meth c w 5 _ _ 0 0 (MQ below (Qn w _ _ _) args s 1 6 (wA w)) 0 [(0, .ref (wB w + k)), (1, .int _), (2, .int _), (3, .ref (wB w + io))] []
  refine z_aload_n CX 3 dL_why_0 rfl rfl ?_
  refine z_iconst CX (v := 0) dL_why_1 (by decide) ?_
  refine z_aload_n CX 0 dL_why_2 rfl rfl ?_
  refine z_iload_n CX 1 dL_why_3 rfl rfl ?_
  refine z_iload_n CX 2 dL_why_4 rfl rfl ?_
  refine z_callV1 CX dL_why_5 cv_L_68 hC hx rfl rfl (Nat.le_of_ble_eq_true rfl) ⟨Nat.le_of_ble_eq_true rfl, Nat.le_of_ble_eq_true rfl⟩ ⟨Nat.le_of_ble_eq_true rfl, Nat.le_of_ble_eq_true rfl⟩ ?_
  refine z_i2l CX dL_why_8 rfl ?_
  refine z_last CX dL_why_9 ho vp_in_0 ?_
  refine z_goto CX 17 dL_why_10 (by decide) ?_
  refine z_iconst CX (v := 0) dL_why_17 (by decide) ?_
  refine z_widen (k9 := 1) (n9 := 6) (by omega) (by omega) ?_
  exact z_iret CX dL_why_18 rfl rfl rfl (Or.inl rfl)
set_option maxHeartbeats 4000000 in
set_option maxRecDepth 100000 in
theorem wx_why1 {l : Launch} {w : Wt} {hs hs9 : Hs} {n : Option Nat} {k io : Nat} {a : Int32} {b : Int32} {fs : List Value} (hx : hs k = some (.inr (5, fs))) (hC : Cx l w mX5_why 1 6 [.ref (wB w + k), .int a, .int b] hs n hs9 (exN 1)) : Cw l w mL_why [(0, 10, 13, 28)] 1 6 [.ref (wB w + k), .int a, .int b, .ref (wB w + io)] hs n hs9 none (some (.int 1)) := by
  refine Cw.of (d := mL_why) (hh := [(0, 10, 13, 28)]) (by decide +kernel) (Nat.le_of_ble_eq_true rfl) ?_
  intro p e R s m args below meth c CX htb hN
  replace CX : Ctx p s m args meth c R w RL "why" cL_why 5 (some .int) 8 134 1 6 := CX
  show ZW p l e R s m args below meth c w 5 _ _ 0 0 (MQ below (Qn w _ _ _) args s 1 6 (wA w)) 0 [(0, .ref (wB w + k)), (1, .int _), (2, .int _), (3, .ref (wB w + io))] []
  refine z_aload_n CX 3 dL_why_0 rfl rfl ?_
  refine z_iconst CX (v := 0) dL_why_1 (by decide) ?_
  refine z_aload_n CX 0 dL_why_2 rfl rfl ?_
  refine z_iload_n CX 1 dL_why_3 rfl rfl ?_
  refine z_iload_n CX 2 dL_why_4 rfl rfl ?_
  refine z_callVc CX htb hN (j := 1) [] [] ⟨0, 10, 13, 28⟩ rfl (by decide) (by decide) ⟨by omega, by omega⟩ (fun _ h => absurd h List.not_mem_nil) (wa_mem 552 (by decide +kernel) rfl) dL_why_5 cv_L_68 hC hx rfl rfl (Nat.le_of_ble_eq_true rfl) ⟨Nat.le_of_ble_eq_true rfl, Nat.le_of_ble_eq_true rfl⟩ ⟨Nat.le_of_ble_eq_true rfl, Nat.le_of_ble_eq_true rfl⟩ (fun q9 => ?_)
  refine z_astore CX dL_why_13 (by decide) ?_
  refine z_iconst CX (v := 1) dL_why_15 (by decide) ?_
  exact z_iret CX dL_why_16 rfl rfl rfl (Or.inl rfl)
