/-! the model: what there is, asked -/
theorem nv4 {f : Nat → Int32} {b : Nat} (h : f (24 + 10 * b + 3) = 1 ∨ f (24 + 10 * b + 3) = 3) : nv f b 4 = f (24 + 10 * b + 4) := if_pos h
theorem nv4n {f : Nat → Int32} {b : Nat} (h : ¬ (f (24 + 10 * b + 3) = 1 ∨ f (24 + 10 * b + 3) = 3)) : nv f b 4 = -1 := if_neg h
theorem nv5 {f : Nat → Int32} {b : Nat} (h : f (24 + 10 * b + 3) = 1 ∨ f (24 + 10 * b + 3) = 3) : nv f b 5 = f (24 + 10 * b + 5) := if_pos h
theorem nv5n {f : Nat → Int32} {b : Nat} (h : ¬ (f (24 + 10 * b + 3) = 1 ∨ f (24 + 10 * b + 3) = 3)) : nv f b 5 = -1 := if_neg h
theorem nv7 {f : Nat → Int32} {b : Nat} (h : f (24 + 10 * b + 3) = 2) : nv f b 7 = f (24 + 10 * b + 7) := if_pos h
theorem nv7n {f : Nat → Int32} {b : Nat} (h : ¬ f (24 + 10 * b + 3) = 2) : nv f b 7 = -1 := if_neg h
set_option maxHeartbeats 4000000 in
set_option maxRecDepth 100000 in
theorem m_about {l : Launch} {w : Wt} {hs : Hs} {n : Option Nat} {k : Nat} {u : Nat → Int32} {A : Nat → Nat → Int32} (hO : OKr (A 0)) (x : Int32) : Cn l w mX6_about 0 0 [.ref (wB w + k), .int x] (modH w hs k u A) n (modH w hs k (rs_about u A x).2.2.1 (rs_about u A x).2.2.2) n (some (.int (rs_about u A x).2.1)) := by
  by_cases h1 : 0 ≤ x ∧ x ≤ 13
  · rw [show rs_about u A x = (0, abV (A 0) x.toNatClampNeg, upd u 0 0, A) from if_pos h1]
    obtain ⟨i, i0, i1, i2, i3⟩ := nI_le9 (a := 0) (b := 13) (by omega) (by omega) h1
    rw [i3]
    subst i2
    match i, i1, h1 with
    | 0, _, h1 =>
      skip
      refine Cn.of (d := mX6_about) (by decide +kernel) (Nat.le_of_ble_eq_true rfl) ?_
      intro p e R s m args below meth c CX
      replace CX : Ctx p s m args meth c R w RX6 "about" cX6_about 2 (some .int) 3 64 0 0 := CX
      show ZW p l e R s m args below meth c w 2 _ _ 0 0 (MQ below (Qn w _ _ _) args s 0 0 (wA w)) 0 [(0, .ref (wB w + k)), (1, .int _)] []
      refine z_aload_n CX 0 dX6_about_0 rfl rfl ?_
      refine z_iload_n CX 1 dX6_about_1 rfl rfl ?_
      refine z_i2l CX dX6_about_2 rfl ?_
      refine z_lconst CX (v := 0) dX6_about_3 (by decide) ?_
      refine z_ldc2 CX (v := 13) dX6_about_4 (wa_mem 1005 (by decide +kernel) rfl) ?_
      refine z_callS1 CX dX6_about_7 cs_X6_42 (c_inI (0) (13) _ _ _ (by decide) (by decide)) rfl rfl (Nat.le_of_ble_eq_true rfl) ⟨Nat.le_of_ble_eq_true rfl, Nat.le_of_ble_eq_true rfl⟩ ⟨Nat.le_refl _, Nat.le_refl _⟩ ?_
      refine z_if_eq CX 17 dX6_about_10 (by decide) (fun q9 => absurd q9 (by rw [bI_1 h1]; decide)) (fun _ => ?_)
      refine z_iconst CX (v := 0) dX6_about_13 (by decide) ?_
      refine z_goto CX 18 dX6_about_14 (by decide) ?_
      refine z_callV1 CX dX6_about_18 cv_X6_122 (c_ref _) mo_0 rfl rfl (Nat.le_of_ble_eq_true rfl) ⟨Nat.le_of_ble_eq_true rfl, Nat.le_of_ble_eq_true rfl⟩ ⟨Nat.le_refl _, Nat.le_refl _⟩ ?_
      refine z_if_eq CX 26 dX6_about_21 (by decide) (fun _ => ?_) (fun q9 => absurd (by decide) q9)
      refine z_iload_n CX 1 dX6_about_26 rfl rfl ?_
      refine z_tabIn CX 96 dX6_about_27 (by decide) (by decide) rfl (by decide) ?_
      refine z_aload_n CX 0 dX6_about_96 rfl rfl ?_
      refine z_get CX dX6_about_97 fg_X6_7 mo_0 rfl ?_
      refine z_sipush CX (v := 146) dX6_about_100 (by decide) ?_
      refine z_ia CX (j := 146) dX6_about_103 mo_1 rfl (by omega) (by decide) ?_
      exact z_iret CX dX6_about_104 rfl (congrArg Value.int (by rfl)) rfl (Or.inl rfl)
    | 1, _, h1 =>
      skip
      refine Cn.of (d := mX6_about) (by decide +kernel) (Nat.le_of_ble_eq_true rfl) ?_
      intro p e R s m args below meth c CX
      replace CX : Ctx p s m args meth c R w RX6 "about" cX6_about 2 (some .int) 3 64 0 0 := CX
      show ZW p l e R s m args below meth c w 2 _ _ 0 0 (MQ below (Qn w _ _ _) args s 0 0 (wA w)) 0 [(0, .ref (wB w + k)), (1, .int _)] []
      refine z_aload_n CX 0 dX6_about_0 rfl rfl ?_
      refine z_iload_n CX 1 dX6_about_1 rfl rfl ?_
      refine z_i2l CX dX6_about_2 rfl ?_
      refine z_lconst CX (v := 0) dX6_about_3 (by decide) ?_
      refine z_ldc2 CX (v := 13) dX6_about_4 (wa_mem 1005 (by decide +kernel) rfl) ?_
      refine z_callS1 CX dX6_about_7 cs_X6_42 (c_inI (0) (13) _ _ _ (by decide) (by decide)) rfl rfl (Nat.le_of_ble_eq_true rfl) ⟨Nat.le_of_ble_eq_true rfl, Nat.le_of_ble_eq_true rfl⟩ ⟨Nat.le_refl _, Nat.le_refl _⟩ ?_
      refine z_if_eq CX 17 dX6_about_10 (by decide) (fun q9 => absurd q9 (by rw [bI_1 h1]; decide)) (fun _ => ?_)
      refine z_iconst CX (v := 0) dX6_about_13 (by decide) ?_
      refine z_goto CX 18 dX6_about_14 (by decide) ?_
      refine z_callV1 CX dX6_about_18 cv_X6_122 (c_ref _) mo_0 rfl rfl (Nat.le_of_ble_eq_true rfl) ⟨Nat.le_of_ble_eq_true rfl, Nat.le_of_ble_eq_true rfl⟩ ⟨Nat.le_refl _, Nat.le_refl _⟩ ?_
      refine z_if_eq CX 26 dX6_about_21 (by decide) (fun _ => ?_) (fun q9 => absurd (by decide) q9)
      refine z_iload_n CX 1 dX6_about_26 rfl rfl ?_
      refine z_tabIn CX 105 dX6_about_27 (by decide) (by decide) rfl (by decide) ?_
      refine z_aload_n CX 0 dX6_about_105 rfl rfl ?_
      refine z_get CX dX6_about_106 fg_X6_7 mo_0 rfl ?_
      refine z_sipush CX (v := 147) dX6_about_109 (by decide) ?_
      refine z_ia CX (j := 147) dX6_about_112 mo_1 rfl (by omega) (by decide) ?_
      exact z_iret CX dX6_about_113 rfl (congrArg Value.int (by rfl)) rfl (Or.inl rfl)
    | 2, _, h1 =>
      skip
      refine Cn.of (d := mX6_about) (by decide +kernel) (Nat.le_of_ble_eq_true rfl) ?_
      intro p e R s m args below meth c CX
      replace CX : Ctx p s m args meth c R w RX6 "about" cX6_about 2 (some .int) 3 64 0 0 := CX
      show ZW p l e R s m args below meth c w 2 _ _ 0 0 (MQ below (Qn w _ _ _) args s 0 0 (wA w)) 0 [(0, .ref (wB w + k)), (1, .int _)] []
      refine z_aload_n CX 0 dX6_about_0 rfl rfl ?_
      refine z_iload_n CX 1 dX6_about_1 rfl rfl ?_
      refine z_i2l CX dX6_about_2 rfl ?_
      refine z_lconst CX (v := 0) dX6_about_3 (by decide) ?_
      refine z_ldc2 CX (v := 13) dX6_about_4 (wa_mem 1005 (by decide +kernel) rfl) ?_
      refine z_callS1 CX dX6_about_7 cs_X6_42 (c_inI (0) (13) _ _ _ (by decide) (by decide)) rfl rfl (Nat.le_of_ble_eq_true rfl) ⟨Nat.le_of_ble_eq_true rfl, Nat.le_of_ble_eq_true rfl⟩ ⟨Nat.le_refl _, Nat.le_refl _⟩ ?_
      refine z_if_eq CX 17 dX6_about_10 (by decide) (fun q9 => absurd q9 (by rw [bI_1 h1]; decide)) (fun _ => ?_)
      refine z_iconst CX (v := 0) dX6_about_13 (by decide) ?_
      refine z_goto CX 18 dX6_about_14 (by decide) ?_
      refine z_callV1 CX dX6_about_18 cv_X6_122 (c_ref _) mo_0 rfl rfl (Nat.le_of_ble_eq_true rfl) ⟨Nat.le_of_ble_eq_true rfl, Nat.le_of_ble_eq_true rfl⟩ ⟨Nat.le_refl _, Nat.le_refl _⟩ ?_
      refine z_if_eq CX 26 dX6_about_21 (by decide) (fun _ => ?_) (fun q9 => absurd (by decide) q9)
      refine z_iload_n CX 1 dX6_about_26 rfl rfl ?_
      refine z_tabIn CX 169 dX6_about_27 (by decide) (by decide) rfl (by decide) ?_
      refine z_aload_n CX 0 dX6_about_169 rfl rfl ?_
      refine z_get CX dX6_about_170 fg_X6_7 mo_0 rfl ?_
      refine z_iload_n CX 1 dX6_about_173 rfl rfl ?_
      refine z_iconst CX (v := 2) dX6_about_174 (by decide) ?_
      refine z_isub CX dX6_about_175 ?_
      refine z_callS1 CX dX6_about_176 cs_X6_82 (Cn.row mq_0 mq_0 (a := k + 1) (c_inSt hO.1.2.1 (by have := hO.2.2; omega) _)) rfl rfl (Nat.le_of_ble_eq_true rfl) ⟨Nat.le_of_ble_eq_true rfl, Nat.le_of_ble_eq_true rfl⟩ ⟨Nat.le_refl _, Nat.le_refl _⟩ ?_
      exact z_iret CX dX6_about_179 rfl (congrArg Value.int (by rfl)) rfl (Or.inl rfl)
    | 3, _, h1 =>
      skip
      refine Cn.of (d := mX6_about) (by decide +kernel) (Nat.le_of_ble_eq_true rfl) ?_
      intro p e R s m args below meth c CX
      replace CX : Ctx p s m args meth c R w RX6 "about" cX6_about 2 (some .int) 3 64 0 0 := CX
      show ZW p l e R s m args below meth c w 2 _ _ 0 0 (MQ below (Qn w _ _ _) args s 0 0 (wA w)) 0 [(0, .ref (wB w + k)), (1, .int _)] []
      refine z_aload_n CX 0 dX6_about_0 rfl rfl ?_
      refine z_iload_n CX 1 dX6_about_1 rfl rfl ?_
      refine z_i2l CX dX6_about_2 rfl ?_
      refine z_lconst CX (v := 0) dX6_about_3 (by decide) ?_
      refine z_ldc2 CX (v := 13) dX6_about_4 (wa_mem 1005 (by decide +kernel) rfl) ?_
      refine z_callS1 CX dX6_about_7 cs_X6_42 (c_inI (0) (13) _ _ _ (by decide) (by decide)) rfl rfl (Nat.le_of_ble_eq_true rfl) ⟨Nat.le_of_ble_eq_true rfl, Nat.le_of_ble_eq_true rfl⟩ ⟨Nat.le_refl _, Nat.le_refl _⟩ ?_
      refine z_if_eq CX 17 dX6_about_10 (by decide) (fun q9 => absurd q9 (by rw [bI_1 h1]; decide)) (fun _ => ?_)
      refine z_iconst CX (v := 0) dX6_about_13 (by decide) ?_
      refine z_goto CX 18 dX6_about_14 (by decide) ?_
      refine z_callV1 CX dX6_about_18 cv_X6_122 (c_ref _) mo_0 rfl rfl (Nat.le_of_ble_eq_true rfl) ⟨Nat.le_of_ble_eq_true rfl, Nat.le_of_ble_eq_true rfl⟩ ⟨Nat.le_refl _, Nat.le_refl _⟩ ?_
      refine z_if_eq CX 26 dX6_about_21 (by decide) (fun _ => ?_) (fun q9 => absurd (by decide) q9)
      refine z_iload_n CX 1 dX6_about_26 rfl rfl ?_
      refine z_tabIn CX 169 dX6_about_27 (by decide) (by decide) rfl (by decide) ?_
      refine z_aload_n CX 0 dX6_about_169 rfl rfl ?_
      refine z_get CX dX6_about_170 fg_X6_7 mo_0 rfl ?_
      refine z_iload_n CX 1 dX6_about_173 rfl rfl ?_
      refine z_iconst CX (v := 2) dX6_about_174 (by decide) ?_
      refine z_isub CX dX6_about_175 ?_
      refine z_callS1 CX dX6_about_176 cs_X6_82 (Cn.row mq_0 mq_0 (a := k + 1) (c_inSt hO.1.2.1 (by have := hO.2.2; omega) _)) rfl rfl (Nat.le_of_ble_eq_true rfl) ⟨Nat.le_of_ble_eq_true rfl, Nat.le_of_ble_eq_true rfl⟩ ⟨Nat.le_refl _, Nat.le_refl _⟩ ?_
      exact z_iret CX dX6_about_179 rfl (congrArg Value.int (by rfl)) rfl (Or.inl rfl)
    | 4, _, h1 =>
      skip
      refine Cn.of (d := mX6_about) (by decide +kernel) (Nat.le_of_ble_eq_true rfl) ?_
      intro p e R s m args below meth c CX
      replace CX : Ctx p s m args meth c R w RX6 "about" cX6_about 2 (some .int) 3 64 0 0 := CX
      show ZW p l e R s m args below meth c w 2 _ _ 0 0 (MQ below (Qn w _ _ _) args s 0 0 (wA w)) 0 [(0, .ref (wB w + k)), (1, .int _)] []
      refine z_aload_n CX 0 dX6_about_0 rfl rfl ?_
      refine z_iload_n CX 1 dX6_about_1 rfl rfl ?_
      refine z_i2l CX dX6_about_2 rfl ?_
      refine z_lconst CX (v := 0) dX6_about_3 (by decide) ?_
      refine z_ldc2 CX (v := 13) dX6_about_4 (wa_mem 1005 (by decide +kernel) rfl) ?_
      refine z_callS1 CX dX6_about_7 cs_X6_42 (c_inI (0) (13) _ _ _ (by decide) (by decide)) rfl rfl (Nat.le_of_ble_eq_true rfl) ⟨Nat.le_of_ble_eq_true rfl, Nat.le_of_ble_eq_true rfl⟩ ⟨Nat.le_refl _, Nat.le_refl _⟩ ?_
      refine z_if_eq CX 17 dX6_about_10 (by decide) (fun q9 => absurd q9 (by rw [bI_1 h1]; decide)) (fun _ => ?_)
      refine z_iconst CX (v := 0) dX6_about_13 (by decide) ?_
      refine z_goto CX 18 dX6_about_14 (by decide) ?_
      refine z_callV1 CX dX6_about_18 cv_X6_122 (c_ref _) mo_0 rfl rfl (Nat.le_of_ble_eq_true rfl) ⟨Nat.le_of_ble_eq_true rfl, Nat.le_of_ble_eq_true rfl⟩ ⟨Nat.le_refl _, Nat.le_refl _⟩ ?_
      refine z_if_eq CX 26 dX6_about_21 (by decide) (fun _ => ?_) (fun q9 => absurd (by decide) q9)
      refine z_iload_n CX 1 dX6_about_26 rfl rfl ?_
      refine z_tabIn CX 169 dX6_about_27 (by decide) (by decide) rfl (by decide) ?_
      refine z_aload_n CX 0 dX6_about_169 rfl rfl ?_
      refine z_get CX dX6_about_170 fg_X6_7 mo_0 rfl ?_
      refine z_iload_n CX 1 dX6_about_173 rfl rfl ?_
      refine z_iconst CX (v := 2) dX6_about_174 (by decide) ?_
      refine z_isub CX dX6_about_175 ?_
      refine z_callS1 CX dX6_about_176 cs_X6_82 (Cn.row mq_0 mq_0 (a := k + 1) (c_inSt hO.1.2.1 (by have := hO.2.2; omega) _)) rfl rfl (Nat.le_of_ble_eq_true rfl) ⟨Nat.le_of_ble_eq_true rfl, Nat.le_of_ble_eq_true rfl⟩ ⟨Nat.le_refl _, Nat.le_refl _⟩ ?_
      exact z_iret CX dX6_about_179 rfl (congrArg Value.int (by rfl)) rfl (Or.inl rfl)
    | 5, _, h1 =>
      skip
      refine Cn.of (d := mX6_about) (by decide +kernel) (Nat.le_of_ble_eq_true rfl) ?_
      intro p e R s m args below meth c CX
      replace CX : Ctx p s m args meth c R w RX6 "about" cX6_about 2 (some .int) 3 64 0 0 := CX
      show ZW p l e R s m args below meth c w 2 _ _ 0 0 (MQ below (Qn w _ _ _) args s 0 0 (wA w)) 0 [(0, .ref (wB w + k)), (1, .int _)] []
      refine z_aload_n CX 0 dX6_about_0 rfl rfl ?_
      refine z_iload_n CX 1 dX6_about_1 rfl rfl ?_
      refine z_i2l CX dX6_about_2 rfl ?_
      refine z_lconst CX (v := 0) dX6_about_3 (by decide) ?_
      refine z_ldc2 CX (v := 13) dX6_about_4 (wa_mem 1005 (by decide +kernel) rfl) ?_
      refine z_callS1 CX dX6_about_7 cs_X6_42 (c_inI (0) (13) _ _ _ (by decide) (by decide)) rfl rfl (Nat.le_of_ble_eq_true rfl) ⟨Nat.le_of_ble_eq_true rfl, Nat.le_of_ble_eq_true rfl⟩ ⟨Nat.le_refl _, Nat.le_refl _⟩ ?_
      refine z_if_eq CX 17 dX6_about_10 (by decide) (fun q9 => absurd q9 (by rw [bI_1 h1]; decide)) (fun _ => ?_)
      refine z_iconst CX (v := 0) dX6_about_13 (by decide) ?_
      refine z_goto CX 18 dX6_about_14 (by decide) ?_
      refine z_callV1 CX dX6_about_18 cv_X6_122 (c_ref _) mo_0 rfl rfl (Nat.le_of_ble_eq_true rfl) ⟨Nat.le_of_ble_eq_true rfl, Nat.le_of_ble_eq_true rfl⟩ ⟨Nat.le_refl _, Nat.le_refl _⟩ ?_
      refine z_if_eq CX 26 dX6_about_21 (by decide) (fun _ => ?_) (fun q9 => absurd (by decide) q9)
      refine z_iload_n CX 1 dX6_about_26 rfl rfl ?_
      refine z_tabIn CX 169 dX6_about_27 (by decide) (by decide) rfl (by decide) ?_
      refine z_aload_n CX 0 dX6_about_169 rfl rfl ?_
      refine z_get CX dX6_about_170 fg_X6_7 mo_0 rfl ?_
      refine z_iload_n CX 1 dX6_about_173 rfl rfl ?_
      refine z_iconst CX (v := 2) dX6_about_174 (by decide) ?_
      refine z_isub CX dX6_about_175 ?_
      refine z_callS1 CX dX6_about_176 cs_X6_82 (Cn.row mq_0 mq_0 (a := k + 1) (c_inSt hO.1.2.1 (by have := hO.2.2; omega) _)) rfl rfl (Nat.le_of_ble_eq_true rfl) ⟨Nat.le_of_ble_eq_true rfl, Nat.le_of_ble_eq_true rfl⟩ ⟨Nat.le_refl _, Nat.le_refl _⟩ ?_
      exact z_iret CX dX6_about_179 rfl (congrArg Value.int (by rfl)) rfl (Or.inl rfl)
    | 6, _, h1 =>
      skip
      refine Cn.of (d := mX6_about) (by decide +kernel) (Nat.le_of_ble_eq_true rfl) ?_
      intro p e R s m args below meth c CX
      replace CX : Ctx p s m args meth c R w RX6 "about" cX6_about 2 (some .int) 3 64 0 0 := CX
      show ZW p l e R s m args below meth c w 2 _ _ 0 0 (MQ below (Qn w _ _ _) args s 0 0 (wA w)) 0 [(0, .ref (wB w + k)), (1, .int _)] []
      refine z_aload_n CX 0 dX6_about_0 rfl rfl ?_
      refine z_iload_n CX 1 dX6_about_1 rfl rfl ?_
      refine z_i2l CX dX6_about_2 rfl ?_
      refine z_lconst CX (v := 0) dX6_about_3 (by decide) ?_
      refine z_ldc2 CX (v := 13) dX6_about_4 (wa_mem 1005 (by decide +kernel) rfl) ?_
      refine z_callS1 CX dX6_about_7 cs_X6_42 (c_inI (0) (13) _ _ _ (by decide) (by decide)) rfl rfl (Nat.le_of_ble_eq_true rfl) ⟨Nat.le_of_ble_eq_true rfl, Nat.le_of_ble_eq_true rfl⟩ ⟨Nat.le_refl _, Nat.le_refl _⟩ ?_
      refine z_if_eq CX 17 dX6_about_10 (by decide) (fun q9 => absurd q9 (by rw [bI_1 h1]; decide)) (fun _ => ?_)
      refine z_iconst CX (v := 0) dX6_about_13 (by decide) ?_
      refine z_goto CX 18 dX6_about_14 (by decide) ?_
      refine z_callV1 CX dX6_about_18 cv_X6_122 (c_ref _) mo_0 rfl rfl (Nat.le_of_ble_eq_true rfl) ⟨Nat.le_of_ble_eq_true rfl, Nat.le_of_ble_eq_true rfl⟩ ⟨Nat.le_refl _, Nat.le_refl _⟩ ?_
      refine z_if_eq CX 26 dX6_about_21 (by decide) (fun _ => ?_) (fun q9 => absurd (by decide) q9)
      refine z_iload_n CX 1 dX6_about_26 rfl rfl ?_
      refine z_tabIn CX 169 dX6_about_27 (by decide) (by decide) rfl (by decide) ?_
      refine z_aload_n CX 0 dX6_about_169 rfl rfl ?_
      refine z_get CX dX6_about_170 fg_X6_7 mo_0 rfl ?_
      refine z_iload_n CX 1 dX6_about_173 rfl rfl ?_
      refine z_iconst CX (v := 2) dX6_about_174 (by decide) ?_
      refine z_isub CX dX6_about_175 ?_
      refine z_callS1 CX dX6_about_176 cs_X6_82 (Cn.row mq_0 mq_0 (a := k + 1) (c_inSt hO.1.2.1 (by have := hO.2.2; omega) _)) rfl rfl (Nat.le_of_ble_eq_true rfl) ⟨Nat.le_of_ble_eq_true rfl, Nat.le_of_ble_eq_true rfl⟩ ⟨Nat.le_refl _, Nat.le_refl _⟩ ?_
      exact z_iret CX dX6_about_179 rfl (congrArg Value.int (by rfl)) rfl (Or.inl rfl)
    | 7, _, h1 =>
      skip
      refine Cn.of (d := mX6_about) (by decide +kernel) (Nat.le_of_ble_eq_true rfl) ?_
      intro p e R s m args below meth c CX
      replace CX : Ctx p s m args meth c R w RX6 "about" cX6_about 2 (some .int) 3 64 0 0 := CX
      show ZW p l e R s m args below meth c w 2 _ _ 0 0 (MQ below (Qn w _ _ _) args s 0 0 (wA w)) 0 [(0, .ref (wB w + k)), (1, .int _)] []
      refine z_aload_n CX 0 dX6_about_0 rfl rfl ?_
      refine z_iload_n CX 1 dX6_about_1 rfl rfl ?_
      refine z_i2l CX dX6_about_2 rfl ?_
      refine z_lconst CX (v := 0) dX6_about_3 (by decide) ?_
      refine z_ldc2 CX (v := 13) dX6_about_4 (wa_mem 1005 (by decide +kernel) rfl) ?_
      refine z_callS1 CX dX6_about_7 cs_X6_42 (c_inI (0) (13) _ _ _ (by decide) (by decide)) rfl rfl (Nat.le_of_ble_eq_true rfl) ⟨Nat.le_of_ble_eq_true rfl, Nat.le_of_ble_eq_true rfl⟩ ⟨Nat.le_refl _, Nat.le_refl _⟩ ?_
      refine z_if_eq CX 17 dX6_about_10 (by decide) (fun q9 => absurd q9 (by rw [bI_1 h1]; decide)) (fun _ => ?_)
      refine z_iconst CX (v := 0) dX6_about_13 (by decide) ?_
      refine z_goto CX 18 dX6_about_14 (by decide) ?_
      refine z_callV1 CX dX6_about_18 cv_X6_122 (c_ref _) mo_0 rfl rfl (Nat.le_of_ble_eq_true rfl) ⟨Nat.le_of_ble_eq_true rfl, Nat.le_of_ble_eq_true rfl⟩ ⟨Nat.le_refl _, Nat.le_refl _⟩ ?_
      refine z_if_eq CX 26 dX6_about_21 (by decide) (fun _ => ?_) (fun q9 => absurd (by decide) q9)
      refine z_iload_n CX 1 dX6_about_26 rfl rfl ?_
      refine z_tabIn CX 114 dX6_about_27 (by decide) (by decide) rfl (by decide) ?_
      refine z_aload_n CX 0 dX6_about_114 rfl rfl ?_
      refine z_get CX dX6_about_115 fg_X6_7 mo_0 rfl ?_
      refine z_sipush CX (v := 148) dX6_about_118 (by decide) ?_
      refine z_ia CX (j := 148) dX6_about_121 mo_1 rfl (by omega) (by decide) ?_
      exact z_iret CX dX6_about_122 rfl (congrArg Value.int (by rfl)) rfl (Or.inl rfl)
    | 8, _, h1 =>
      skip
      refine Cn.of (d := mX6_about) (by decide +kernel) (Nat.le_of_ble_eq_true rfl) ?_
      intro p e R s m args below meth c CX
      replace CX : Ctx p s m args meth c R w RX6 "about" cX6_about 2 (some .int) 3 64 0 0 := CX
      show ZW p l e R s m args below meth c w 2 _ _ 0 0 (MQ below (Qn w _ _ _) args s 0 0 (wA w)) 0 [(0, .ref (wB w + k)), (1, .int _)] []
      refine z_aload_n CX 0 dX6_about_0 rfl rfl ?_
      refine z_iload_n CX 1 dX6_about_1 rfl rfl ?_
      refine z_i2l CX dX6_about_2 rfl ?_
      refine z_lconst CX (v := 0) dX6_about_3 (by decide) ?_
      refine z_ldc2 CX (v := 13) dX6_about_4 (wa_mem 1005 (by decide +kernel) rfl) ?_
      refine z_callS1 CX dX6_about_7 cs_X6_42 (c_inI (0) (13) _ _ _ (by decide) (by decide)) rfl rfl (Nat.le_of_ble_eq_true rfl) ⟨Nat.le_of_ble_eq_true rfl, Nat.le_of_ble_eq_true rfl⟩ ⟨Nat.le_refl _, Nat.le_refl _⟩ ?_
      refine z_if_eq CX 17 dX6_about_10 (by decide) (fun q9 => absurd q9 (by rw [bI_1 h1]; decide)) (fun _ => ?_)
      refine z_iconst CX (v := 0) dX6_about_13 (by decide) ?_
      refine z_goto CX 18 dX6_about_14 (by decide) ?_
      refine z_callV1 CX dX6_about_18 cv_X6_122 (c_ref _) mo_0 rfl rfl (Nat.le_of_ble_eq_true rfl) ⟨Nat.le_of_ble_eq_true rfl, Nat.le_of_ble_eq_true rfl⟩ ⟨Nat.le_refl _, Nat.le_refl _⟩ ?_
      refine z_if_eq CX 26 dX6_about_21 (by decide) (fun _ => ?_) (fun q9 => absurd (by decide) q9)
      refine z_iload_n CX 1 dX6_about_26 rfl rfl ?_
      refine z_tabIn CX 123 dX6_about_27 (by decide) (by decide) rfl (by decide) ?_
      refine z_aload_n CX 0 dX6_about_123 rfl rfl ?_
      refine z_get CX dX6_about_124 fg_X6_7 mo_0 rfl ?_
      refine z_sipush CX (v := 149) dX6_about_127 (by decide) ?_
      refine z_ia CX (j := 149) dX6_about_130 mo_1 rfl (by omega) (by decide) ?_
      exact z_iret CX dX6_about_131 rfl (congrArg Value.int (by rfl)) rfl (Or.inl rfl)
    | 9, _, h1 =>
      skip
      refine Cn.of (d := mX6_about) (by decide +kernel) (Nat.le_of_ble_eq_true rfl) ?_
      intro p e R s m args below meth c CX
      replace CX : Ctx p s m args meth c R w RX6 "about" cX6_about 2 (some .int) 3 64 0 0 := CX
      show ZW p l e R s m args below meth c w 2 _ _ 0 0 (MQ below (Qn w _ _ _) args s 0 0 (wA w)) 0 [(0, .ref (wB w + k)), (1, .int _)] []
      refine z_aload_n CX 0 dX6_about_0 rfl rfl ?_
      refine z_iload_n CX 1 dX6_about_1 rfl rfl ?_
      refine z_i2l CX dX6_about_2 rfl ?_
      refine z_lconst CX (v := 0) dX6_about_3 (by decide) ?_
      refine z_ldc2 CX (v := 13) dX6_about_4 (wa_mem 1005 (by decide +kernel) rfl) ?_
      refine z_callS1 CX dX6_about_7 cs_X6_42 (c_inI (0) (13) _ _ _ (by decide) (by decide)) rfl rfl (Nat.le_of_ble_eq_true rfl) ⟨Nat.le_of_ble_eq_true rfl, Nat.le_of_ble_eq_true rfl⟩ ⟨Nat.le_refl _, Nat.le_refl _⟩ ?_
      refine z_if_eq CX 17 dX6_about_10 (by decide) (fun q9 => absurd q9 (by rw [bI_1 h1]; decide)) (fun _ => ?_)
      refine z_iconst CX (v := 0) dX6_about_13 (by decide) ?_
      refine z_goto CX 18 dX6_about_14 (by decide) ?_
      refine z_callV1 CX dX6_about_18 cv_X6_122 (c_ref _) mo_0 rfl rfl (Nat.le_of_ble_eq_true rfl) ⟨Nat.le_of_ble_eq_true rfl, Nat.le_of_ble_eq_true rfl⟩ ⟨Nat.le_refl _, Nat.le_refl _⟩ ?_
      refine z_if_eq CX 26 dX6_about_21 (by decide) (fun _ => ?_) (fun q9 => absurd (by decide) q9)
      refine z_iload_n CX 1 dX6_about_26 rfl rfl ?_
      refine z_tabIn CX 132 dX6_about_27 (by decide) (by decide) rfl (by decide) ?_
      refine z_aload_n CX 0 dX6_about_132 rfl rfl ?_
      refine z_get CX dX6_about_133 fg_X6_7 mo_0 rfl ?_
      refine z_sipush CX (v := 150) dX6_about_136 (by decide) ?_
      refine z_ia CX (j := 150) dX6_about_139 mo_1 rfl (by omega) (by decide) ?_
      exact z_iret CX dX6_about_140 rfl (congrArg Value.int (by rfl)) rfl (Or.inl rfl)
    | 10, _, h1 =>
      skip
      refine Cn.of (d := mX6_about) (by decide +kernel) (Nat.le_of_ble_eq_true rfl) ?_
      intro p e R s m args below meth c CX
      replace CX : Ctx p s m args meth c R w RX6 "about" cX6_about 2 (some .int) 3 64 0 0 := CX
      show ZW p l e R s m args below meth c w 2 _ _ 0 0 (MQ below (Qn w _ _ _) args s 0 0 (wA w)) 0 [(0, .ref (wB w + k)), (1, .int _)] []
      refine z_aload_n CX 0 dX6_about_0 rfl rfl ?_
      refine z_iload_n CX 1 dX6_about_1 rfl rfl ?_
      refine z_i2l CX dX6_about_2 rfl ?_
      refine z_lconst CX (v := 0) dX6_about_3 (by decide) ?_
      refine z_ldc2 CX (v := 13) dX6_about_4 (wa_mem 1005 (by decide +kernel) rfl) ?_
      refine z_callS1 CX dX6_about_7 cs_X6_42 (c_inI (0) (13) _ _ _ (by decide) (by decide)) rfl rfl (Nat.le_of_ble_eq_true rfl) ⟨Nat.le_of_ble_eq_true rfl, Nat.le_of_ble_eq_true rfl⟩ ⟨Nat.le_refl _, Nat.le_refl _⟩ ?_
      refine z_if_eq CX 17 dX6_about_10 (by decide) (fun q9 => absurd q9 (by rw [bI_1 h1]; decide)) (fun _ => ?_)
      refine z_iconst CX (v := 0) dX6_about_13 (by decide) ?_
      refine z_goto CX 18 dX6_about_14 (by decide) ?_
      refine z_callV1 CX dX6_about_18 cv_X6_122 (c_ref _) mo_0 rfl rfl (Nat.le_of_ble_eq_true rfl) ⟨Nat.le_of_ble_eq_true rfl, Nat.le_of_ble_eq_true rfl⟩ ⟨Nat.le_refl _, Nat.le_refl _⟩ ?_
      refine z_if_eq CX 26 dX6_about_21 (by decide) (fun _ => ?_) (fun q9 => absurd (by decide) q9)
      refine z_iload_n CX 1 dX6_about_26 rfl rfl ?_
      refine z_tabIn CX 141 dX6_about_27 (by decide) (by decide) rfl (by decide) ?_
      refine z_aload_n CX 0 dX6_about_141 rfl rfl ?_
      refine z_get CX dX6_about_142 fg_X6_7 mo_0 rfl ?_
      refine z_sipush CX (v := 151) dX6_about_145 (by decide) ?_
      refine z_ia CX (j := 151) dX6_about_148 mo_1 rfl (by omega) (by decide) ?_
      exact z_iret CX dX6_about_149 rfl (congrArg Value.int (by rfl)) rfl (Or.inl rfl)
    | 11, _, h1 =>
      skip
      refine Cn.of (d := mX6_about) (by decide +kernel) (Nat.le_of_ble_eq_true rfl) ?_
      intro p e R s m args below meth c CX
      replace CX : Ctx p s m args meth c R w RX6 "about" cX6_about 2 (some .int) 3 64 0 0 := CX
      show ZW p l e R s m args below meth c w 2 _ _ 0 0 (MQ below (Qn w _ _ _) args s 0 0 (wA w)) 0 [(0, .ref (wB w + k)), (1, .int _)] []
      refine z_aload_n CX 0 dX6_about_0 rfl rfl ?_
      refine z_iload_n CX 1 dX6_about_1 rfl rfl ?_
      refine z_i2l CX dX6_about_2 rfl ?_
      refine z_lconst CX (v := 0) dX6_about_3 (by decide) ?_
      refine z_ldc2 CX (v := 13) dX6_about_4 (wa_mem 1005 (by decide +kernel) rfl) ?_
      refine z_callS1 CX dX6_about_7 cs_X6_42 (c_inI (0) (13) _ _ _ (by decide) (by decide)) rfl rfl (Nat.le_of_ble_eq_true rfl) ⟨Nat.le_of_ble_eq_true rfl, Nat.le_of_ble_eq_true rfl⟩ ⟨Nat.le_refl _, Nat.le_refl _⟩ ?_
      refine z_if_eq CX 17 dX6_about_10 (by decide) (fun q9 => absurd q9 (by rw [bI_1 h1]; decide)) (fun _ => ?_)
      refine z_iconst CX (v := 0) dX6_about_13 (by decide) ?_
      refine z_goto CX 18 dX6_about_14 (by decide) ?_
      refine z_callV1 CX dX6_about_18 cv_X6_122 (c_ref _) mo_0 rfl rfl (Nat.le_of_ble_eq_true rfl) ⟨Nat.le_of_ble_eq_true rfl, Nat.le_of_ble_eq_true rfl⟩ ⟨Nat.le_refl _, Nat.le_refl _⟩ ?_
      refine z_if_eq CX 26 dX6_about_21 (by decide) (fun _ => ?_) (fun q9 => absurd (by decide) q9)
      refine z_iload_n CX 1 dX6_about_26 rfl rfl ?_
      refine z_tabIn CX 150 dX6_about_27 (by decide) (by decide) rfl (by decide) ?_
      refine z_aload_n CX 0 dX6_about_150 rfl rfl ?_
      refine z_get CX dX6_about_151 fg_X6_7 mo_0 rfl ?_
      refine z_sipush CX (v := 152) dX6_about_154 (by decide) ?_
      refine z_ia CX (j := 152) dX6_about_157 mo_1 rfl (by omega) (by decide) ?_
      exact z_iret CX dX6_about_158 rfl (congrArg Value.int (by rfl)) rfl (Or.inl rfl)
    | 12, _, h1 =>
      skip
      refine Cn.of (d := mX6_about) (by decide +kernel) (Nat.le_of_ble_eq_true rfl) ?_
      intro p e R s m args below meth c CX
      replace CX : Ctx p s m args meth c R w RX6 "about" cX6_about 2 (some .int) 3 64 0 0 := CX
      show ZW p l e R s m args below meth c w 2 _ _ 0 0 (MQ below (Qn w _ _ _) args s 0 0 (wA w)) 0 [(0, .ref (wB w + k)), (1, .int _)] []
      refine z_aload_n CX 0 dX6_about_0 rfl rfl ?_
      refine z_iload_n CX 1 dX6_about_1 rfl rfl ?_
      refine z_i2l CX dX6_about_2 rfl ?_
      refine z_lconst CX (v := 0) dX6_about_3 (by decide) ?_
      refine z_ldc2 CX (v := 13) dX6_about_4 (wa_mem 1005 (by decide +kernel) rfl) ?_
      refine z_callS1 CX dX6_about_7 cs_X6_42 (c_inI (0) (13) _ _ _ (by decide) (by decide)) rfl rfl (Nat.le_of_ble_eq_true rfl) ⟨Nat.le_of_ble_eq_true rfl, Nat.le_of_ble_eq_true rfl⟩ ⟨Nat.le_refl _, Nat.le_refl _⟩ ?_
      refine z_if_eq CX 17 dX6_about_10 (by decide) (fun q9 => absurd q9 (by rw [bI_1 h1]; decide)) (fun _ => ?_)
      refine z_iconst CX (v := 0) dX6_about_13 (by decide) ?_
      refine z_goto CX 18 dX6_about_14 (by decide) ?_
      refine z_callV1 CX dX6_about_18 cv_X6_122 (c_ref _) mo_0 rfl rfl (Nat.le_of_ble_eq_true rfl) ⟨Nat.le_of_ble_eq_true rfl, Nat.le_of_ble_eq_true rfl⟩ ⟨Nat.le_refl _, Nat.le_refl _⟩ ?_
      refine z_if_eq CX 26 dX6_about_21 (by decide) (fun _ => ?_) (fun q9 => absurd (by decide) q9)
      refine z_iload_n CX 1 dX6_about_26 rfl rfl ?_
      refine z_tabIn CX 159 dX6_about_27 (by decide) (by decide) rfl (by decide) ?_
      refine z_aload_n CX 0 dX6_about_159 rfl rfl ?_
      refine z_callV1 CX dX6_about_160 cv_X6_218 c_points mo_0 rfl rfl (Nat.le_of_ble_eq_true rfl) ⟨Nat.le_of_ble_eq_true rfl, Nat.le_of_ble_eq_true rfl⟩ ⟨Nat.le_refl _, Nat.le_refl _⟩ ?_
      exact z_iret CX dX6_about_163 rfl (congrArg Value.int (by rfl)) rfl (Or.inl rfl)
    | 13, _, h1 =>
      skip
      refine Cn.of (d := mX6_about) (by decide +kernel) (Nat.le_of_ble_eq_true rfl) ?_
      intro p e R s m args below meth c CX
      replace CX : Ctx p s m args meth c R w RX6 "about" cX6_about 2 (some .int) 3 64 0 0 := CX
      show ZW p l e R s m args below meth c w 2 _ _ 0 0 (MQ below (Qn w _ _ _) args s 0 0 (wA w)) 0 [(0, .ref (wB w + k)), (1, .int _)] []
      refine z_aload_n CX 0 dX6_about_0 rfl rfl ?_
      refine z_iload_n CX 1 dX6_about_1 rfl rfl ?_
      refine z_i2l CX dX6_about_2 rfl ?_
      refine z_lconst CX (v := 0) dX6_about_3 (by decide) ?_
      refine z_ldc2 CX (v := 13) dX6_about_4 (wa_mem 1005 (by decide +kernel) rfl) ?_
      refine z_callS1 CX dX6_about_7 cs_X6_42 (c_inI (0) (13) _ _ _ (by decide) (by decide)) rfl rfl (Nat.le_of_ble_eq_true rfl) ⟨Nat.le_of_ble_eq_true rfl, Nat.le_of_ble_eq_true rfl⟩ ⟨Nat.le_refl _, Nat.le_refl _⟩ ?_
      refine z_if_eq CX 17 dX6_about_10 (by decide) (fun q9 => absurd q9 (by rw [bI_1 h1]; decide)) (fun _ => ?_)
      refine z_iconst CX (v := 0) dX6_about_13 (by decide) ?_
      refine z_goto CX 18 dX6_about_14 (by decide) ?_
      refine z_callV1 CX dX6_about_18 cv_X6_122 (c_ref _) mo_0 rfl rfl (Nat.le_of_ble_eq_true rfl) ⟨Nat.le_of_ble_eq_true rfl, Nat.le_of_ble_eq_true rfl⟩ ⟨Nat.le_refl _, Nat.le_refl _⟩ ?_
      refine z_if_eq CX 26 dX6_about_21 (by decide) (fun _ => ?_) (fun q9 => absurd (by decide) q9)
      refine z_iload_n CX 1 dX6_about_26 rfl rfl ?_
      refine z_tabIn CX 164 dX6_about_27 (by decide) (by decide) rfl (by decide) ?_
      refine z_aload_n CX 0 dX6_about_164 rfl rfl ?_
      refine z_callV1 CX dX6_about_165 cv_X6_221 (c_drifted hO.1.2.1 (by have := hO.2.2; omega)) mo_0 rfl rfl (Nat.le_of_ble_eq_true rfl) ⟨Nat.le_of_ble_eq_true rfl, Nat.le_of_ble_eq_true rfl⟩ ⟨Nat.le_refl _, Nat.le_refl _⟩ ?_
      exact z_iret CX dX6_about_168 rfl (congrArg Value.int (by rfl)) rfl (Or.inl rfl)
    | i + 14, h, _ => omega
  · rw [show rs_about u A x = bad 1 u A from if_neg h1]
    refine Cn.of (d := mX6_about) (by decide +kernel) (Nat.le_of_ble_eq_true rfl) ?_
    intro p e R s m args below meth c CX
    replace CX : Ctx p s m args meth c R w RX6 "about" cX6_about 2 (some .int) 3 64 0 0 := CX
    show ZW p l e R s m args below meth c w 2 _ _ 0 0 (MQ below (Qn w _ _ _) args s 0 0 (wA w)) 0 [(0, .ref (wB w + k)), (1, .int _)] []
    refine z_aload_n CX 0 dX6_about_0 rfl rfl ?_
    refine z_iload_n CX 1 dX6_about_1 rfl rfl ?_
    refine z_i2l CX dX6_about_2 rfl ?_
    refine z_lconst CX (v := 0) dX6_about_3 (by decide) ?_
    refine z_ldc2 CX (v := 13) dX6_about_4 (wa_mem 1005 (by decide +kernel) rfl) ?_
    refine z_callS1 CX dX6_about_7 cs_X6_42 (c_inI (0) (13) _ _ _ (by decide) (by decide)) rfl rfl (Nat.le_of_ble_eq_true rfl) ⟨Nat.le_of_ble_eq_true rfl, Nat.le_of_ble_eq_true rfl⟩ ⟨Nat.le_refl _, Nat.le_refl _⟩ ?_
    refine z_if_eq CX 17 dX6_about_10 (by decide) (fun _ => ?_) (fun q9 => absurd (bI_0 h1) q9)
    refine z_iconst CX (v := 1) dX6_about_17 (by decide) ?_
    refine z_callV1 CX dX6_about_18 cv_X6_122 (c_ref _) mo_0 rfl rfl (Nat.le_of_ble_eq_true rfl) ⟨Nat.le_of_ble_eq_true rfl, Nat.le_of_ble_eq_true rfl⟩ ⟨Nat.le_refl _, Nat.le_refl _⟩ ?_
    refine z_if_eq CX 26 dX6_about_21 (by decide) (fun q9 => absurd q9 (by decide)) (fun _ => ?_)
    refine z_iconst CX (v := 0) dX6_about_24 (by decide) ?_
    exact z_iret CX dX6_about_25 rfl rfl rfl (Or.inl rfl)
set_option maxHeartbeats 4000000 in
set_option maxRecDepth 100000 in
theorem m_gutterOf {l : Launch} {w : Wt} {hs : Hs} {n : Option Nat} {k : Nat} {u : Nat → Int32} {A : Nat → Nat → Int32} (hO : OKr (A 0)) (g x : Int32) : Cn l w mX6_gutterOf 0 0 [.ref (wB w + k), .int g, .int x] (modH w hs k u A) n (modH w hs k (rs_gutterOf u A g x).2.2.1 (rs_gutterOf u A g x).2.2.2) n (some (.int (rs_gutterOf u A g x).2.1)) := by
  by_cases h0 : 0 ≤ g ∧ g < nI (gN (A 0))
  · obtain ⟨j, j1, j2, j3⟩ := nI_box (by have := hO.1.1.2.1; omega) h0
    have h6 := hO.1.1.2.1
    have h9 := hO.2.2
    obtain ⟨⟨L, l1, l2, l3⟩, -⟩ := hO.1.1.2.2.2 j j1
    by_cases h1 : 0 ≤ x ∧ x ≤ 6
    · rw [show rs_gutterOf u A g x = (0, gtV (A 0) j x.toNatClampNeg, upd u 0 0, A) by unfold rs_gutterOf; rw [if_pos h0, if_pos h1, j3]]
      obtain ⟨i, i0, i1, i2, i3⟩ := nI_le9 (a := 0) (b := 6) (by omega) (by omega) h1
      rw [i3]
      subst i2
      subst j2
      match i, i1, h1 with
      | 0, _, h1 =>
        skip
        refine Cn.of (d := mX6_gutterOf) (by decide +kernel) (Nat.le_of_ble_eq_true rfl) ?_
        intro p e R s m args below meth c CX
        replace CX : Ctx p s m args meth c R w RX6 "gutterOf" cX6_gutterOf 3 (some .int) 4 87 0 0 := CX
        show ZW p l e R s m args below meth c w 3 _ _ 0 0 (MQ below (Qn w _ _ _) args s 0 0 (wA w)) 0 [(0, .ref (wB w + k)), (1, .int _), (2, .int _)] []
        refine z_aload_n CX 0 dX6_gutterOf_0 rfl rfl ?_
        refine z_aload_n CX 0 dX6_gutterOf_1 rfl rfl ?_
        refine z_get CX dX6_gutterOf_2 fg_X6_7 mo_0 rfl ?_
        refine z_iload_n CX 1 dX6_gutterOf_5 rfl rfl ?_
        refine z_callS1 CX dX6_gutterOf_6 cs_X6_46 (Cn.row mq_0 mq_0 (a := k + 1) (c_isG hO.1.1.1 (by have := hO.1.1.2.1; omega) _)) rfl rfl (Nat.le_of_ble_eq_true rfl) ⟨Nat.le_of_ble_eq_true rfl, Nat.le_of_ble_eq_true rfl⟩ ⟨Nat.le_refl _, Nat.le_refl _⟩ ?_
        refine z_if_ne CX 16 dX6_gutterOf_9 (by decide) (fun _ => ?_) (fun q9 => absurd q9 (by rw [bI_1 h0]; decide))
        refine z_iload_n CX 2 dX6_gutterOf_16 rfl rfl ?_
        refine z_i2l CX dX6_gutterOf_17 rfl ?_
        refine z_lconst CX (v := 0) dX6_gutterOf_18 (by decide) ?_
        refine z_ldc2 CX (v := 6) dX6_gutterOf_19 (wa_mem 1018 (by decide +kernel) rfl) ?_
        refine z_callS1 CX dX6_gutterOf_22 cs_X6_42 (c_inI (0) (6) _ _ _ (by decide) (by decide)) rfl rfl (Nat.le_of_ble_eq_true rfl) ⟨Nat.le_of_ble_eq_true rfl, Nat.le_of_ble_eq_true rfl⟩ ⟨Nat.le_refl _, Nat.le_refl _⟩ ?_
        refine z_if_ne CX 32 dX6_gutterOf_25 (by decide) (fun _ => ?_) (fun q9 => absurd q9 (by rw [bI_1 h1]; decide))
        refine z_iconst CX (v := 0) dX6_gutterOf_32 (by decide) ?_
        refine z_callV1 CX dX6_gutterOf_33 cv_X6_122 (c_ref _) mo_0 rfl rfl (Nat.le_of_ble_eq_true rfl) ⟨Nat.le_of_ble_eq_true rfl, Nat.le_of_ble_eq_true rfl⟩ ⟨Nat.le_refl _, Nat.le_refl _⟩ ?_
        refine z_if_eq CX 41 dX6_gutterOf_36 (by decide) (fun _ => ?_) (fun q9 => absurd (by decide) q9)
        refine z_iload_n CX 2 dX6_gutterOf_41 rfl rfl ?_
        refine z_tabOut CX 88 dX6_gutterOf_42 (by decide) (by decide) ?_
        refine z_aload_n CX 0 dX6_gutterOf_88 rfl rfl ?_
        refine z_get CX dX6_gutterOf_89 fg_X6_7 mo_0 rfl ?_
        refine z_iconst CX (v := 4) dX6_gutterOf_92 (by decide) ?_
        refine z_iload_n CX 1 dX6_gutterOf_93 rfl rfl ?_
        refine z_imul CX dX6_gutterOf_94 ?_
        refine z_iload_n CX 2 dX6_gutterOf_95 rfl rfl ?_
        refine z_iadd CX dX6_gutterOf_96 ?_
        refine z_ia CX (j := ((4 * j) + 0)) dX6_gutterOf_97 mo_1 (ix_add (ix_mul rfl rfl) rfl) (by omega) (by decide) ?_
        exact z_iret CX dX6_gutterOf_98 rfl rfl rfl (Or.inl rfl)
      | 1, _, h1 =>
        skip
        refine Cn.of (d := mX6_gutterOf) (by decide +kernel) (Nat.le_of_ble_eq_true rfl) ?_
        intro p e R s m args below meth c CX
        replace CX : Ctx p s m args meth c R w RX6 "gutterOf" cX6_gutterOf 3 (some .int) 4 87 0 0 := CX
        show ZW p l e R s m args below meth c w 3 _ _ 0 0 (MQ below (Qn w _ _ _) args s 0 0 (wA w)) 0 [(0, .ref (wB w + k)), (1, .int _), (2, .int _)] []
        refine z_aload_n CX 0 dX6_gutterOf_0 rfl rfl ?_
        refine z_aload_n CX 0 dX6_gutterOf_1 rfl rfl ?_
        refine z_get CX dX6_gutterOf_2 fg_X6_7 mo_0 rfl ?_
        refine z_iload_n CX 1 dX6_gutterOf_5 rfl rfl ?_
        refine z_callS1 CX dX6_gutterOf_6 cs_X6_46 (Cn.row mq_0 mq_0 (a := k + 1) (c_isG hO.1.1.1 (by have := hO.1.1.2.1; omega) _)) rfl rfl (Nat.le_of_ble_eq_true rfl) ⟨Nat.le_of_ble_eq_true rfl, Nat.le_of_ble_eq_true rfl⟩ ⟨Nat.le_refl _, Nat.le_refl _⟩ ?_
        refine z_if_ne CX 16 dX6_gutterOf_9 (by decide) (fun _ => ?_) (fun q9 => absurd q9 (by rw [bI_1 h0]; decide))
        refine z_iload_n CX 2 dX6_gutterOf_16 rfl rfl ?_
        refine z_i2l CX dX6_gutterOf_17 rfl ?_
        refine z_lconst CX (v := 0) dX6_gutterOf_18 (by decide) ?_
        refine z_ldc2 CX (v := 6) dX6_gutterOf_19 (wa_mem 1018 (by decide +kernel) rfl) ?_
        refine z_callS1 CX dX6_gutterOf_22 cs_X6_42 (c_inI (0) (6) _ _ _ (by decide) (by decide)) rfl rfl (Nat.le_of_ble_eq_true rfl) ⟨Nat.le_of_ble_eq_true rfl, Nat.le_of_ble_eq_true rfl⟩ ⟨Nat.le_refl _, Nat.le_refl _⟩ ?_
        refine z_if_ne CX 32 dX6_gutterOf_25 (by decide) (fun _ => ?_) (fun q9 => absurd q9 (by rw [bI_1 h1]; decide))
        refine z_iconst CX (v := 0) dX6_gutterOf_32 (by decide) ?_
        refine z_callV1 CX dX6_gutterOf_33 cv_X6_122 (c_ref _) mo_0 rfl rfl (Nat.le_of_ble_eq_true rfl) ⟨Nat.le_of_ble_eq_true rfl, Nat.le_of_ble_eq_true rfl⟩ ⟨Nat.le_refl _, Nat.le_refl _⟩ ?_
        refine z_if_eq CX 41 dX6_gutterOf_36 (by decide) (fun _ => ?_) (fun q9 => absurd (by decide) q9)
        refine z_iload_n CX 2 dX6_gutterOf_41 rfl rfl ?_
        refine z_tabOut CX 88 dX6_gutterOf_42 (by decide) (by decide) ?_
        refine z_aload_n CX 0 dX6_gutterOf_88 rfl rfl ?_
        refine z_get CX dX6_gutterOf_89 fg_X6_7 mo_0 rfl ?_
        refine z_iconst CX (v := 4) dX6_gutterOf_92 (by decide) ?_
        refine z_iload_n CX 1 dX6_gutterOf_93 rfl rfl ?_
        refine z_imul CX dX6_gutterOf_94 ?_
        refine z_iload_n CX 2 dX6_gutterOf_95 rfl rfl ?_
        refine z_iadd CX dX6_gutterOf_96 ?_
        refine z_ia CX (j := ((4 * j) + 1)) dX6_gutterOf_97 mo_1 (ix_add (ix_mul rfl rfl) rfl) (by omega) (by decide) ?_
        exact z_iret CX dX6_gutterOf_98 rfl rfl rfl (Or.inl rfl)
      | 2, _, h1 =>
        skip
        refine Cn.of (d := mX6_gutterOf) (by decide +kernel) (Nat.le_of_ble_eq_true rfl) ?_
        intro p e R s m args below meth c CX
        replace CX : Ctx p s m args meth c R w RX6 "gutterOf" cX6_gutterOf 3 (some .int) 4 87 0 0 := CX
        show ZW p l e R s m args below meth c w 3 _ _ 0 0 (MQ below (Qn w _ _ _) args s 0 0 (wA w)) 0 [(0, .ref (wB w + k)), (1, .int _), (2, .int _)] []
        refine z_aload_n CX 0 dX6_gutterOf_0 rfl rfl ?_
        refine z_aload_n CX 0 dX6_gutterOf_1 rfl rfl ?_
        refine z_get CX dX6_gutterOf_2 fg_X6_7 mo_0 rfl ?_
        refine z_iload_n CX 1 dX6_gutterOf_5 rfl rfl ?_
        refine z_callS1 CX dX6_gutterOf_6 cs_X6_46 (Cn.row mq_0 mq_0 (a := k + 1) (c_isG hO.1.1.1 (by have := hO.1.1.2.1; omega) _)) rfl rfl (Nat.le_of_ble_eq_true rfl) ⟨Nat.le_of_ble_eq_true rfl, Nat.le_of_ble_eq_true rfl⟩ ⟨Nat.le_refl _, Nat.le_refl _⟩ ?_
        refine z_if_ne CX 16 dX6_gutterOf_9 (by decide) (fun _ => ?_) (fun q9 => absurd q9 (by rw [bI_1 h0]; decide))
        refine z_iload_n CX 2 dX6_gutterOf_16 rfl rfl ?_
        refine z_i2l CX dX6_gutterOf_17 rfl ?_
        refine z_lconst CX (v := 0) dX6_gutterOf_18 (by decide) ?_
        refine z_ldc2 CX (v := 6) dX6_gutterOf_19 (wa_mem 1018 (by decide +kernel) rfl) ?_
        refine z_callS1 CX dX6_gutterOf_22 cs_X6_42 (c_inI (0) (6) _ _ _ (by decide) (by decide)) rfl rfl (Nat.le_of_ble_eq_true rfl) ⟨Nat.le_of_ble_eq_true rfl, Nat.le_of_ble_eq_true rfl⟩ ⟨Nat.le_refl _, Nat.le_refl _⟩ ?_
        refine z_if_ne CX 32 dX6_gutterOf_25 (by decide) (fun _ => ?_) (fun q9 => absurd q9 (by rw [bI_1 h1]; decide))
        refine z_iconst CX (v := 0) dX6_gutterOf_32 (by decide) ?_
        refine z_callV1 CX dX6_gutterOf_33 cv_X6_122 (c_ref _) mo_0 rfl rfl (Nat.le_of_ble_eq_true rfl) ⟨Nat.le_of_ble_eq_true rfl, Nat.le_of_ble_eq_true rfl⟩ ⟨Nat.le_refl _, Nat.le_refl _⟩ ?_
        refine z_if_eq CX 41 dX6_gutterOf_36 (by decide) (fun _ => ?_) (fun q9 => absurd (by decide) q9)
        refine z_iload_n CX 2 dX6_gutterOf_41 rfl rfl ?_
        refine z_tabOut CX 88 dX6_gutterOf_42 (by decide) (by decide) ?_
        refine z_aload_n CX 0 dX6_gutterOf_88 rfl rfl ?_
        refine z_get CX dX6_gutterOf_89 fg_X6_7 mo_0 rfl ?_
        refine z_iconst CX (v := 4) dX6_gutterOf_92 (by decide) ?_
        refine z_iload_n CX 1 dX6_gutterOf_93 rfl rfl ?_
        refine z_imul CX dX6_gutterOf_94 ?_
        refine z_iload_n CX 2 dX6_gutterOf_95 rfl rfl ?_
        refine z_iadd CX dX6_gutterOf_96 ?_
        refine z_ia CX (j := ((4 * j) + 2)) dX6_gutterOf_97 mo_1 (ix_add (ix_mul rfl rfl) rfl) (by omega) (by decide) ?_
        exact z_iret CX dX6_gutterOf_98 rfl rfl rfl (Or.inl rfl)
      | 3, _, h1 =>
        skip
        refine Cn.of (d := mX6_gutterOf) (by decide +kernel) (Nat.le_of_ble_eq_true rfl) ?_
        intro p e R s m args below meth c CX
        replace CX : Ctx p s m args meth c R w RX6 "gutterOf" cX6_gutterOf 3 (some .int) 4 87 0 0 := CX
        show ZW p l e R s m args below meth c w 3 _ _ 0 0 (MQ below (Qn w _ _ _) args s 0 0 (wA w)) 0 [(0, .ref (wB w + k)), (1, .int _), (2, .int _)] []
        refine z_aload_n CX 0 dX6_gutterOf_0 rfl rfl ?_
        refine z_aload_n CX 0 dX6_gutterOf_1 rfl rfl ?_
        refine z_get CX dX6_gutterOf_2 fg_X6_7 mo_0 rfl ?_
        refine z_iload_n CX 1 dX6_gutterOf_5 rfl rfl ?_
        refine z_callS1 CX dX6_gutterOf_6 cs_X6_46 (Cn.row mq_0 mq_0 (a := k + 1) (c_isG hO.1.1.1 (by have := hO.1.1.2.1; omega) _)) rfl rfl (Nat.le_of_ble_eq_true rfl) ⟨Nat.le_of_ble_eq_true rfl, Nat.le_of_ble_eq_true rfl⟩ ⟨Nat.le_refl _, Nat.le_refl _⟩ ?_
        refine z_if_ne CX 16 dX6_gutterOf_9 (by decide) (fun _ => ?_) (fun q9 => absurd q9 (by rw [bI_1 h0]; decide))
        refine z_iload_n CX 2 dX6_gutterOf_16 rfl rfl ?_
        refine z_i2l CX dX6_gutterOf_17 rfl ?_
        refine z_lconst CX (v := 0) dX6_gutterOf_18 (by decide) ?_
        refine z_ldc2 CX (v := 6) dX6_gutterOf_19 (wa_mem 1018 (by decide +kernel) rfl) ?_
        refine z_callS1 CX dX6_gutterOf_22 cs_X6_42 (c_inI (0) (6) _ _ _ (by decide) (by decide)) rfl rfl (Nat.le_of_ble_eq_true rfl) ⟨Nat.le_of_ble_eq_true rfl, Nat.le_of_ble_eq_true rfl⟩ ⟨Nat.le_refl _, Nat.le_refl _⟩ ?_
        refine z_if_ne CX 32 dX6_gutterOf_25 (by decide) (fun _ => ?_) (fun q9 => absurd q9 (by rw [bI_1 h1]; decide))
        refine z_iconst CX (v := 0) dX6_gutterOf_32 (by decide) ?_
        refine z_callV1 CX dX6_gutterOf_33 cv_X6_122 (c_ref _) mo_0 rfl rfl (Nat.le_of_ble_eq_true rfl) ⟨Nat.le_of_ble_eq_true rfl, Nat.le_of_ble_eq_true rfl⟩ ⟨Nat.le_refl _, Nat.le_refl _⟩ ?_
        refine z_if_eq CX 41 dX6_gutterOf_36 (by decide) (fun _ => ?_) (fun q9 => absurd (by decide) q9)
        refine z_iload_n CX 2 dX6_gutterOf_41 rfl rfl ?_
        refine z_tabOut CX 88 dX6_gutterOf_42 (by decide) (by decide) ?_
        refine z_aload_n CX 0 dX6_gutterOf_88 rfl rfl ?_
        refine z_get CX dX6_gutterOf_89 fg_X6_7 mo_0 rfl ?_
        refine z_iconst CX (v := 4) dX6_gutterOf_92 (by decide) ?_
        refine z_iload_n CX 1 dX6_gutterOf_93 rfl rfl ?_
        refine z_imul CX dX6_gutterOf_94 ?_
        refine z_iload_n CX 2 dX6_gutterOf_95 rfl rfl ?_
        refine z_iadd CX dX6_gutterOf_96 ?_
        refine z_ia CX (j := ((4 * j) + 3)) dX6_gutterOf_97 mo_1 (ix_add (ix_mul rfl rfl) rfl) (by omega) (by decide) ?_
        exact z_iret CX dX6_gutterOf_98 rfl rfl rfl (Or.inl rfl)
      | 4, _, h1 =>
        skip
        refine Cn.of (d := mX6_gutterOf) (by decide +kernel) (Nat.le_of_ble_eq_true rfl) ?_
        intro p e R s m args below meth c CX
        replace CX : Ctx p s m args meth c R w RX6 "gutterOf" cX6_gutterOf 3 (some .int) 4 87 0 0 := CX
        show ZW p l e R s m args below meth c w 3 _ _ 0 0 (MQ below (Qn w _ _ _) args s 0 0 (wA w)) 0 [(0, .ref (wB w + k)), (1, .int _), (2, .int _)] []
        refine z_aload_n CX 0 dX6_gutterOf_0 rfl rfl ?_
        refine z_aload_n CX 0 dX6_gutterOf_1 rfl rfl ?_
        refine z_get CX dX6_gutterOf_2 fg_X6_7 mo_0 rfl ?_
        refine z_iload_n CX 1 dX6_gutterOf_5 rfl rfl ?_
        refine z_callS1 CX dX6_gutterOf_6 cs_X6_46 (Cn.row mq_0 mq_0 (a := k + 1) (c_isG hO.1.1.1 (by have := hO.1.1.2.1; omega) _)) rfl rfl (Nat.le_of_ble_eq_true rfl) ⟨Nat.le_of_ble_eq_true rfl, Nat.le_of_ble_eq_true rfl⟩ ⟨Nat.le_refl _, Nat.le_refl _⟩ ?_
        refine z_if_ne CX 16 dX6_gutterOf_9 (by decide) (fun _ => ?_) (fun q9 => absurd q9 (by rw [bI_1 h0]; decide))
        refine z_iload_n CX 2 dX6_gutterOf_16 rfl rfl ?_
        refine z_i2l CX dX6_gutterOf_17 rfl ?_
        refine z_lconst CX (v := 0) dX6_gutterOf_18 (by decide) ?_
        refine z_ldc2 CX (v := 6) dX6_gutterOf_19 (wa_mem 1018 (by decide +kernel) rfl) ?_
        refine z_callS1 CX dX6_gutterOf_22 cs_X6_42 (c_inI (0) (6) _ _ _ (by decide) (by decide)) rfl rfl (Nat.le_of_ble_eq_true rfl) ⟨Nat.le_of_ble_eq_true rfl, Nat.le_of_ble_eq_true rfl⟩ ⟨Nat.le_refl _, Nat.le_refl _⟩ ?_
        refine z_if_ne CX 32 dX6_gutterOf_25 (by decide) (fun _ => ?_) (fun q9 => absurd q9 (by rw [bI_1 h1]; decide))
        refine z_iconst CX (v := 0) dX6_gutterOf_32 (by decide) ?_
        refine z_callV1 CX dX6_gutterOf_33 cv_X6_122 (c_ref _) mo_0 rfl rfl (Nat.le_of_ble_eq_true rfl) ⟨Nat.le_of_ble_eq_true rfl, Nat.le_of_ble_eq_true rfl⟩ ⟨Nat.le_refl _, Nat.le_refl _⟩ ?_
        refine z_if_eq CX 41 dX6_gutterOf_36 (by decide) (fun _ => ?_) (fun q9 => absurd (by decide) q9)
        refine z_iload_n CX 2 dX6_gutterOf_41 rfl rfl ?_
        refine z_tabIn CX 68 dX6_gutterOf_42 (by decide) (by decide) rfl (by decide) ?_
        refine z_aload_n CX 0 dX6_gutterOf_68 rfl rfl ?_
        refine z_iload_n CX 1 dX6_gutterOf_69 rfl rfl ?_
        refine z_iconst CX (v := 1) dX6_gutterOf_70 (by decide) ?_
        refine z_callV1 CX dX6_gutterOf_71 cv_X6_226 (c_inG hO.1.2.1 (by omega) _ _) mo_0 rfl rfl (Nat.le_of_ble_eq_true rfl) ⟨Nat.le_of_ble_eq_true rfl, Nat.le_of_ble_eq_true rfl⟩ ⟨Nat.le_refl _, Nat.le_refl _⟩ ?_
        exact z_iret CX dX6_gutterOf_74 rfl rfl rfl (Or.inl rfl)
      | 5, _, h1 =>
        skip
        refine Cn.of (d := mX6_gutterOf) (by decide +kernel) (Nat.le_of_ble_eq_true rfl) ?_
        intro p e R s m args below meth c CX
        replace CX : Ctx p s m args meth c R w RX6 "gutterOf" cX6_gutterOf 3 (some .int) 4 87 0 0 := CX
        show ZW p l e R s m args below meth c w 3 _ _ 0 0 (MQ below (Qn w _ _ _) args s 0 0 (wA w)) 0 [(0, .ref (wB w + k)), (1, .int _), (2, .int _)] []
        refine z_aload_n CX 0 dX6_gutterOf_0 rfl rfl ?_
        refine z_aload_n CX 0 dX6_gutterOf_1 rfl rfl ?_
        refine z_get CX dX6_gutterOf_2 fg_X6_7 mo_0 rfl ?_
        refine z_iload_n CX 1 dX6_gutterOf_5 rfl rfl ?_
        refine z_callS1 CX dX6_gutterOf_6 cs_X6_46 (Cn.row mq_0 mq_0 (a := k + 1) (c_isG hO.1.1.1 (by have := hO.1.1.2.1; omega) _)) rfl rfl (Nat.le_of_ble_eq_true rfl) ⟨Nat.le_of_ble_eq_true rfl, Nat.le_of_ble_eq_true rfl⟩ ⟨Nat.le_refl _, Nat.le_refl _⟩ ?_
        refine z_if_ne CX 16 dX6_gutterOf_9 (by decide) (fun _ => ?_) (fun q9 => absurd q9 (by rw [bI_1 h0]; decide))
        refine z_iload_n CX 2 dX6_gutterOf_16 rfl rfl ?_
        refine z_i2l CX dX6_gutterOf_17 rfl ?_
        refine z_lconst CX (v := 0) dX6_gutterOf_18 (by decide) ?_
        refine z_ldc2 CX (v := 6) dX6_gutterOf_19 (wa_mem 1018 (by decide +kernel) rfl) ?_
        refine z_callS1 CX dX6_gutterOf_22 cs_X6_42 (c_inI (0) (6) _ _ _ (by decide) (by decide)) rfl rfl (Nat.le_of_ble_eq_true rfl) ⟨Nat.le_of_ble_eq_true rfl, Nat.le_of_ble_eq_true rfl⟩ ⟨Nat.le_refl _, Nat.le_refl _⟩ ?_
        refine z_if_ne CX 32 dX6_gutterOf_25 (by decide) (fun _ => ?_) (fun q9 => absurd q9 (by rw [bI_1 h1]; decide))
        refine z_iconst CX (v := 0) dX6_gutterOf_32 (by decide) ?_
        refine z_callV1 CX dX6_gutterOf_33 cv_X6_122 (c_ref _) mo_0 rfl rfl (Nat.le_of_ble_eq_true rfl) ⟨Nat.le_of_ble_eq_true rfl, Nat.le_of_ble_eq_true rfl⟩ ⟨Nat.le_refl _, Nat.le_refl _⟩ ?_
        refine z_if_eq CX 41 dX6_gutterOf_36 (by decide) (fun _ => ?_) (fun q9 => absurd (by decide) q9)
        refine z_iload_n CX 2 dX6_gutterOf_41 rfl rfl ?_
        refine z_tabIn CX 75 dX6_gutterOf_42 (by decide) (by decide) rfl (by decide) ?_
        refine z_aload_n CX 0 dX6_gutterOf_75 rfl rfl ?_
        refine z_iload_n CX 1 dX6_gutterOf_76 rfl rfl ?_
        refine z_iconst CX (v := 3) dX6_gutterOf_77 (by decide) ?_
        refine z_callV1 CX dX6_gutterOf_78 cv_X6_226 (c_inG hO.1.2.1 (by omega) _ _) mo_0 rfl rfl (Nat.le_of_ble_eq_true rfl) ⟨Nat.le_of_ble_eq_true rfl, Nat.le_of_ble_eq_true rfl⟩ ⟨Nat.le_refl _, Nat.le_refl _⟩ ?_
        exact z_iret CX dX6_gutterOf_81 rfl rfl rfl (Or.inl rfl)
      | 6, _, h1 =>
        skip
        refine Cn.of (d := mX6_gutterOf) (by decide +kernel) (Nat.le_of_ble_eq_true rfl) ?_
        intro p e R s m args below meth c CX
        replace CX : Ctx p s m args meth c R w RX6 "gutterOf" cX6_gutterOf 3 (some .int) 4 87 0 0 := CX
        show ZW p l e R s m args below meth c w 3 _ _ 0 0 (MQ below (Qn w _ _ _) args s 0 0 (wA w)) 0 [(0, .ref (wB w + k)), (1, .int _), (2, .int _)] []
        refine z_aload_n CX 0 dX6_gutterOf_0 rfl rfl ?_
        refine z_aload_n CX 0 dX6_gutterOf_1 rfl rfl ?_
        refine z_get CX dX6_gutterOf_2 fg_X6_7 mo_0 rfl ?_
        refine z_iload_n CX 1 dX6_gutterOf_5 rfl rfl ?_
        refine z_callS1 CX dX6_gutterOf_6 cs_X6_46 (Cn.row mq_0 mq_0 (a := k + 1) (c_isG hO.1.1.1 (by have := hO.1.1.2.1; omega) _)) rfl rfl (Nat.le_of_ble_eq_true rfl) ⟨Nat.le_of_ble_eq_true rfl, Nat.le_of_ble_eq_true rfl⟩ ⟨Nat.le_refl _, Nat.le_refl _⟩ ?_
        refine z_if_ne CX 16 dX6_gutterOf_9 (by decide) (fun _ => ?_) (fun q9 => absurd q9 (by rw [bI_1 h0]; decide))
        refine z_iload_n CX 2 dX6_gutterOf_16 rfl rfl ?_
        refine z_i2l CX dX6_gutterOf_17 rfl ?_
        refine z_lconst CX (v := 0) dX6_gutterOf_18 (by decide) ?_
        refine z_ldc2 CX (v := 6) dX6_gutterOf_19 (wa_mem 1018 (by decide +kernel) rfl) ?_
        refine z_callS1 CX dX6_gutterOf_22 cs_X6_42 (c_inI (0) (6) _ _ _ (by decide) (by decide)) rfl rfl (Nat.le_of_ble_eq_true rfl) ⟨Nat.le_of_ble_eq_true rfl, Nat.le_of_ble_eq_true rfl⟩ ⟨Nat.le_refl _, Nat.le_refl _⟩ ?_
        refine z_if_ne CX 32 dX6_gutterOf_25 (by decide) (fun _ => ?_) (fun q9 => absurd q9 (by rw [bI_1 h1]; decide))
        refine z_iconst CX (v := 0) dX6_gutterOf_32 (by decide) ?_
        refine z_callV1 CX dX6_gutterOf_33 cv_X6_122 (c_ref _) mo_0 rfl rfl (Nat.le_of_ble_eq_true rfl) ⟨Nat.le_of_ble_eq_true rfl, Nat.le_of_ble_eq_true rfl⟩ ⟨Nat.le_refl _, Nat.le_refl _⟩ ?_
        refine z_if_eq CX 41 dX6_gutterOf_36 (by decide) (fun _ => ?_) (fun q9 => absurd (by decide) q9)
        refine z_iload_n CX 2 dX6_gutterOf_41 rfl rfl ?_
        refine z_tabIn CX 82 dX6_gutterOf_42 (by decide) (by decide) rfl (by decide) ?_
        refine z_aload_n CX 0 dX6_gutterOf_82 rfl rfl ?_
        refine z_iload_n CX 1 dX6_gutterOf_83 rfl rfl ?_
        refine z_callV1 CX dX6_gutterOf_84 cv_X6_229 (c_lowW hO.1.2.1 (by omega) (by omega) l3 l2) mo_0 rfl rfl (Nat.le_of_ble_eq_true rfl) ⟨Nat.le_of_ble_eq_true rfl, Nat.le_of_ble_eq_true rfl⟩ ⟨Nat.le_refl _, Nat.le_refl _⟩ ?_
        exact z_iret CX dX6_gutterOf_87 rfl (congrArg Value.int (by show lwR (A 0) (bN (A 0)) (nI j) (A 0 (4 * j + 0)).toNatClampNeg 0 = _; rw [l3, nI_clamp (by omega)])) rfl (Or.inl rfl)
      | i + 7, h, _ => omega
    · rw [show rs_gutterOf u A g x = bad 2 u A by unfold rs_gutterOf; rw [if_pos h0, if_neg h1]]
      refine Cn.of (d := mX6_gutterOf) (by decide +kernel) (Nat.le_of_ble_eq_true rfl) ?_
      intro p e R s m args below meth c CX
      replace CX : Ctx p s m args meth c R w RX6 "gutterOf" cX6_gutterOf 3 (some .int) 4 87 0 0 := CX
      show ZW p l e R s m args below meth c w 3 _ _ 0 0 (MQ below (Qn w _ _ _) args s 0 0 (wA w)) 0 [(0, .ref (wB w + k)), (1, .int _), (2, .int _)] []
      refine z_aload_n CX 0 dX6_gutterOf_0 rfl rfl ?_
      refine z_aload_n CX 0 dX6_gutterOf_1 rfl rfl ?_
      refine z_get CX dX6_gutterOf_2 fg_X6_7 mo_0 rfl ?_
      refine z_iload_n CX 1 dX6_gutterOf_5 rfl rfl ?_
      refine z_callS1 CX dX6_gutterOf_6 cs_X6_46 (Cn.row mq_0 mq_0 (a := k + 1) (c_isG hO.1.1.1 (by have := hO.1.1.2.1; omega) _)) rfl rfl (Nat.le_of_ble_eq_true rfl) ⟨Nat.le_of_ble_eq_true rfl, Nat.le_of_ble_eq_true rfl⟩ ⟨Nat.le_refl _, Nat.le_refl _⟩ ?_
      refine z_if_ne CX 16 dX6_gutterOf_9 (by decide) (fun _ => ?_) (fun q9 => absurd q9 (by rw [bI_1 h0]; decide))
      refine z_iload_n CX 2 dX6_gutterOf_16 rfl rfl ?_
      refine z_i2l CX dX6_gutterOf_17 rfl ?_
      refine z_lconst CX (v := 0) dX6_gutterOf_18 (by decide) ?_
      refine z_ldc2 CX (v := 6) dX6_gutterOf_19 (wa_mem 1018 (by decide +kernel) rfl) ?_
      refine z_callS1 CX dX6_gutterOf_22 cs_X6_42 (c_inI (0) (6) _ _ _ (by decide) (by decide)) rfl rfl (Nat.le_of_ble_eq_true rfl) ⟨Nat.le_of_ble_eq_true rfl, Nat.le_of_ble_eq_true rfl⟩ ⟨Nat.le_refl _, Nat.le_refl _⟩ ?_
      refine z_if_ne CX 32 dX6_gutterOf_25 (by decide) (fun q9 => absurd q9 (fun q => q (bI_0 h1))) (fun _ => ?_)
      refine z_iconst CX (v := 2) dX6_gutterOf_28 (by decide) ?_
      refine z_goto CX 33 dX6_gutterOf_29 (by decide) ?_
      refine z_callV1 CX dX6_gutterOf_33 cv_X6_122 (c_ref _) mo_0 rfl rfl (Nat.le_of_ble_eq_true rfl) ⟨Nat.le_of_ble_eq_true rfl, Nat.le_of_ble_eq_true rfl⟩ ⟨Nat.le_refl _, Nat.le_refl _⟩ ?_
      refine z_if_eq CX 41 dX6_gutterOf_36 (by decide) (fun q9 => absurd q9 (by decide)) (fun _ => ?_)
      refine z_iconst CX (v := 0) dX6_gutterOf_39 (by decide) ?_
      exact z_iret CX dX6_gutterOf_40 rfl rfl rfl (Or.inl rfl)
  · rw [show rs_gutterOf u A g x = bad 1 u A from if_neg h0]
    refine Cn.of (d := mX6_gutterOf) (by decide +kernel) (Nat.le_of_ble_eq_true rfl) ?_
    intro p e R s m args below meth c CX
    replace CX : Ctx p s m args meth c R w RX6 "gutterOf" cX6_gutterOf 3 (some .int) 4 87 0 0 := CX
    show ZW p l e R s m args below meth c w 3 _ _ 0 0 (MQ below (Qn w _ _ _) args s 0 0 (wA w)) 0 [(0, .ref (wB w + k)), (1, .int _), (2, .int _)] []
    refine z_aload_n CX 0 dX6_gutterOf_0 rfl rfl ?_
    refine z_aload_n CX 0 dX6_gutterOf_1 rfl rfl ?_
    refine z_get CX dX6_gutterOf_2 fg_X6_7 mo_0 rfl ?_
    refine z_iload_n CX 1 dX6_gutterOf_5 rfl rfl ?_
    refine z_callS1 CX dX6_gutterOf_6 cs_X6_46 (Cn.row mq_0 mq_0 (a := k + 1) (c_isG hO.1.1.1 (by have := hO.1.1.2.1; omega) _)) rfl rfl (Nat.le_of_ble_eq_true rfl) ⟨Nat.le_of_ble_eq_true rfl, Nat.le_of_ble_eq_true rfl⟩ ⟨Nat.le_refl _, Nat.le_refl _⟩ ?_
    refine z_if_ne CX 16 dX6_gutterOf_9 (by decide) (fun q9 => absurd q9 (fun q => q (bI_0 h0))) (fun _ => ?_)
    refine z_iconst CX (v := 1) dX6_gutterOf_12 (by decide) ?_
    refine z_goto CX 33 dX6_gutterOf_13 (by decide) ?_
    refine z_callV1 CX dX6_gutterOf_33 cv_X6_122 (c_ref _) mo_0 rfl rfl (Nat.le_of_ble_eq_true rfl) ⟨Nat.le_of_ble_eq_true rfl, Nat.le_of_ble_eq_true rfl⟩ ⟨Nat.le_refl _, Nat.le_refl _⟩ ?_
    refine z_if_eq CX 41 dX6_gutterOf_36 (by decide) (fun q9 => absurd q9 (by decide)) (fun _ => ?_)
    refine z_iconst CX (v := 0) dX6_gutterOf_39 (by decide) ?_
    exact z_iret CX dX6_gutterOf_40 rfl rfl rfl (Or.inl rfl)
set_option maxHeartbeats 4000000 in
set_option maxRecDepth 100000 in
theorem m_boatOf {l : Launch} {w : Wt} {hs : Hs} {n : Option Nat} {k : Nat} {u : Nat → Int32} {A : Nat → Nat → Int32} (hO : OKr (A 0)) (b x : Int32) : Cn l w mX6_boatOf 0 0 [.ref (wB w + k), .int b, .int x] (modH w hs k u A) n (modH w hs k (rs_boatOf u A b x).2.2.1 (rs_boatOf u A b x).2.2.2) n (some (.int (rs_boatOf u A b x).2.1)) := by
  by_cases h0 : 0 ≤ b ∧ b < nI (bN (A 0))
  · obtain ⟨j, j1, j2, j3⟩ := nI_box (by have := hO.2.2; omega) h0
    have h9 := hO.2.2
    by_cases h1 : 0 ≤ x ∧ x ≤ 10
    · rw [show rs_boatOf u A b x = (0, boV (A 0) j x.toNatClampNeg, upd u 0 0, A) by unfold rs_boatOf; rw [if_pos h0, if_pos h1, j3]]
      obtain ⟨i, i0, i1, i2, i3⟩ := nI_le9 (a := 0) (b := 10) (by omega) (by omega) h1
      rw [i3]
      subst i2
      subst j2
      match i, i1, h1 with
      | 0, _, h1 =>
        skip
        refine Cn.of (d := mX6_boatOf) (by decide +kernel) (Nat.le_of_ble_eq_true rfl) ?_
        intro p e R s m args below meth c CX
        replace CX : Ctx p s m args meth c R w RX6 "boatOf" cX6_boatOf 4 (some .int) 2 46 0 0 := CX
        show ZW p l e R s m args below meth c w 4 _ _ 0 0 (MQ below (Qn w _ _ _) args s 0 0 (wA w)) 0 [(0, .ref (wB w + k)), (1, .int _), (2, .int _)] []
        refine z_aload_n CX 0 dX6_boatOf_0 rfl rfl ?_
        refine z_aload_n CX 0 dX6_boatOf_1 rfl rfl ?_
        refine z_get CX dX6_boatOf_2 fg_X6_7 mo_0 rfl ?_
        refine z_iload_n CX 1 dX6_boatOf_5 rfl rfl ?_
        refine z_callS1 CX dX6_boatOf_6 cs_X6_166 (Cn.row mq_0 mq_0 (a := k + 1) (c_isB hO.1.2.1 (by have := hO.2.2; omega) _)) rfl rfl (Nat.le_of_ble_eq_true rfl) ⟨Nat.le_of_ble_eq_true rfl, Nat.le_of_ble_eq_true rfl⟩ ⟨Nat.le_refl _, Nat.le_refl _⟩ ?_
        refine z_if_ne CX 16 dX6_boatOf_9 (by decide) (fun _ => ?_) (fun q9 => absurd q9 (by rw [bI_1 h0]; decide))
        refine z_iload_n CX 2 dX6_boatOf_16 rfl rfl ?_
        refine z_i2l CX dX6_boatOf_17 rfl ?_
        refine z_lconst CX (v := 0) dX6_boatOf_18 (by decide) ?_
        refine z_ldc2 CX (v := 10) dX6_boatOf_19 (wa_mem 1031 (by decide +kernel) rfl) ?_
        refine z_callS1 CX dX6_boatOf_22 cs_X6_42 (c_inI (0) (10) _ _ _ (by decide) (by decide)) rfl rfl (Nat.le_of_ble_eq_true rfl) ⟨Nat.le_of_ble_eq_true rfl, Nat.le_of_ble_eq_true rfl⟩ ⟨Nat.le_refl _, Nat.le_refl _⟩ ?_
        refine z_if_ne CX 32 dX6_boatOf_25 (by decide) (fun _ => ?_) (fun q9 => absurd q9 (by rw [bI_1 h1]; decide))
        refine z_iconst CX (v := 0) dX6_boatOf_32 (by decide) ?_
        refine z_callV1 CX dX6_boatOf_33 cv_X6_122 (c_ref _) mo_0 rfl rfl (Nat.le_of_ble_eq_true rfl) ⟨Nat.le_of_ble_eq_true rfl, Nat.le_of_ble_eq_true rfl⟩ ⟨Nat.le_refl _, Nat.le_refl _⟩ ?_
        refine z_if_eq CX 41 dX6_boatOf_36 (by decide) (fun _ => ?_) (fun q9 => absurd (by decide) q9)
        refine z_aload_n CX 0 dX6_boatOf_41 rfl rfl ?_
        refine z_get CX dX6_boatOf_42 fg_X6_7 mo_0 rfl ?_
        refine z_iload_n CX 1 dX6_boatOf_45 rfl rfl ?_
        refine z_callS1 CX dX6_boatOf_46 cs_X6_64 (Cn.row mq_0 mq_0 (a := k + 1) (c_state (b := j) (by omega))) rfl rfl (Nat.le_of_ble_eq_true rfl) ⟨Nat.le_of_ble_eq_true rfl, Nat.le_of_ble_eq_true rfl⟩ ⟨Nat.le_refl _, Nat.le_refl _⟩ ?_
        refine z_istore_n CX 3 dX6_boatOf_49 rfl (by decide) ?_
        refine z_iload_n CX 2 dX6_boatOf_50 rfl rfl ?_
        refine z_tabOut CX 149 dX6_boatOf_51 (by decide) (by decide) ?_
        refine z_aload_n CX 0 dX6_boatOf_149 rfl rfl ?_
        refine z_get CX dX6_boatOf_150 fg_X6_7 mo_0 rfl ?_
        refine z_iload_n CX 1 dX6_boatOf_153 rfl rfl ?_
        refine z_callS1 CX dX6_boatOf_154 cs_X6_60 (c_spot j) rfl rfl (Nat.le_of_ble_eq_true rfl) ⟨Nat.le_of_ble_eq_true rfl, Nat.le_of_ble_eq_true rfl⟩ ⟨Nat.le_refl _, Nat.le_refl _⟩ ?_
        refine z_iload_n CX 2 dX6_boatOf_157 rfl rfl ?_
        refine z_iadd CX dX6_boatOf_158 ?_
        refine z_ia CX (j := ((24 + 10 * j) + 0)) dX6_boatOf_159 mo_1 (ix_add rfl rfl) (by omega) (by decide) ?_
        exact z_iret CX dX6_boatOf_160 rfl rfl rfl (Or.inl rfl)
      | 1, _, h1 =>
        skip
        refine Cn.of (d := mX6_boatOf) (by decide +kernel) (Nat.le_of_ble_eq_true rfl) ?_
        intro p e R s m args below meth c CX
        replace CX : Ctx p s m args meth c R w RX6 "boatOf" cX6_boatOf 4 (some .int) 2 46 0 0 := CX
        show ZW p l e R s m args below meth c w 4 _ _ 0 0 (MQ below (Qn w _ _ _) args s 0 0 (wA w)) 0 [(0, .ref (wB w + k)), (1, .int _), (2, .int _)] []
        refine z_aload_n CX 0 dX6_boatOf_0 rfl rfl ?_
        refine z_aload_n CX 0 dX6_boatOf_1 rfl rfl ?_
        refine z_get CX dX6_boatOf_2 fg_X6_7 mo_0 rfl ?_
        refine z_iload_n CX 1 dX6_boatOf_5 rfl rfl ?_
        refine z_callS1 CX dX6_boatOf_6 cs_X6_166 (Cn.row mq_0 mq_0 (a := k + 1) (c_isB hO.1.2.1 (by have := hO.2.2; omega) _)) rfl rfl (Nat.le_of_ble_eq_true rfl) ⟨Nat.le_of_ble_eq_true rfl, Nat.le_of_ble_eq_true rfl⟩ ⟨Nat.le_refl _, Nat.le_refl _⟩ ?_
        refine z_if_ne CX 16 dX6_boatOf_9 (by decide) (fun _ => ?_) (fun q9 => absurd q9 (by rw [bI_1 h0]; decide))
        refine z_iload_n CX 2 dX6_boatOf_16 rfl rfl ?_
        refine z_i2l CX dX6_boatOf_17 rfl ?_
        refine z_lconst CX (v := 0) dX6_boatOf_18 (by decide) ?_
        refine z_ldc2 CX (v := 10) dX6_boatOf_19 (wa_mem 1031 (by decide +kernel) rfl) ?_
        refine z_callS1 CX dX6_boatOf_22 cs_X6_42 (c_inI (0) (10) _ _ _ (by decide) (by decide)) rfl rfl (Nat.le_of_ble_eq_true rfl) ⟨Nat.le_of_ble_eq_true rfl, Nat.le_of_ble_eq_true rfl⟩ ⟨Nat.le_refl _, Nat.le_refl _⟩ ?_
        refine z_if_ne CX 32 dX6_boatOf_25 (by decide) (fun _ => ?_) (fun q9 => absurd q9 (by rw [bI_1 h1]; decide))
        refine z_iconst CX (v := 0) dX6_boatOf_32 (by decide) ?_
        refine z_callV1 CX dX6_boatOf_33 cv_X6_122 (c_ref _) mo_0 rfl rfl (Nat.le_of_ble_eq_true rfl) ⟨Nat.le_of_ble_eq_true rfl, Nat.le_of_ble_eq_true rfl⟩ ⟨Nat.le_refl _, Nat.le_refl _⟩ ?_
        refine z_if_eq CX 41 dX6_boatOf_36 (by decide) (fun _ => ?_) (fun q9 => absurd (by decide) q9)
        refine z_aload_n CX 0 dX6_boatOf_41 rfl rfl ?_
        refine z_get CX dX6_boatOf_42 fg_X6_7 mo_0 rfl ?_
        refine z_iload_n CX 1 dX6_boatOf_45 rfl rfl ?_
        refine z_callS1 CX dX6_boatOf_46 cs_X6_64 (Cn.row mq_0 mq_0 (a := k + 1) (c_state (b := j) (by omega))) rfl rfl (Nat.le_of_ble_eq_true rfl) ⟨Nat.le_of_ble_eq_true rfl, Nat.le_of_ble_eq_true rfl⟩ ⟨Nat.le_refl _, Nat.le_refl _⟩ ?_
        refine z_istore_n CX 3 dX6_boatOf_49 rfl (by decide) ?_
        refine z_iload_n CX 2 dX6_boatOf_50 rfl rfl ?_
        refine z_tabOut CX 149 dX6_boatOf_51 (by decide) (by decide) ?_
        refine z_aload_n CX 0 dX6_boatOf_149 rfl rfl ?_
        refine z_get CX dX6_boatOf_150 fg_X6_7 mo_0 rfl ?_
        refine z_iload_n CX 1 dX6_boatOf_153 rfl rfl ?_
        refine z_callS1 CX dX6_boatOf_154 cs_X6_60 (c_spot j) rfl rfl (Nat.le_of_ble_eq_true rfl) ⟨Nat.le_of_ble_eq_true rfl, Nat.le_of_ble_eq_true rfl⟩ ⟨Nat.le_refl _, Nat.le_refl _⟩ ?_
        refine z_iload_n CX 2 dX6_boatOf_157 rfl rfl ?_
        refine z_iadd CX dX6_boatOf_158 ?_
        refine z_ia CX (j := ((24 + 10 * j) + 1)) dX6_boatOf_159 mo_1 (ix_add rfl rfl) (by omega) (by decide) ?_
        exact z_iret CX dX6_boatOf_160 rfl rfl rfl (Or.inl rfl)
      | 2, _, h1 =>
        skip
        refine Cn.of (d := mX6_boatOf) (by decide +kernel) (Nat.le_of_ble_eq_true rfl) ?_
        intro p e R s m args below meth c CX
        replace CX : Ctx p s m args meth c R w RX6 "boatOf" cX6_boatOf 4 (some .int) 2 46 0 0 := CX
        show ZW p l e R s m args below meth c w 4 _ _ 0 0 (MQ below (Qn w _ _ _) args s 0 0 (wA w)) 0 [(0, .ref (wB w + k)), (1, .int _), (2, .int _)] []
        refine z_aload_n CX 0 dX6_boatOf_0 rfl rfl ?_
        refine z_aload_n CX 0 dX6_boatOf_1 rfl rfl ?_
        refine z_get CX dX6_boatOf_2 fg_X6_7 mo_0 rfl ?_
        refine z_iload_n CX 1 dX6_boatOf_5 rfl rfl ?_
        refine z_callS1 CX dX6_boatOf_6 cs_X6_166 (Cn.row mq_0 mq_0 (a := k + 1) (c_isB hO.1.2.1 (by have := hO.2.2; omega) _)) rfl rfl (Nat.le_of_ble_eq_true rfl) ⟨Nat.le_of_ble_eq_true rfl, Nat.le_of_ble_eq_true rfl⟩ ⟨Nat.le_refl _, Nat.le_refl _⟩ ?_
        refine z_if_ne CX 16 dX6_boatOf_9 (by decide) (fun _ => ?_) (fun q9 => absurd q9 (by rw [bI_1 h0]; decide))
        refine z_iload_n CX 2 dX6_boatOf_16 rfl rfl ?_
        refine z_i2l CX dX6_boatOf_17 rfl ?_
        refine z_lconst CX (v := 0) dX6_boatOf_18 (by decide) ?_
        refine z_ldc2 CX (v := 10) dX6_boatOf_19 (wa_mem 1031 (by decide +kernel) rfl) ?_
        refine z_callS1 CX dX6_boatOf_22 cs_X6_42 (c_inI (0) (10) _ _ _ (by decide) (by decide)) rfl rfl (Nat.le_of_ble_eq_true rfl) ⟨Nat.le_of_ble_eq_true rfl, Nat.le_of_ble_eq_true rfl⟩ ⟨Nat.le_refl _, Nat.le_refl _⟩ ?_
        refine z_if_ne CX 32 dX6_boatOf_25 (by decide) (fun _ => ?_) (fun q9 => absurd q9 (by rw [bI_1 h1]; decide))
        refine z_iconst CX (v := 0) dX6_boatOf_32 (by decide) ?_
        refine z_callV1 CX dX6_boatOf_33 cv_X6_122 (c_ref _) mo_0 rfl rfl (Nat.le_of_ble_eq_true rfl) ⟨Nat.le_of_ble_eq_true rfl, Nat.le_of_ble_eq_true rfl⟩ ⟨Nat.le_refl _, Nat.le_refl _⟩ ?_
        refine z_if_eq CX 41 dX6_boatOf_36 (by decide) (fun _ => ?_) (fun q9 => absurd (by decide) q9)
        refine z_aload_n CX 0 dX6_boatOf_41 rfl rfl ?_
        refine z_get CX dX6_boatOf_42 fg_X6_7 mo_0 rfl ?_
        refine z_iload_n CX 1 dX6_boatOf_45 rfl rfl ?_
        refine z_callS1 CX dX6_boatOf_46 cs_X6_64 (Cn.row mq_0 mq_0 (a := k + 1) (c_state (b := j) (by omega))) rfl rfl (Nat.le_of_ble_eq_true rfl) ⟨Nat.le_of_ble_eq_true rfl, Nat.le_of_ble_eq_true rfl⟩ ⟨Nat.le_refl _, Nat.le_refl _⟩ ?_
        refine z_istore_n CX 3 dX6_boatOf_49 rfl (by decide) ?_
        refine z_iload_n CX 2 dX6_boatOf_50 rfl rfl ?_
        refine z_tabOut CX 149 dX6_boatOf_51 (by decide) (by decide) ?_
        refine z_aload_n CX 0 dX6_boatOf_149 rfl rfl ?_
        refine z_get CX dX6_boatOf_150 fg_X6_7 mo_0 rfl ?_
        refine z_iload_n CX 1 dX6_boatOf_153 rfl rfl ?_
        refine z_callS1 CX dX6_boatOf_154 cs_X6_60 (c_spot j) rfl rfl (Nat.le_of_ble_eq_true rfl) ⟨Nat.le_of_ble_eq_true rfl, Nat.le_of_ble_eq_true rfl⟩ ⟨Nat.le_refl _, Nat.le_refl _⟩ ?_
        refine z_iload_n CX 2 dX6_boatOf_157 rfl rfl ?_
        refine z_iadd CX dX6_boatOf_158 ?_
        refine z_ia CX (j := ((24 + 10 * j) + 2)) dX6_boatOf_159 mo_1 (ix_add rfl rfl) (by omega) (by decide) ?_
        exact z_iret CX dX6_boatOf_160 rfl rfl rfl (Or.inl rfl)
      | 3, _, h1 =>
        skip
        refine Cn.of (d := mX6_boatOf) (by decide +kernel) (Nat.le_of_ble_eq_true rfl) ?_
        intro p e R s m args below meth c CX
        replace CX : Ctx p s m args meth c R w RX6 "boatOf" cX6_boatOf 4 (some .int) 2 46 0 0 := CX
        show ZW p l e R s m args below meth c w 4 _ _ 0 0 (MQ below (Qn w _ _ _) args s 0 0 (wA w)) 0 [(0, .ref (wB w + k)), (1, .int _), (2, .int _)] []
        refine z_aload_n CX 0 dX6_boatOf_0 rfl rfl ?_
        refine z_aload_n CX 0 dX6_boatOf_1 rfl rfl ?_
        refine z_get CX dX6_boatOf_2 fg_X6_7 mo_0 rfl ?_
        refine z_iload_n CX 1 dX6_boatOf_5 rfl rfl ?_
        refine z_callS1 CX dX6_boatOf_6 cs_X6_166 (Cn.row mq_0 mq_0 (a := k + 1) (c_isB hO.1.2.1 (by have := hO.2.2; omega) _)) rfl rfl (Nat.le_of_ble_eq_true rfl) ⟨Nat.le_of_ble_eq_true rfl, Nat.le_of_ble_eq_true rfl⟩ ⟨Nat.le_refl _, Nat.le_refl _⟩ ?_
        refine z_if_ne CX 16 dX6_boatOf_9 (by decide) (fun _ => ?_) (fun q9 => absurd q9 (by rw [bI_1 h0]; decide))
        refine z_iload_n CX 2 dX6_boatOf_16 rfl rfl ?_
        refine z_i2l CX dX6_boatOf_17 rfl ?_
        refine z_lconst CX (v := 0) dX6_boatOf_18 (by decide) ?_
        refine z_ldc2 CX (v := 10) dX6_boatOf_19 (wa_mem 1031 (by decide +kernel) rfl) ?_
        refine z_callS1 CX dX6_boatOf_22 cs_X6_42 (c_inI (0) (10) _ _ _ (by decide) (by decide)) rfl rfl (Nat.le_of_ble_eq_true rfl) ⟨Nat.le_of_ble_eq_true rfl, Nat.le_of_ble_eq_true rfl⟩ ⟨Nat.le_refl _, Nat.le_refl _⟩ ?_
        refine z_if_ne CX 32 dX6_boatOf_25 (by decide) (fun _ => ?_) (fun q9 => absurd q9 (by rw [bI_1 h1]; decide))
        refine z_iconst CX (v := 0) dX6_boatOf_32 (by decide) ?_
        refine z_callV1 CX dX6_boatOf_33 cv_X6_122 (c_ref _) mo_0 rfl rfl (Nat.le_of_ble_eq_true rfl) ⟨Nat.le_of_ble_eq_true rfl, Nat.le_of_ble_eq_true rfl⟩ ⟨Nat.le_refl _, Nat.le_refl _⟩ ?_
        refine z_if_eq CX 41 dX6_boatOf_36 (by decide) (fun _ => ?_) (fun q9 => absurd (by decide) q9)
        refine z_aload_n CX 0 dX6_boatOf_41 rfl rfl ?_
        refine z_get CX dX6_boatOf_42 fg_X6_7 mo_0 rfl ?_
        refine z_iload_n CX 1 dX6_boatOf_45 rfl rfl ?_
        refine z_callS1 CX dX6_boatOf_46 cs_X6_64 (Cn.row mq_0 mq_0 (a := k + 1) (c_state (b := j) (by omega))) rfl rfl (Nat.le_of_ble_eq_true rfl) ⟨Nat.le_of_ble_eq_true rfl, Nat.le_of_ble_eq_true rfl⟩ ⟨Nat.le_refl _, Nat.le_refl _⟩ ?_
        refine z_istore_n CX 3 dX6_boatOf_49 rfl (by decide) ?_
        refine z_iload_n CX 2 dX6_boatOf_50 rfl rfl ?_
        refine z_tabOut CX 149 dX6_boatOf_51 (by decide) (by decide) ?_
        refine z_aload_n CX 0 dX6_boatOf_149 rfl rfl ?_
        refine z_get CX dX6_boatOf_150 fg_X6_7 mo_0 rfl ?_
        refine z_iload_n CX 1 dX6_boatOf_153 rfl rfl ?_
        refine z_callS1 CX dX6_boatOf_154 cs_X6_60 (c_spot j) rfl rfl (Nat.le_of_ble_eq_true rfl) ⟨Nat.le_of_ble_eq_true rfl, Nat.le_of_ble_eq_true rfl⟩ ⟨Nat.le_refl _, Nat.le_refl _⟩ ?_
        refine z_iload_n CX 2 dX6_boatOf_157 rfl rfl ?_
        refine z_iadd CX dX6_boatOf_158 ?_
        refine z_ia CX (j := ((24 + 10 * j) + 3)) dX6_boatOf_159 mo_1 (ix_add rfl rfl) (by omega) (by decide) ?_
        exact z_iret CX dX6_boatOf_160 rfl rfl rfl (Or.inl rfl)
      | 4, _, h1 =>
        skip
        refine Cn.of (d := mX6_boatOf) (by decide +kernel) (Nat.le_of_ble_eq_true rfl) ?_
        intro p e R s m args below meth c CX
        replace CX : Ctx p s m args meth c R w RX6 "boatOf" cX6_boatOf 4 (some .int) 2 46 0 0 := CX
        show ZW p l e R s m args below meth c w 4 _ _ 0 0 (MQ below (Qn w _ _ _) args s 0 0 (wA w)) 0 [(0, .ref (wB w + k)), (1, .int _), (2, .int _)] []
        refine z_aload_n CX 0 dX6_boatOf_0 rfl rfl ?_
        refine z_aload_n CX 0 dX6_boatOf_1 rfl rfl ?_
        refine z_get CX dX6_boatOf_2 fg_X6_7 mo_0 rfl ?_
        refine z_iload_n CX 1 dX6_boatOf_5 rfl rfl ?_
        refine z_callS1 CX dX6_boatOf_6 cs_X6_166 (Cn.row mq_0 mq_0 (a := k + 1) (c_isB hO.1.2.1 (by have := hO.2.2; omega) _)) rfl rfl (Nat.le_of_ble_eq_true rfl) ⟨Nat.le_of_ble_eq_true rfl, Nat.le_of_ble_eq_true rfl⟩ ⟨Nat.le_refl _, Nat.le_refl _⟩ ?_
        refine z_if_ne CX 16 dX6_boatOf_9 (by decide) (fun _ => ?_) (fun q9 => absurd q9 (by rw [bI_1 h0]; decide))
        refine z_iload_n CX 2 dX6_boatOf_16 rfl rfl ?_
        refine z_i2l CX dX6_boatOf_17 rfl ?_
        refine z_lconst CX (v := 0) dX6_boatOf_18 (by decide) ?_
        refine z_ldc2 CX (v := 10) dX6_boatOf_19 (wa_mem 1031 (by decide +kernel) rfl) ?_
        refine z_callS1 CX dX6_boatOf_22 cs_X6_42 (c_inI (0) (10) _ _ _ (by decide) (by decide)) rfl rfl (Nat.le_of_ble_eq_true rfl) ⟨Nat.le_of_ble_eq_true rfl, Nat.le_of_ble_eq_true rfl⟩ ⟨Nat.le_refl _, Nat.le_refl _⟩ ?_
        refine z_if_ne CX 32 dX6_boatOf_25 (by decide) (fun _ => ?_) (fun q9 => absurd q9 (by rw [bI_1 h1]; decide))
        refine z_iconst CX (v := 0) dX6_boatOf_32 (by decide) ?_
        refine z_callV1 CX dX6_boatOf_33 cv_X6_122 (c_ref _) mo_0 rfl rfl (Nat.le_of_ble_eq_true rfl) ⟨Nat.le_of_ble_eq_true rfl, Nat.le_of_ble_eq_true rfl⟩ ⟨Nat.le_refl _, Nat.le_refl _⟩ ?_
        refine z_if_eq CX 41 dX6_boatOf_36 (by decide) (fun _ => ?_) (fun q9 => absurd (by decide) q9)
        refine z_aload_n CX 0 dX6_boatOf_41 rfl rfl ?_
        refine z_get CX dX6_boatOf_42 fg_X6_7 mo_0 rfl ?_
        refine z_iload_n CX 1 dX6_boatOf_45 rfl rfl ?_
        refine z_callS1 CX dX6_boatOf_46 cs_X6_64 (Cn.row mq_0 mq_0 (a := k + 1) (c_state (b := j) (by omega))) rfl rfl (Nat.le_of_ble_eq_true rfl) ⟨Nat.le_of_ble_eq_true rfl, Nat.le_of_ble_eq_true rfl⟩ ⟨Nat.le_refl _, Nat.le_refl _⟩ ?_
        refine z_istore_n CX 3 dX6_boatOf_49 rfl (by decide) ?_
        refine z_iload_n CX 2 dX6_boatOf_50 rfl rfl ?_
        refine z_tabIn CX 92 dX6_boatOf_51 (by decide) (by decide) rfl (by decide) ?_
        refine z_iload_n CX 3 dX6_boatOf_92 rfl rfl ?_
        refine z_iconst CX (v := 1) dX6_boatOf_93 (by decide) ?_
        refine z_icmp_eq CX 102 dX6_boatOf_94 (by decide) (fun c_94 => ?_) (fun c_94 => ?_)
        · skip
          refine z_aload_n CX 0 dX6_boatOf_102 rfl rfl ?_
          refine z_get CX dX6_boatOf_103 fg_X6_7 mo_0 rfl ?_
          refine z_iload_n CX 1 dX6_boatOf_106 rfl rfl ?_
          refine z_callS1 CX dX6_boatOf_107 cs_X6_60 (c_spot j) rfl rfl (Nat.le_of_ble_eq_true rfl) ⟨Nat.le_of_ble_eq_true rfl, Nat.le_of_ble_eq_true rfl⟩ ⟨Nat.le_refl _, Nat.le_refl _⟩ ?_
          refine z_iload_n CX 2 dX6_boatOf_110 rfl rfl ?_
          refine z_iadd CX dX6_boatOf_111 ?_
          refine z_ia CX (j := ((24 + 10 * j) + 4)) dX6_boatOf_112 mo_1 (ix_add rfl rfl) (by omega) (by decide) ?_
          refine z_goto CX 117 dX6_boatOf_113 (by decide) ?_
          exact z_iret CX dX6_boatOf_117 rfl (congrArg Value.int (nv4 (Or.inl c_94))) rfl (Or.inl rfl)
        · skip
          refine z_iload_n CX 3 dX6_boatOf_97 rfl rfl ?_
          refine z_iconst CX (v := 3) dX6_boatOf_98 (by decide) ?_
          refine z_icmp_ne CX 116 dX6_boatOf_99 (by decide) (fun c_99 => ?_) (fun c_99 => ?_)
          · skip
            refine z_iconst CX (v := (-1 : Int32)) dX6_boatOf_116 (by decide) ?_
            exact z_iret CX dX6_boatOf_117 rfl (congrArg Value.int (nv4n (fun z => z.elim c_94 c_99))) rfl (Or.inl rfl)
          · skip
            refine z_aload_n CX 0 dX6_boatOf_102 rfl rfl ?_
            refine z_get CX dX6_boatOf_103 fg_X6_7 mo_0 rfl ?_
            refine z_iload_n CX 1 dX6_boatOf_106 rfl rfl ?_
            refine z_callS1 CX dX6_boatOf_107 cs_X6_60 (c_spot j) rfl rfl (Nat.le_of_ble_eq_true rfl) ⟨Nat.le_of_ble_eq_true rfl, Nat.le_of_ble_eq_true rfl⟩ ⟨Nat.le_refl _, Nat.le_refl _⟩ ?_
            refine z_iload_n CX 2 dX6_boatOf_110 rfl rfl ?_
            refine z_iadd CX dX6_boatOf_111 ?_
            refine z_ia CX (j := ((24 + 10 * j) + 4)) dX6_boatOf_112 mo_1 (ix_add rfl rfl) (by omega) (by decide) ?_
            refine z_goto CX 117 dX6_boatOf_113 (by decide) ?_
            exact z_iret CX dX6_boatOf_117 rfl (congrArg Value.int (nv4 (Or.inr c_99))) rfl (Or.inl rfl)
      | 5, _, h1 =>
        skip
        refine Cn.of (d := mX6_boatOf) (by decide +kernel) (Nat.le_of_ble_eq_true rfl) ?_
        intro p e R s m args below meth c CX
        replace CX : Ctx p s m args meth c R w RX6 "boatOf" cX6_boatOf 4 (some .int) 2 46 0 0 := CX
        show ZW p l e R s m args below meth c w 4 _ _ 0 0 (MQ below (Qn w _ _ _) args s 0 0 (wA w)) 0 [(0, .ref (wB w + k)), (1, .int _), (2, .int _)] []
        refine z_aload_n CX 0 dX6_boatOf_0 rfl rfl ?_
        refine z_aload_n CX 0 dX6_boatOf_1 rfl rfl ?_
        refine z_get CX dX6_boatOf_2 fg_X6_7 mo_0 rfl ?_
        refine z_iload_n CX 1 dX6_boatOf_5 rfl rfl ?_
        refine z_callS1 CX dX6_boatOf_6 cs_X6_166 (Cn.row mq_0 mq_0 (a := k + 1) (c_isB hO.1.2.1 (by have := hO.2.2; omega) _)) rfl rfl (Nat.le_of_ble_eq_true rfl) ⟨Nat.le_of_ble_eq_true rfl, Nat.le_of_ble_eq_true rfl⟩ ⟨Nat.le_refl _, Nat.le_refl _⟩ ?_
        refine z_if_ne CX 16 dX6_boatOf_9 (by decide) (fun _ => ?_) (fun q9 => absurd q9 (by rw [bI_1 h0]; decide))
        refine z_iload_n CX 2 dX6_boatOf_16 rfl rfl ?_
        refine z_i2l CX dX6_boatOf_17 rfl ?_
        refine z_lconst CX (v := 0) dX6_boatOf_18 (by decide) ?_
        refine z_ldc2 CX (v := 10) dX6_boatOf_19 (wa_mem 1031 (by decide +kernel) rfl) ?_
        refine z_callS1 CX dX6_boatOf_22 cs_X6_42 (c_inI (0) (10) _ _ _ (by decide) (by decide)) rfl rfl (Nat.le_of_ble_eq_true rfl) ⟨Nat.le_of_ble_eq_true rfl, Nat.le_of_ble_eq_true rfl⟩ ⟨Nat.le_refl _, Nat.le_refl _⟩ ?_
        refine z_if_ne CX 32 dX6_boatOf_25 (by decide) (fun _ => ?_) (fun q9 => absurd q9 (by rw [bI_1 h1]; decide))
        refine z_iconst CX (v := 0) dX6_boatOf_32 (by decide) ?_
        refine z_callV1 CX dX6_boatOf_33 cv_X6_122 (c_ref _) mo_0 rfl rfl (Nat.le_of_ble_eq_true rfl) ⟨Nat.le_of_ble_eq_true rfl, Nat.le_of_ble_eq_true rfl⟩ ⟨Nat.le_refl _, Nat.le_refl _⟩ ?_
        refine z_if_eq CX 41 dX6_boatOf_36 (by decide) (fun _ => ?_) (fun q9 => absurd (by decide) q9)
        refine z_aload_n CX 0 dX6_boatOf_41 rfl rfl ?_
        refine z_get CX dX6_boatOf_42 fg_X6_7 mo_0 rfl ?_
        refine z_iload_n CX 1 dX6_boatOf_45 rfl rfl ?_
        refine z_callS1 CX dX6_boatOf_46 cs_X6_64 (Cn.row mq_0 mq_0 (a := k + 1) (c_state (b := j) (by omega))) rfl rfl (Nat.le_of_ble_eq_true rfl) ⟨Nat.le_of_ble_eq_true rfl, Nat.le_of_ble_eq_true rfl⟩ ⟨Nat.le_refl _, Nat.le_refl _⟩ ?_
        refine z_istore_n CX 3 dX6_boatOf_49 rfl (by decide) ?_
        refine z_iload_n CX 2 dX6_boatOf_50 rfl rfl ?_
        refine z_tabIn CX 92 dX6_boatOf_51 (by decide) (by decide) rfl (by decide) ?_
        refine z_iload_n CX 3 dX6_boatOf_92 rfl rfl ?_
        refine z_iconst CX (v := 1) dX6_boatOf_93 (by decide) ?_
        refine z_icmp_eq CX 102 dX6_boatOf_94 (by decide) (fun c_94 => ?_) (fun c_94 => ?_)
        · skip
          refine z_aload_n CX 0 dX6_boatOf_102 rfl rfl ?_
          refine z_get CX dX6_boatOf_103 fg_X6_7 mo_0 rfl ?_
          refine z_iload_n CX 1 dX6_boatOf_106 rfl rfl ?_
          refine z_callS1 CX dX6_boatOf_107 cs_X6_60 (c_spot j) rfl rfl (Nat.le_of_ble_eq_true rfl) ⟨Nat.le_of_ble_eq_true rfl, Nat.le_of_ble_eq_true rfl⟩ ⟨Nat.le_refl _, Nat.le_refl _⟩ ?_
          refine z_iload_n CX 2 dX6_boatOf_110 rfl rfl ?_
          refine z_iadd CX dX6_boatOf_111 ?_
          refine z_ia CX (j := ((24 + 10 * j) + 5)) dX6_boatOf_112 mo_1 (ix_add rfl rfl) (by omega) (by decide) ?_
          refine z_goto CX 117 dX6_boatOf_113 (by decide) ?_
          exact z_iret CX dX6_boatOf_117 rfl (congrArg Value.int (nv5 (Or.inl c_94))) rfl (Or.inl rfl)
        · skip
          refine z_iload_n CX 3 dX6_boatOf_97 rfl rfl ?_
          refine z_iconst CX (v := 3) dX6_boatOf_98 (by decide) ?_
          refine z_icmp_ne CX 116 dX6_boatOf_99 (by decide) (fun c_99 => ?_) (fun c_99 => ?_)
          · skip
            refine z_iconst CX (v := (-1 : Int32)) dX6_boatOf_116 (by decide) ?_
            exact z_iret CX dX6_boatOf_117 rfl (congrArg Value.int (nv5n (fun z => z.elim c_94 c_99))) rfl (Or.inl rfl)
          · skip
            refine z_aload_n CX 0 dX6_boatOf_102 rfl rfl ?_
            refine z_get CX dX6_boatOf_103 fg_X6_7 mo_0 rfl ?_
            refine z_iload_n CX 1 dX6_boatOf_106 rfl rfl ?_
            refine z_callS1 CX dX6_boatOf_107 cs_X6_60 (c_spot j) rfl rfl (Nat.le_of_ble_eq_true rfl) ⟨Nat.le_of_ble_eq_true rfl, Nat.le_of_ble_eq_true rfl⟩ ⟨Nat.le_refl _, Nat.le_refl _⟩ ?_
            refine z_iload_n CX 2 dX6_boatOf_110 rfl rfl ?_
            refine z_iadd CX dX6_boatOf_111 ?_
            refine z_ia CX (j := ((24 + 10 * j) + 5)) dX6_boatOf_112 mo_1 (ix_add rfl rfl) (by omega) (by decide) ?_
            refine z_goto CX 117 dX6_boatOf_113 (by decide) ?_
            exact z_iret CX dX6_boatOf_117 rfl (congrArg Value.int (nv5 (Or.inr c_99))) rfl (Or.inl rfl)
      | 6, _, h1 =>
        skip
        refine Cn.of (d := mX6_boatOf) (by decide +kernel) (Nat.le_of_ble_eq_true rfl) ?_
        intro p e R s m args below meth c CX
        replace CX : Ctx p s m args meth c R w RX6 "boatOf" cX6_boatOf 4 (some .int) 2 46 0 0 := CX
        show ZW p l e R s m args below meth c w 4 _ _ 0 0 (MQ below (Qn w _ _ _) args s 0 0 (wA w)) 0 [(0, .ref (wB w + k)), (1, .int _), (2, .int _)] []
        refine z_aload_n CX 0 dX6_boatOf_0 rfl rfl ?_
        refine z_aload_n CX 0 dX6_boatOf_1 rfl rfl ?_
        refine z_get CX dX6_boatOf_2 fg_X6_7 mo_0 rfl ?_
        refine z_iload_n CX 1 dX6_boatOf_5 rfl rfl ?_
        refine z_callS1 CX dX6_boatOf_6 cs_X6_166 (Cn.row mq_0 mq_0 (a := k + 1) (c_isB hO.1.2.1 (by have := hO.2.2; omega) _)) rfl rfl (Nat.le_of_ble_eq_true rfl) ⟨Nat.le_of_ble_eq_true rfl, Nat.le_of_ble_eq_true rfl⟩ ⟨Nat.le_refl _, Nat.le_refl _⟩ ?_
        refine z_if_ne CX 16 dX6_boatOf_9 (by decide) (fun _ => ?_) (fun q9 => absurd q9 (by rw [bI_1 h0]; decide))
        refine z_iload_n CX 2 dX6_boatOf_16 rfl rfl ?_
        refine z_i2l CX dX6_boatOf_17 rfl ?_
        refine z_lconst CX (v := 0) dX6_boatOf_18 (by decide) ?_
        refine z_ldc2 CX (v := 10) dX6_boatOf_19 (wa_mem 1031 (by decide +kernel) rfl) ?_
        refine z_callS1 CX dX6_boatOf_22 cs_X6_42 (c_inI (0) (10) _ _ _ (by decide) (by decide)) rfl rfl (Nat.le_of_ble_eq_true rfl) ⟨Nat.le_of_ble_eq_true rfl, Nat.le_of_ble_eq_true rfl⟩ ⟨Nat.le_refl _, Nat.le_refl _⟩ ?_
        refine z_if_ne CX 32 dX6_boatOf_25 (by decide) (fun _ => ?_) (fun q9 => absurd q9 (by rw [bI_1 h1]; decide))
        refine z_iconst CX (v := 0) dX6_boatOf_32 (by decide) ?_
        refine z_callV1 CX dX6_boatOf_33 cv_X6_122 (c_ref _) mo_0 rfl rfl (Nat.le_of_ble_eq_true rfl) ⟨Nat.le_of_ble_eq_true rfl, Nat.le_of_ble_eq_true rfl⟩ ⟨Nat.le_refl _, Nat.le_refl _⟩ ?_
        refine z_if_eq CX 41 dX6_boatOf_36 (by decide) (fun _ => ?_) (fun q9 => absurd (by decide) q9)
        refine z_aload_n CX 0 dX6_boatOf_41 rfl rfl ?_
        refine z_get CX dX6_boatOf_42 fg_X6_7 mo_0 rfl ?_
        refine z_iload_n CX 1 dX6_boatOf_45 rfl rfl ?_
        refine z_callS1 CX dX6_boatOf_46 cs_X6_64 (Cn.row mq_0 mq_0 (a := k + 1) (c_state (b := j) (by omega))) rfl rfl (Nat.le_of_ble_eq_true rfl) ⟨Nat.le_of_ble_eq_true rfl, Nat.le_of_ble_eq_true rfl⟩ ⟨Nat.le_refl _, Nat.le_refl _⟩ ?_
        refine z_istore_n CX 3 dX6_boatOf_49 rfl (by decide) ?_
        refine z_iload_n CX 2 dX6_boatOf_50 rfl rfl ?_
        refine z_tabIn CX 149 dX6_boatOf_51 (by decide) (by decide) rfl (by decide) ?_
        refine z_aload_n CX 0 dX6_boatOf_149 rfl rfl ?_
        refine z_get CX dX6_boatOf_150 fg_X6_7 mo_0 rfl ?_
        refine z_iload_n CX 1 dX6_boatOf_153 rfl rfl ?_
        refine z_callS1 CX dX6_boatOf_154 cs_X6_60 (c_spot j) rfl rfl (Nat.le_of_ble_eq_true rfl) ⟨Nat.le_of_ble_eq_true rfl, Nat.le_of_ble_eq_true rfl⟩ ⟨Nat.le_refl _, Nat.le_refl _⟩ ?_
        refine z_iload_n CX 2 dX6_boatOf_157 rfl rfl ?_
        refine z_iadd CX dX6_boatOf_158 ?_
        refine z_ia CX (j := ((24 + 10 * j) + 6)) dX6_boatOf_159 mo_1 (ix_add rfl rfl) (by omega) (by decide) ?_
        exact z_iret CX dX6_boatOf_160 rfl rfl rfl (Or.inl rfl)
      | 7, _, h1 =>
        skip
        refine Cn.of (d := mX6_boatOf) (by decide +kernel) (Nat.le_of_ble_eq_true rfl) ?_
        intro p e R s m args below meth c CX
        replace CX : Ctx p s m args meth c R w RX6 "boatOf" cX6_boatOf 4 (some .int) 2 46 0 0 := CX
        show ZW p l e R s m args below meth c w 4 _ _ 0 0 (MQ below (Qn w _ _ _) args s 0 0 (wA w)) 0 [(0, .ref (wB w + k)), (1, .int _), (2, .int _)] []
        refine z_aload_n CX 0 dX6_boatOf_0 rfl rfl ?_
        refine z_aload_n CX 0 dX6_boatOf_1 rfl rfl ?_
        refine z_get CX dX6_boatOf_2 fg_X6_7 mo_0 rfl ?_
        refine z_iload_n CX 1 dX6_boatOf_5 rfl rfl ?_
        refine z_callS1 CX dX6_boatOf_6 cs_X6_166 (Cn.row mq_0 mq_0 (a := k + 1) (c_isB hO.1.2.1 (by have := hO.2.2; omega) _)) rfl rfl (Nat.le_of_ble_eq_true rfl) ⟨Nat.le_of_ble_eq_true rfl, Nat.le_of_ble_eq_true rfl⟩ ⟨Nat.le_refl _, Nat.le_refl _⟩ ?_
        refine z_if_ne CX 16 dX6_boatOf_9 (by decide) (fun _ => ?_) (fun q9 => absurd q9 (by rw [bI_1 h0]; decide))
        refine z_iload_n CX 2 dX6_boatOf_16 rfl rfl ?_
        refine z_i2l CX dX6_boatOf_17 rfl ?_
        refine z_lconst CX (v := 0) dX6_boatOf_18 (by decide) ?_
        refine z_ldc2 CX (v := 10) dX6_boatOf_19 (wa_mem 1031 (by decide +kernel) rfl) ?_
        refine z_callS1 CX dX6_boatOf_22 cs_X6_42 (c_inI (0) (10) _ _ _ (by decide) (by decide)) rfl rfl (Nat.le_of_ble_eq_true rfl) ⟨Nat.le_of_ble_eq_true rfl, Nat.le_of_ble_eq_true rfl⟩ ⟨Nat.le_refl _, Nat.le_refl _⟩ ?_
        refine z_if_ne CX 32 dX6_boatOf_25 (by decide) (fun _ => ?_) (fun q9 => absurd q9 (by rw [bI_1 h1]; decide))
        refine z_iconst CX (v := 0) dX6_boatOf_32 (by decide) ?_
        refine z_callV1 CX dX6_boatOf_33 cv_X6_122 (c_ref _) mo_0 rfl rfl (Nat.le_of_ble_eq_true rfl) ⟨Nat.le_of_ble_eq_true rfl, Nat.le_of_ble_eq_true rfl⟩ ⟨Nat.le_refl _, Nat.le_refl _⟩ ?_
        refine z_if_eq CX 41 dX6_boatOf_36 (by decide) (fun _ => ?_) (fun q9 => absurd (by decide) q9)
        refine z_aload_n CX 0 dX6_boatOf_41 rfl rfl ?_
        refine z_get CX dX6_boatOf_42 fg_X6_7 mo_0 rfl ?_
        refine z_iload_n CX 1 dX6_boatOf_45 rfl rfl ?_
        refine z_callS1 CX dX6_boatOf_46 cs_X6_64 (Cn.row mq_0 mq_0 (a := k + 1) (c_state (b := j) (by omega))) rfl rfl (Nat.le_of_ble_eq_true rfl) ⟨Nat.le_of_ble_eq_true rfl, Nat.le_of_ble_eq_true rfl⟩ ⟨Nat.le_refl _, Nat.le_refl _⟩ ?_
        refine z_istore_n CX 3 dX6_boatOf_49 rfl (by decide) ?_
        refine z_iload_n CX 2 dX6_boatOf_50 rfl rfl ?_
        refine z_tabIn CX 118 dX6_boatOf_51 (by decide) (by decide) rfl (by decide) ?_
        refine z_iload_n CX 3 dX6_boatOf_118 rfl rfl ?_
        refine z_iconst CX (v := 2) dX6_boatOf_119 (by decide) ?_
        refine z_icmp_ne CX 138 dX6_boatOf_120 (by decide) (fun c_120 => ?_) (fun c_120 => ?_)
        · skip
          refine z_iconst CX (v := (-1 : Int32)) dX6_boatOf_138 (by decide) ?_
          exact z_iret CX dX6_boatOf_139 rfl (congrArg Value.int (nv7n c_120)) rfl (Or.inl rfl)
        · skip
          refine z_aload_n CX 0 dX6_boatOf_123 rfl rfl ?_
          refine z_get CX dX6_boatOf_124 fg_X6_7 mo_0 rfl ?_
          refine z_iload_n CX 1 dX6_boatOf_127 rfl rfl ?_
          refine z_callS1 CX dX6_boatOf_128 cs_X6_60 (c_spot j) rfl rfl (Nat.le_of_ble_eq_true rfl) ⟨Nat.le_of_ble_eq_true rfl, Nat.le_of_ble_eq_true rfl⟩ ⟨Nat.le_refl _, Nat.le_refl _⟩ ?_
          refine z_bipush CX (v := 7) dX6_boatOf_131 (by decide) ?_
          refine z_iadd CX dX6_boatOf_133 ?_
          refine z_ia CX (j := ((24 + 10 * j) + 7)) dX6_boatOf_134 mo_1 (ix_add rfl rfl) (by omega) (by decide) ?_
          refine z_goto CX 139 dX6_boatOf_135 (by decide) ?_
          exact z_iret CX dX6_boatOf_139 rfl (congrArg Value.int (nv7 c_120)) rfl (Or.inl rfl)
      | 8, _, h1 =>
        skip
        refine Cn.of (d := mX6_boatOf) (by decide +kernel) (Nat.le_of_ble_eq_true rfl) ?_
        intro p e R s m args below meth c CX
        replace CX : Ctx p s m args meth c R w RX6 "boatOf" cX6_boatOf 4 (some .int) 2 46 0 0 := CX
        show ZW p l e R s m args below meth c w 4 _ _ 0 0 (MQ below (Qn w _ _ _) args s 0 0 (wA w)) 0 [(0, .ref (wB w + k)), (1, .int _), (2, .int _)] []
        refine z_aload_n CX 0 dX6_boatOf_0 rfl rfl ?_
        refine z_aload_n CX 0 dX6_boatOf_1 rfl rfl ?_
        refine z_get CX dX6_boatOf_2 fg_X6_7 mo_0 rfl ?_
        refine z_iload_n CX 1 dX6_boatOf_5 rfl rfl ?_
        refine z_callS1 CX dX6_boatOf_6 cs_X6_166 (Cn.row mq_0 mq_0 (a := k + 1) (c_isB hO.1.2.1 (by have := hO.2.2; omega) _)) rfl rfl (Nat.le_of_ble_eq_true rfl) ⟨Nat.le_of_ble_eq_true rfl, Nat.le_of_ble_eq_true rfl⟩ ⟨Nat.le_refl _, Nat.le_refl _⟩ ?_
        refine z_if_ne CX 16 dX6_boatOf_9 (by decide) (fun _ => ?_) (fun q9 => absurd q9 (by rw [bI_1 h0]; decide))
        refine z_iload_n CX 2 dX6_boatOf_16 rfl rfl ?_
        refine z_i2l CX dX6_boatOf_17 rfl ?_
        refine z_lconst CX (v := 0) dX6_boatOf_18 (by decide) ?_
        refine z_ldc2 CX (v := 10) dX6_boatOf_19 (wa_mem 1031 (by decide +kernel) rfl) ?_
        refine z_callS1 CX dX6_boatOf_22 cs_X6_42 (c_inI (0) (10) _ _ _ (by decide) (by decide)) rfl rfl (Nat.le_of_ble_eq_true rfl) ⟨Nat.le_of_ble_eq_true rfl, Nat.le_of_ble_eq_true rfl⟩ ⟨Nat.le_refl _, Nat.le_refl _⟩ ?_
        refine z_if_ne CX 32 dX6_boatOf_25 (by decide) (fun _ => ?_) (fun q9 => absurd q9 (by rw [bI_1 h1]; decide))
        refine z_iconst CX (v := 0) dX6_boatOf_32 (by decide) ?_
        refine z_callV1 CX dX6_boatOf_33 cv_X6_122 (c_ref _) mo_0 rfl rfl (Nat.le_of_ble_eq_true rfl) ⟨Nat.le_of_ble_eq_true rfl, Nat.le_of_ble_eq_true rfl⟩ ⟨Nat.le_refl _, Nat.le_refl _⟩ ?_
        refine z_if_eq CX 41 dX6_boatOf_36 (by decide) (fun _ => ?_) (fun q9 => absurd (by decide) q9)
        refine z_aload_n CX 0 dX6_boatOf_41 rfl rfl ?_
        refine z_get CX dX6_boatOf_42 fg_X6_7 mo_0 rfl ?_
        refine z_iload_n CX 1 dX6_boatOf_45 rfl rfl ?_
        refine z_callS1 CX dX6_boatOf_46 cs_X6_64 (Cn.row mq_0 mq_0 (a := k + 1) (c_state (b := j) (by omega))) rfl rfl (Nat.le_of_ble_eq_true rfl) ⟨Nat.le_of_ble_eq_true rfl, Nat.le_of_ble_eq_true rfl⟩ ⟨Nat.le_refl _, Nat.le_refl _⟩ ?_
        refine z_istore_n CX 3 dX6_boatOf_49 rfl (by decide) ?_
        refine z_iload_n CX 2 dX6_boatOf_50 rfl rfl ?_
        refine z_tabIn CX 149 dX6_boatOf_51 (by decide) (by decide) rfl (by decide) ?_
        refine z_aload_n CX 0 dX6_boatOf_149 rfl rfl ?_
        refine z_get CX dX6_boatOf_150 fg_X6_7 mo_0 rfl ?_
        refine z_iload_n CX 1 dX6_boatOf_153 rfl rfl ?_
        refine z_callS1 CX dX6_boatOf_154 cs_X6_60 (c_spot j) rfl rfl (Nat.le_of_ble_eq_true rfl) ⟨Nat.le_of_ble_eq_true rfl, Nat.le_of_ble_eq_true rfl⟩ ⟨Nat.le_refl _, Nat.le_refl _⟩ ?_
        refine z_iload_n CX 2 dX6_boatOf_157 rfl rfl ?_
        refine z_iadd CX dX6_boatOf_158 ?_
        refine z_ia CX (j := ((24 + 10 * j) + 8)) dX6_boatOf_159 mo_1 (ix_add rfl rfl) (by omega) (by decide) ?_
        exact z_iret CX dX6_boatOf_160 rfl rfl rfl (Or.inl rfl)
      | 9, _, h1 =>
        skip
        refine Cn.of (d := mX6_boatOf) (by decide +kernel) (Nat.le_of_ble_eq_true rfl) ?_
        intro p e R s m args below meth c CX
        replace CX : Ctx p s m args meth c R w RX6 "boatOf" cX6_boatOf 4 (some .int) 2 46 0 0 := CX
        show ZW p l e R s m args below meth c w 4 _ _ 0 0 (MQ below (Qn w _ _ _) args s 0 0 (wA w)) 0 [(0, .ref (wB w + k)), (1, .int _), (2, .int _)] []
        refine z_aload_n CX 0 dX6_boatOf_0 rfl rfl ?_
        refine z_aload_n CX 0 dX6_boatOf_1 rfl rfl ?_
        refine z_get CX dX6_boatOf_2 fg_X6_7 mo_0 rfl ?_
        refine z_iload_n CX 1 dX6_boatOf_5 rfl rfl ?_
        refine z_callS1 CX dX6_boatOf_6 cs_X6_166 (Cn.row mq_0 mq_0 (a := k + 1) (c_isB hO.1.2.1 (by have := hO.2.2; omega) _)) rfl rfl (Nat.le_of_ble_eq_true rfl) ⟨Nat.le_of_ble_eq_true rfl, Nat.le_of_ble_eq_true rfl⟩ ⟨Nat.le_refl _, Nat.le_refl _⟩ ?_
        refine z_if_ne CX 16 dX6_boatOf_9 (by decide) (fun _ => ?_) (fun q9 => absurd q9 (by rw [bI_1 h0]; decide))
        refine z_iload_n CX 2 dX6_boatOf_16 rfl rfl ?_
        refine z_i2l CX dX6_boatOf_17 rfl ?_
        refine z_lconst CX (v := 0) dX6_boatOf_18 (by decide) ?_
        refine z_ldc2 CX (v := 10) dX6_boatOf_19 (wa_mem 1031 (by decide +kernel) rfl) ?_
        refine z_callS1 CX dX6_boatOf_22 cs_X6_42 (c_inI (0) (10) _ _ _ (by decide) (by decide)) rfl rfl (Nat.le_of_ble_eq_true rfl) ⟨Nat.le_of_ble_eq_true rfl, Nat.le_of_ble_eq_true rfl⟩ ⟨Nat.le_refl _, Nat.le_refl _⟩ ?_
        refine z_if_ne CX 32 dX6_boatOf_25 (by decide) (fun _ => ?_) (fun q9 => absurd q9 (by rw [bI_1 h1]; decide))
        refine z_iconst CX (v := 0) dX6_boatOf_32 (by decide) ?_
        refine z_callV1 CX dX6_boatOf_33 cv_X6_122 (c_ref _) mo_0 rfl rfl (Nat.le_of_ble_eq_true rfl) ⟨Nat.le_of_ble_eq_true rfl, Nat.le_of_ble_eq_true rfl⟩ ⟨Nat.le_refl _, Nat.le_refl _⟩ ?_
        refine z_if_eq CX 41 dX6_boatOf_36 (by decide) (fun _ => ?_) (fun q9 => absurd (by decide) q9)
        refine z_aload_n CX 0 dX6_boatOf_41 rfl rfl ?_
        refine z_get CX dX6_boatOf_42 fg_X6_7 mo_0 rfl ?_
        refine z_iload_n CX 1 dX6_boatOf_45 rfl rfl ?_
        refine z_callS1 CX dX6_boatOf_46 cs_X6_64 (Cn.row mq_0 mq_0 (a := k + 1) (c_state (b := j) (by omega))) rfl rfl (Nat.le_of_ble_eq_true rfl) ⟨Nat.le_of_ble_eq_true rfl, Nat.le_of_ble_eq_true rfl⟩ ⟨Nat.le_refl _, Nat.le_refl _⟩ ?_
        refine z_istore_n CX 3 dX6_boatOf_49 rfl (by decide) ?_
        refine z_iload_n CX 2 dX6_boatOf_50 rfl rfl ?_
        refine z_tabIn CX 149 dX6_boatOf_51 (by decide) (by decide) rfl (by decide) ?_
        refine z_aload_n CX 0 dX6_boatOf_149 rfl rfl ?_
        refine z_get CX dX6_boatOf_150 fg_X6_7 mo_0 rfl ?_
        refine z_iload_n CX 1 dX6_boatOf_153 rfl rfl ?_
        refine z_callS1 CX dX6_boatOf_154 cs_X6_60 (c_spot j) rfl rfl (Nat.le_of_ble_eq_true rfl) ⟨Nat.le_of_ble_eq_true rfl, Nat.le_of_ble_eq_true rfl⟩ ⟨Nat.le_refl _, Nat.le_refl _⟩ ?_
        refine z_iload_n CX 2 dX6_boatOf_157 rfl rfl ?_
        refine z_iadd CX dX6_boatOf_158 ?_
        refine z_ia CX (j := ((24 + 10 * j) + 9)) dX6_boatOf_159 mo_1 (ix_add rfl rfl) (by omega) (by decide) ?_
        exact z_iret CX dX6_boatOf_160 rfl rfl rfl (Or.inl rfl)
      | 10, _, h1 =>
        skip
        refine Cn.of (d := mX6_boatOf) (by decide +kernel) (Nat.le_of_ble_eq_true rfl) ?_
        intro p e R s m args below meth c CX
        replace CX : Ctx p s m args meth c R w RX6 "boatOf" cX6_boatOf 4 (some .int) 2 46 0 0 := CX
        show ZW p l e R s m args below meth c w 4 _ _ 0 0 (MQ below (Qn w _ _ _) args s 0 0 (wA w)) 0 [(0, .ref (wB w + k)), (1, .int _), (2, .int _)] []
        refine z_aload_n CX 0 dX6_boatOf_0 rfl rfl ?_
        refine z_aload_n CX 0 dX6_boatOf_1 rfl rfl ?_
        refine z_get CX dX6_boatOf_2 fg_X6_7 mo_0 rfl ?_
        refine z_iload_n CX 1 dX6_boatOf_5 rfl rfl ?_
        refine z_callS1 CX dX6_boatOf_6 cs_X6_166 (Cn.row mq_0 mq_0 (a := k + 1) (c_isB hO.1.2.1 (by have := hO.2.2; omega) _)) rfl rfl (Nat.le_of_ble_eq_true rfl) ⟨Nat.le_of_ble_eq_true rfl, Nat.le_of_ble_eq_true rfl⟩ ⟨Nat.le_refl _, Nat.le_refl _⟩ ?_
        refine z_if_ne CX 16 dX6_boatOf_9 (by decide) (fun _ => ?_) (fun q9 => absurd q9 (by rw [bI_1 h0]; decide))
        refine z_iload_n CX 2 dX6_boatOf_16 rfl rfl ?_
        refine z_i2l CX dX6_boatOf_17 rfl ?_
        refine z_lconst CX (v := 0) dX6_boatOf_18 (by decide) ?_
        refine z_ldc2 CX (v := 10) dX6_boatOf_19 (wa_mem 1031 (by decide +kernel) rfl) ?_
        refine z_callS1 CX dX6_boatOf_22 cs_X6_42 (c_inI (0) (10) _ _ _ (by decide) (by decide)) rfl rfl (Nat.le_of_ble_eq_true rfl) ⟨Nat.le_of_ble_eq_true rfl, Nat.le_of_ble_eq_true rfl⟩ ⟨Nat.le_refl _, Nat.le_refl _⟩ ?_
        refine z_if_ne CX 32 dX6_boatOf_25 (by decide) (fun _ => ?_) (fun q9 => absurd q9 (by rw [bI_1 h1]; decide))
        refine z_iconst CX (v := 0) dX6_boatOf_32 (by decide) ?_
        refine z_callV1 CX dX6_boatOf_33 cv_X6_122 (c_ref _) mo_0 rfl rfl (Nat.le_of_ble_eq_true rfl) ⟨Nat.le_of_ble_eq_true rfl, Nat.le_of_ble_eq_true rfl⟩ ⟨Nat.le_refl _, Nat.le_refl _⟩ ?_
        refine z_if_eq CX 41 dX6_boatOf_36 (by decide) (fun _ => ?_) (fun q9 => absurd (by decide) q9)
        refine z_aload_n CX 0 dX6_boatOf_41 rfl rfl ?_
        refine z_get CX dX6_boatOf_42 fg_X6_7 mo_0 rfl ?_
        refine z_iload_n CX 1 dX6_boatOf_45 rfl rfl ?_
        refine z_callS1 CX dX6_boatOf_46 cs_X6_64 (Cn.row mq_0 mq_0 (a := k + 1) (c_state (b := j) (by omega))) rfl rfl (Nat.le_of_ble_eq_true rfl) ⟨Nat.le_of_ble_eq_true rfl, Nat.le_of_ble_eq_true rfl⟩ ⟨Nat.le_refl _, Nat.le_refl _⟩ ?_
        refine z_istore_n CX 3 dX6_boatOf_49 rfl (by decide) ?_
        refine z_iload_n CX 2 dX6_boatOf_50 rfl rfl ?_
        refine z_tabIn CX 140 dX6_boatOf_51 (by decide) (by decide) rfl (by decide) ?_
        refine z_aload_n CX 0 dX6_boatOf_140 rfl rfl ?_
        refine z_get CX dX6_boatOf_141 fg_X6_7 mo_0 rfl ?_
        refine z_iload_n CX 1 dX6_boatOf_144 rfl rfl ?_
        refine z_callS1 CX dX6_boatOf_145 cs_X6_75 (Cn.row mq_0 mq_0 (a := k + 1) (c_bears (b := j) (by omega))) rfl rfl (Nat.le_of_ble_eq_true rfl) ⟨Nat.le_of_ble_eq_true rfl, Nat.le_of_ble_eq_true rfl⟩ ⟨Nat.le_refl _, Nat.le_refl _⟩ ?_
        exact z_iret CX dX6_boatOf_148 rfl rfl rfl (Or.inl rfl)
      | i + 11, h, _ => omega
    · rw [show rs_boatOf u A b x = bad 2 u A by unfold rs_boatOf; rw [if_pos h0, if_neg h1]]
      refine Cn.of (d := mX6_boatOf) (by decide +kernel) (Nat.le_of_ble_eq_true rfl) ?_
      intro p e R s m args below meth c CX
      replace CX : Ctx p s m args meth c R w RX6 "boatOf" cX6_boatOf 4 (some .int) 2 46 0 0 := CX
      show ZW p l e R s m args below meth c w 4 _ _ 0 0 (MQ below (Qn w _ _ _) args s 0 0 (wA w)) 0 [(0, .ref (wB w + k)), (1, .int _), (2, .int _)] []
      refine z_aload_n CX 0 dX6_boatOf_0 rfl rfl ?_
      refine z_aload_n CX 0 dX6_boatOf_1 rfl rfl ?_
      refine z_get CX dX6_boatOf_2 fg_X6_7 mo_0 rfl ?_
      refine z_iload_n CX 1 dX6_boatOf_5 rfl rfl ?_
      refine z_callS1 CX dX6_boatOf_6 cs_X6_166 (Cn.row mq_0 mq_0 (a := k + 1) (c_isB hO.1.2.1 (by have := hO.2.2; omega) _)) rfl rfl (Nat.le_of_ble_eq_true rfl) ⟨Nat.le_of_ble_eq_true rfl, Nat.le_of_ble_eq_true rfl⟩ ⟨Nat.le_refl _, Nat.le_refl _⟩ ?_
      refine z_if_ne CX 16 dX6_boatOf_9 (by decide) (fun _ => ?_) (fun q9 => absurd q9 (by rw [bI_1 h0]; decide))
      refine z_iload_n CX 2 dX6_boatOf_16 rfl rfl ?_
      refine z_i2l CX dX6_boatOf_17 rfl ?_
      refine z_lconst CX (v := 0) dX6_boatOf_18 (by decide) ?_
      refine z_ldc2 CX (v := 10) dX6_boatOf_19 (wa_mem 1031 (by decide +kernel) rfl) ?_
      refine z_callS1 CX dX6_boatOf_22 cs_X6_42 (c_inI (0) (10) _ _ _ (by decide) (by decide)) rfl rfl (Nat.le_of_ble_eq_true rfl) ⟨Nat.le_of_ble_eq_true rfl, Nat.le_of_ble_eq_true rfl⟩ ⟨Nat.le_refl _, Nat.le_refl _⟩ ?_
      refine z_if_ne CX 32 dX6_boatOf_25 (by decide) (fun q9 => absurd q9 (fun q => q (bI_0 h1))) (fun _ => ?_)
      refine z_iconst CX (v := 2) dX6_boatOf_28 (by decide) ?_
      refine z_goto CX 33 dX6_boatOf_29 (by decide) ?_
      refine z_callV1 CX dX6_boatOf_33 cv_X6_122 (c_ref _) mo_0 rfl rfl (Nat.le_of_ble_eq_true rfl) ⟨Nat.le_of_ble_eq_true rfl, Nat.le_of_ble_eq_true rfl⟩ ⟨Nat.le_refl _, Nat.le_refl _⟩ ?_
      refine z_if_eq CX 41 dX6_boatOf_36 (by decide) (fun q9 => absurd q9 (by decide)) (fun _ => ?_)
      refine z_iconst CX (v := 0) dX6_boatOf_39 (by decide) ?_
      exact z_iret CX dX6_boatOf_40 rfl rfl rfl (Or.inl rfl)
  · rw [show rs_boatOf u A b x = bad 1 u A from if_neg h0]
    refine Cn.of (d := mX6_boatOf) (by decide +kernel) (Nat.le_of_ble_eq_true rfl) ?_
    intro p e R s m args below meth c CX
    replace CX : Ctx p s m args meth c R w RX6 "boatOf" cX6_boatOf 4 (some .int) 2 46 0 0 := CX
    show ZW p l e R s m args below meth c w 4 _ _ 0 0 (MQ below (Qn w _ _ _) args s 0 0 (wA w)) 0 [(0, .ref (wB w + k)), (1, .int _), (2, .int _)] []
    refine z_aload_n CX 0 dX6_boatOf_0 rfl rfl ?_
    refine z_aload_n CX 0 dX6_boatOf_1 rfl rfl ?_
    refine z_get CX dX6_boatOf_2 fg_X6_7 mo_0 rfl ?_
    refine z_iload_n CX 1 dX6_boatOf_5 rfl rfl ?_
    refine z_callS1 CX dX6_boatOf_6 cs_X6_166 (Cn.row mq_0 mq_0 (a := k + 1) (c_isB hO.1.2.1 (by have := hO.2.2; omega) _)) rfl rfl (Nat.le_of_ble_eq_true rfl) ⟨Nat.le_of_ble_eq_true rfl, Nat.le_of_ble_eq_true rfl⟩ ⟨Nat.le_refl _, Nat.le_refl _⟩ ?_
    refine z_if_ne CX 16 dX6_boatOf_9 (by decide) (fun q9 => absurd q9 (fun q => q (bI_0 h0))) (fun _ => ?_)
    refine z_iconst CX (v := 1) dX6_boatOf_12 (by decide) ?_
    refine z_goto CX 33 dX6_boatOf_13 (by decide) ?_
    refine z_callV1 CX dX6_boatOf_33 cv_X6_122 (c_ref _) mo_0 rfl rfl (Nat.le_of_ble_eq_true rfl) ⟨Nat.le_of_ble_eq_true rfl, Nat.le_of_ble_eq_true rfl⟩ ⟨Nat.le_refl _, Nat.le_refl _⟩ ?_
    refine z_if_eq CX 41 dX6_boatOf_36 (by decide) (fun q9 => absurd q9 (by decide)) (fun _ => ?_)
    refine z_iconst CX (v := 0) dX6_boatOf_39 (by decide) ?_
    exact z_iret CX dX6_boatOf_40 rfl rfl rfl (Or.inl rfl)
set_option maxHeartbeats 4000000 in
set_option maxRecDepth 100000 in
theorem m_ownerOf {l : Launch} {w : Wt} {hs : Hs} {n : Option Nat} {k : Nat} {u : Nat → Int32} {A : Nat → Nat → Int32} (hO : OKr (A 0)) (o x : Int32) : Cn l w mX6_ownerOf 0 0 [.ref (wB w + k), .int o, .int x] (modH w hs k u A) n (modH w hs k (rs_ownerOf u A o x).2.2.1 (rs_ownerOf u A o x).2.2.2) n (some (.int (rs_ownerOf u A o x).2.1)) := by
  by_cases h0 : 0 ≤ o ∧ o ≤ 3
  · obtain ⟨j, j0, j1, j2, j3⟩ := nI_le9 (a := 0) (b := 3) (by omega) (by omega) h0
    have h9 := hO.2.2
    by_cases h1 : 0 ≤ x ∧ x ≤ 4
    · rw [show rs_ownerOf u A o x = (0, owV (A 0) j x.toNatClampNeg, upd u 0 0, A) by unfold rs_ownerOf; rw [if_pos h0, if_pos h1, j3]]
      obtain ⟨i, i0, i1, i2, i3⟩ := nI_le9 (a := 0) (b := 4) (by omega) (by omega) h1
      rw [i3]
      subst i2
      subst j2
      match i, i1, h1 with
      | 0, _, h1 =>
        skip
        refine Cn.of (d := mX6_ownerOf) (by decide +kernel) (Nat.le_of_ble_eq_true rfl) ?_
        intro p e R s m args below meth c CX
        replace CX : Ctx p s m args meth c R w RX6 "ownerOf" cX6_ownerOf 3 (some .int) 4 89 0 0 := CX
        show ZW p l e R s m args below meth c w 3 _ _ 0 0 (MQ below (Qn w _ _ _) args s 0 0 (wA w)) 0 [(0, .ref (wB w + k)), (1, .int _), (2, .int _)] []
        refine z_aload_n CX 0 dX6_ownerOf_0 rfl rfl ?_
        refine z_iload_n CX 1 dX6_ownerOf_1 rfl rfl ?_
        refine z_callS1 CX dX6_ownerOf_2 cs_X6_232 (c_isO _) rfl rfl (Nat.le_of_ble_eq_true rfl) ⟨Nat.le_of_ble_eq_true rfl, Nat.le_of_ble_eq_true rfl⟩ ⟨Nat.le_refl _, Nat.le_refl _⟩ ?_
        refine z_if_ne CX 12 dX6_ownerOf_5 (by decide) (fun _ => ?_) (fun q9 => absurd q9 (by rw [bI_1 h0]; decide))
        refine z_iload_n CX 2 dX6_ownerOf_12 rfl rfl ?_
        refine z_i2l CX dX6_ownerOf_13 rfl ?_
        refine z_lconst CX (v := 0) dX6_ownerOf_14 (by decide) ?_
        refine z_ldc2 CX (v := 4) dX6_ownerOf_15 (wa_mem 1039 (by decide +kernel) rfl) ?_
        refine z_callS1 CX dX6_ownerOf_18 cs_X6_42 (c_inI (0) (4) _ _ _ (by decide) (by decide)) rfl rfl (Nat.le_of_ble_eq_true rfl) ⟨Nat.le_of_ble_eq_true rfl, Nat.le_of_ble_eq_true rfl⟩ ⟨Nat.le_refl _, Nat.le_refl _⟩ ?_
        refine z_if_ne CX 28 dX6_ownerOf_21 (by decide) (fun _ => ?_) (fun q9 => absurd q9 (by rw [bI_1 h1]; decide))
        refine z_iconst CX (v := 0) dX6_ownerOf_28 (by decide) ?_
        refine z_callV1 CX dX6_ownerOf_29 cv_X6_122 (c_ref _) mo_0 rfl rfl (Nat.le_of_ble_eq_true rfl) ⟨Nat.le_of_ble_eq_true rfl, Nat.le_of_ble_eq_true rfl⟩ ⟨Nat.le_refl _, Nat.le_refl _⟩ ?_
        refine z_if_eq CX 37 dX6_ownerOf_32 (by decide) (fun _ => ?_) (fun q9 => absurd (by decide) q9)
        refine z_iload_n CX 2 dX6_ownerOf_37 rfl rfl ?_
        refine z_tabIn CX 72 dX6_ownerOf_38 (by decide) (by decide) rfl (by decide) ?_
        refine z_aload_n CX 0 dX6_ownerOf_72 rfl rfl ?_
        refine z_get CX dX6_ownerOf_73 fg_X6_7 mo_0 rfl ?_
        refine z_sipush CX (v := 134) dX6_ownerOf_76 (by decide) ?_
        refine z_iconst CX (v := 3) dX6_ownerOf_79 (by decide) ?_
        refine z_iload_n CX 1 dX6_ownerOf_80 rfl rfl ?_
        refine z_imul CX dX6_ownerOf_81 ?_
        refine z_iadd CX dX6_ownerOf_82 ?_
        refine z_ia CX (j := (134 + (3 * j))) dX6_ownerOf_83 mo_1 (ix_add rfl (ix_mul rfl rfl)) (by omega) (by decide) ?_
        exact z_iret CX dX6_ownerOf_84 rfl rfl rfl (Or.inl rfl)
      | 1, _, h1 =>
        skip
        refine Cn.of (d := mX6_ownerOf) (by decide +kernel) (Nat.le_of_ble_eq_true rfl) ?_
        intro p e R s m args below meth c CX
        replace CX : Ctx p s m args meth c R w RX6 "ownerOf" cX6_ownerOf 3 (some .int) 4 89 0 0 := CX
        show ZW p l e R s m args below meth c w 3 _ _ 0 0 (MQ below (Qn w _ _ _) args s 0 0 (wA w)) 0 [(0, .ref (wB w + k)), (1, .int _), (2, .int _)] []
        refine z_aload_n CX 0 dX6_ownerOf_0 rfl rfl ?_
        refine z_iload_n CX 1 dX6_ownerOf_1 rfl rfl ?_
        refine z_callS1 CX dX6_ownerOf_2 cs_X6_232 (c_isO _) rfl rfl (Nat.le_of_ble_eq_true rfl) ⟨Nat.le_of_ble_eq_true rfl, Nat.le_of_ble_eq_true rfl⟩ ⟨Nat.le_refl _, Nat.le_refl _⟩ ?_
        refine z_if_ne CX 12 dX6_ownerOf_5 (by decide) (fun _ => ?_) (fun q9 => absurd q9 (by rw [bI_1 h0]; decide))
        refine z_iload_n CX 2 dX6_ownerOf_12 rfl rfl ?_
        refine z_i2l CX dX6_ownerOf_13 rfl ?_
        refine z_lconst CX (v := 0) dX6_ownerOf_14 (by decide) ?_
        refine z_ldc2 CX (v := 4) dX6_ownerOf_15 (wa_mem 1039 (by decide +kernel) rfl) ?_
        refine z_callS1 CX dX6_ownerOf_18 cs_X6_42 (c_inI (0) (4) _ _ _ (by decide) (by decide)) rfl rfl (Nat.le_of_ble_eq_true rfl) ⟨Nat.le_of_ble_eq_true rfl, Nat.le_of_ble_eq_true rfl⟩ ⟨Nat.le_refl _, Nat.le_refl _⟩ ?_
        refine z_if_ne CX 28 dX6_ownerOf_21 (by decide) (fun _ => ?_) (fun q9 => absurd q9 (by rw [bI_1 h1]; decide))
        refine z_iconst CX (v := 0) dX6_ownerOf_28 (by decide) ?_
        refine z_callV1 CX dX6_ownerOf_29 cv_X6_122 (c_ref _) mo_0 rfl rfl (Nat.le_of_ble_eq_true rfl) ⟨Nat.le_of_ble_eq_true rfl, Nat.le_of_ble_eq_true rfl⟩ ⟨Nat.le_refl _, Nat.le_refl _⟩ ?_
        refine z_if_eq CX 37 dX6_ownerOf_32 (by decide) (fun _ => ?_) (fun q9 => absurd (by decide) q9)
        refine z_iload_n CX 2 dX6_ownerOf_37 rfl rfl ?_
        refine z_tabIn CX 85 dX6_ownerOf_38 (by decide) (by decide) rfl (by decide) ?_
        refine z_aload_n CX 0 dX6_ownerOf_85 rfl rfl ?_
        refine z_iload_n CX 1 dX6_ownerOf_86 rfl rfl ?_
        refine z_callV1 CX dX6_ownerOf_87 cv_X6_235 (c_bOf hO.1.2.1 (by omega) (nI j)) mo_0 rfl rfl (Nat.le_of_ble_eq_true rfl) ⟨Nat.le_of_ble_eq_true rfl, Nat.le_of_ble_eq_true rfl⟩ ⟨Nat.le_refl _, Nat.le_refl _⟩ ?_
        exact z_iret CX dX6_ownerOf_90 rfl rfl rfl (Or.inl rfl)
      | 2, _, h1 =>
        skip
        refine Cn.of (d := mX6_ownerOf) (by decide +kernel) (Nat.le_of_ble_eq_true rfl) ?_
        intro p e R s m args below meth c CX
        replace CX : Ctx p s m args meth c R w RX6 "ownerOf" cX6_ownerOf 3 (some .int) 4 89 0 0 := CX
        show ZW p l e R s m args below meth c w 3 _ _ 0 0 (MQ below (Qn w _ _ _) args s 0 0 (wA w)) 0 [(0, .ref (wB w + k)), (1, .int _), (2, .int _)] []
        refine z_aload_n CX 0 dX6_ownerOf_0 rfl rfl ?_
        refine z_iload_n CX 1 dX6_ownerOf_1 rfl rfl ?_
        refine z_callS1 CX dX6_ownerOf_2 cs_X6_232 (c_isO _) rfl rfl (Nat.le_of_ble_eq_true rfl) ⟨Nat.le_of_ble_eq_true rfl, Nat.le_of_ble_eq_true rfl⟩ ⟨Nat.le_refl _, Nat.le_refl _⟩ ?_
        refine z_if_ne CX 12 dX6_ownerOf_5 (by decide) (fun _ => ?_) (fun q9 => absurd q9 (by rw [bI_1 h0]; decide))
        refine z_iload_n CX 2 dX6_ownerOf_12 rfl rfl ?_
        refine z_i2l CX dX6_ownerOf_13 rfl ?_
        refine z_lconst CX (v := 0) dX6_ownerOf_14 (by decide) ?_
        refine z_ldc2 CX (v := 4) dX6_ownerOf_15 (wa_mem 1039 (by decide +kernel) rfl) ?_
        refine z_callS1 CX dX6_ownerOf_18 cs_X6_42 (c_inI (0) (4) _ _ _ (by decide) (by decide)) rfl rfl (Nat.le_of_ble_eq_true rfl) ⟨Nat.le_of_ble_eq_true rfl, Nat.le_of_ble_eq_true rfl⟩ ⟨Nat.le_refl _, Nat.le_refl _⟩ ?_
        refine z_if_ne CX 28 dX6_ownerOf_21 (by decide) (fun _ => ?_) (fun q9 => absurd q9 (by rw [bI_1 h1]; decide))
        refine z_iconst CX (v := 0) dX6_ownerOf_28 (by decide) ?_
        refine z_callV1 CX dX6_ownerOf_29 cv_X6_122 (c_ref _) mo_0 rfl rfl (Nat.le_of_ble_eq_true rfl) ⟨Nat.le_of_ble_eq_true rfl, Nat.le_of_ble_eq_true rfl⟩ ⟨Nat.le_refl _, Nat.le_refl _⟩ ?_
        refine z_if_eq CX 37 dX6_ownerOf_32 (by decide) (fun _ => ?_) (fun q9 => absurd (by decide) q9)
        refine z_iload_n CX 2 dX6_ownerOf_37 rfl rfl ?_
        refine z_tabIn CX 100 dX6_ownerOf_38 (by decide) (by decide) rfl (by decide) ?_
        refine z_aload_n CX 0 dX6_ownerOf_100 rfl rfl ?_
        refine z_get CX dX6_ownerOf_101 fg_X6_7 mo_0 rfl ?_
        refine z_sipush CX (v := 134) dX6_ownerOf_104 (by decide) ?_
        refine z_iconst CX (v := 3) dX6_ownerOf_107 (by decide) ?_
        refine z_iload_n CX 1 dX6_ownerOf_108 rfl rfl ?_
        refine z_imul CX dX6_ownerOf_109 ?_
        refine z_iadd CX dX6_ownerOf_110 ?_
        refine z_iload_n CX 2 dX6_ownerOf_111 rfl rfl ?_
        refine z_iadd CX dX6_ownerOf_112 ?_
        refine z_iconst CX (v := 1) dX6_ownerOf_113 (by decide) ?_
        rw [show (134 : Int32) + 3 * nI j + nI 2 = nI (134 + 3 * j + 2) from ix_add (ix_add rfl (ix_mul rfl rfl)) rfl]
        refine z_isub CX dX6_ownerOf_114 ?_
        rw [nI_pred (134 + 3 * j + 1)]
        refine z_ia CX (j := 134 + 3 * j + 1) dX6_ownerOf_115 mo_1 rfl (by omega) (by decide) ?_
        exact z_iret CX dX6_ownerOf_116 rfl rfl rfl (Or.inl rfl)
      | 3, _, h1 =>
        skip
        refine Cn.of (d := mX6_ownerOf) (by decide +kernel) (Nat.le_of_ble_eq_true rfl) ?_
        intro p e R s m args below meth c CX
        replace CX : Ctx p s m args meth c R w RX6 "ownerOf" cX6_ownerOf 3 (some .int) 4 89 0 0 := CX
        show ZW p l e R s m args below meth c w 3 _ _ 0 0 (MQ below (Qn w _ _ _) args s 0 0 (wA w)) 0 [(0, .ref (wB w + k)), (1, .int _), (2, .int _)] []
        refine z_aload_n CX 0 dX6_ownerOf_0 rfl rfl ?_
        refine z_iload_n CX 1 dX6_ownerOf_1 rfl rfl ?_
        refine z_callS1 CX dX6_ownerOf_2 cs_X6_232 (c_isO _) rfl rfl (Nat.le_of_ble_eq_true rfl) ⟨Nat.le_of_ble_eq_true rfl, Nat.le_of_ble_eq_true rfl⟩ ⟨Nat.le_refl _, Nat.le_refl _⟩ ?_
        refine z_if_ne CX 12 dX6_ownerOf_5 (by decide) (fun _ => ?_) (fun q9 => absurd q9 (by rw [bI_1 h0]; decide))
        refine z_iload_n CX 2 dX6_ownerOf_12 rfl rfl ?_
        refine z_i2l CX dX6_ownerOf_13 rfl ?_
        refine z_lconst CX (v := 0) dX6_ownerOf_14 (by decide) ?_
        refine z_ldc2 CX (v := 4) dX6_ownerOf_15 (wa_mem 1039 (by decide +kernel) rfl) ?_
        refine z_callS1 CX dX6_ownerOf_18 cs_X6_42 (c_inI (0) (4) _ _ _ (by decide) (by decide)) rfl rfl (Nat.le_of_ble_eq_true rfl) ⟨Nat.le_of_ble_eq_true rfl, Nat.le_of_ble_eq_true rfl⟩ ⟨Nat.le_refl _, Nat.le_refl _⟩ ?_
        refine z_if_ne CX 28 dX6_ownerOf_21 (by decide) (fun _ => ?_) (fun q9 => absurd q9 (by rw [bI_1 h1]; decide))
        refine z_iconst CX (v := 0) dX6_ownerOf_28 (by decide) ?_
        refine z_callV1 CX dX6_ownerOf_29 cv_X6_122 (c_ref _) mo_0 rfl rfl (Nat.le_of_ble_eq_true rfl) ⟨Nat.le_of_ble_eq_true rfl, Nat.le_of_ble_eq_true rfl⟩ ⟨Nat.le_refl _, Nat.le_refl _⟩ ?_
        refine z_if_eq CX 37 dX6_ownerOf_32 (by decide) (fun _ => ?_) (fun q9 => absurd (by decide) q9)
        refine z_iload_n CX 2 dX6_ownerOf_37 rfl rfl ?_
        refine z_tabIn CX 100 dX6_ownerOf_38 (by decide) (by decide) rfl (by decide) ?_
        refine z_aload_n CX 0 dX6_ownerOf_100 rfl rfl ?_
        refine z_get CX dX6_ownerOf_101 fg_X6_7 mo_0 rfl ?_
        refine z_sipush CX (v := 134) dX6_ownerOf_104 (by decide) ?_
        refine z_iconst CX (v := 3) dX6_ownerOf_107 (by decide) ?_
        refine z_iload_n CX 1 dX6_ownerOf_108 rfl rfl ?_
        refine z_imul CX dX6_ownerOf_109 ?_
        refine z_iadd CX dX6_ownerOf_110 ?_
        refine z_iload_n CX 2 dX6_ownerOf_111 rfl rfl ?_
        refine z_iadd CX dX6_ownerOf_112 ?_
        refine z_iconst CX (v := 1) dX6_ownerOf_113 (by decide) ?_
        rw [show (134 : Int32) + 3 * nI j + nI 3 = nI (134 + 3 * j + 3) from ix_add (ix_add rfl (ix_mul rfl rfl)) rfl]
        refine z_isub CX dX6_ownerOf_114 ?_
        rw [nI_pred (134 + 3 * j + 2)]
        refine z_ia CX (j := 134 + 3 * j + 2) dX6_ownerOf_115 mo_1 rfl (by omega) (by decide) ?_
        exact z_iret CX dX6_ownerOf_116 rfl rfl rfl (Or.inl rfl)
      | 4, _, h1 =>
        skip
        refine Cn.of (d := mX6_ownerOf) (by decide +kernel) (Nat.le_of_ble_eq_true rfl) ?_
        intro p e R s m args below meth c CX
        replace CX : Ctx p s m args meth c R w RX6 "ownerOf" cX6_ownerOf 3 (some .int) 4 89 0 0 := CX
        show ZW p l e R s m args below meth c w 3 _ _ 0 0 (MQ below (Qn w _ _ _) args s 0 0 (wA w)) 0 [(0, .ref (wB w + k)), (1, .int _), (2, .int _)] []
        refine z_aload_n CX 0 dX6_ownerOf_0 rfl rfl ?_
        refine z_iload_n CX 1 dX6_ownerOf_1 rfl rfl ?_
        refine z_callS1 CX dX6_ownerOf_2 cs_X6_232 (c_isO _) rfl rfl (Nat.le_of_ble_eq_true rfl) ⟨Nat.le_of_ble_eq_true rfl, Nat.le_of_ble_eq_true rfl⟩ ⟨Nat.le_refl _, Nat.le_refl _⟩ ?_
        refine z_if_ne CX 12 dX6_ownerOf_5 (by decide) (fun _ => ?_) (fun q9 => absurd q9 (by rw [bI_1 h0]; decide))
        refine z_iload_n CX 2 dX6_ownerOf_12 rfl rfl ?_
        refine z_i2l CX dX6_ownerOf_13 rfl ?_
        refine z_lconst CX (v := 0) dX6_ownerOf_14 (by decide) ?_
        refine z_ldc2 CX (v := 4) dX6_ownerOf_15 (wa_mem 1039 (by decide +kernel) rfl) ?_
        refine z_callS1 CX dX6_ownerOf_18 cs_X6_42 (c_inI (0) (4) _ _ _ (by decide) (by decide)) rfl rfl (Nat.le_of_ble_eq_true rfl) ⟨Nat.le_of_ble_eq_true rfl, Nat.le_of_ble_eq_true rfl⟩ ⟨Nat.le_refl _, Nat.le_refl _⟩ ?_
        refine z_if_ne CX 28 dX6_ownerOf_21 (by decide) (fun _ => ?_) (fun q9 => absurd q9 (by rw [bI_1 h1]; decide))
        refine z_iconst CX (v := 0) dX6_ownerOf_28 (by decide) ?_
        refine z_callV1 CX dX6_ownerOf_29 cv_X6_122 (c_ref _) mo_0 rfl rfl (Nat.le_of_ble_eq_true rfl) ⟨Nat.le_of_ble_eq_true rfl, Nat.le_of_ble_eq_true rfl⟩ ⟨Nat.le_refl _, Nat.le_refl _⟩ ?_
        refine z_if_eq CX 37 dX6_ownerOf_32 (by decide) (fun _ => ?_) (fun q9 => absurd (by decide) q9)
        refine z_iload_n CX 2 dX6_ownerOf_37 rfl rfl ?_
        refine z_tabIn CX 91 dX6_ownerOf_38 (by decide) (by decide) rfl (by decide) ?_
        refine z_aload_n CX 0 dX6_ownerOf_91 rfl rfl ?_
        refine z_get CX dX6_ownerOf_92 fg_X6_7 mo_0 rfl ?_
        refine z_iload_n CX 1 dX6_ownerOf_95 rfl rfl ?_
        refine z_callS1 CX dX6_ownerOf_96 cs_X6_105 (Cn.row mq_0 mq_0 (a := k + 1) (c_clb (o := j) hO.1.2.1 (by omega) (by omega))) rfl rfl (Nat.le_of_ble_eq_true rfl) ⟨Nat.le_of_ble_eq_true rfl, Nat.le_of_ble_eq_true rfl⟩ ⟨Nat.le_refl _, Nat.le_refl _⟩ ?_
        exact z_iret CX dX6_ownerOf_99 rfl rfl rfl (Or.inl rfl)
      | i + 5, h, _ => omega
    · rw [show rs_ownerOf u A o x = bad 2 u A by unfold rs_ownerOf; rw [if_pos h0, if_neg h1]]
      refine Cn.of (d := mX6_ownerOf) (by decide +kernel) (Nat.le_of_ble_eq_true rfl) ?_
      intro p e R s m args below meth c CX
      replace CX : Ctx p s m args meth c R w RX6 "ownerOf" cX6_ownerOf 3 (some .int) 4 89 0 0 := CX
      show ZW p l e R s m args below meth c w 3 _ _ 0 0 (MQ below (Qn w _ _ _) args s 0 0 (wA w)) 0 [(0, .ref (wB w + k)), (1, .int _), (2, .int _)] []
      refine z_aload_n CX 0 dX6_ownerOf_0 rfl rfl ?_
      refine z_iload_n CX 1 dX6_ownerOf_1 rfl rfl ?_
      refine z_callS1 CX dX6_ownerOf_2 cs_X6_232 (c_isO _) rfl rfl (Nat.le_of_ble_eq_true rfl) ⟨Nat.le_of_ble_eq_true rfl, Nat.le_of_ble_eq_true rfl⟩ ⟨Nat.le_refl _, Nat.le_refl _⟩ ?_
      refine z_if_ne CX 12 dX6_ownerOf_5 (by decide) (fun _ => ?_) (fun q9 => absurd q9 (by rw [bI_1 h0]; decide))
      refine z_iload_n CX 2 dX6_ownerOf_12 rfl rfl ?_
      refine z_i2l CX dX6_ownerOf_13 rfl ?_
      refine z_lconst CX (v := 0) dX6_ownerOf_14 (by decide) ?_
      refine z_ldc2 CX (v := 4) dX6_ownerOf_15 (wa_mem 1039 (by decide +kernel) rfl) ?_
      refine z_callS1 CX dX6_ownerOf_18 cs_X6_42 (c_inI (0) (4) _ _ _ (by decide) (by decide)) rfl rfl (Nat.le_of_ble_eq_true rfl) ⟨Nat.le_of_ble_eq_true rfl, Nat.le_of_ble_eq_true rfl⟩ ⟨Nat.le_refl _, Nat.le_refl _⟩ ?_
      refine z_if_ne CX 28 dX6_ownerOf_21 (by decide) (fun q9 => absurd q9 (fun q => q (bI_0 h1))) (fun _ => ?_)
      refine z_iconst CX (v := 2) dX6_ownerOf_24 (by decide) ?_
      refine z_goto CX 29 dX6_ownerOf_25 (by decide) ?_
      refine z_callV1 CX dX6_ownerOf_29 cv_X6_122 (c_ref _) mo_0 rfl rfl (Nat.le_of_ble_eq_true rfl) ⟨Nat.le_of_ble_eq_true rfl, Nat.le_of_ble_eq_true rfl⟩ ⟨Nat.le_refl _, Nat.le_refl _⟩ ?_
      refine z_if_eq CX 37 dX6_ownerOf_32 (by decide) (fun q9 => absurd q9 (by decide)) (fun _ => ?_)
      refine z_iconst CX (v := 0) dX6_ownerOf_35 (by decide) ?_
      exact z_iret CX dX6_ownerOf_36 rfl rfl rfl (Or.inl rfl)
  · rw [show rs_ownerOf u A o x = bad 1 u A from if_neg h0]
    refine Cn.of (d := mX6_ownerOf) (by decide +kernel) (Nat.le_of_ble_eq_true rfl) ?_
    intro p e R s m args below meth c CX
    replace CX : Ctx p s m args meth c R w RX6 "ownerOf" cX6_ownerOf 3 (some .int) 4 89 0 0 := CX
    show ZW p l e R s m args below meth c w 3 _ _ 0 0 (MQ below (Qn w _ _ _) args s 0 0 (wA w)) 0 [(0, .ref (wB w + k)), (1, .int _), (2, .int _)] []
    refine z_aload_n CX 0 dX6_ownerOf_0 rfl rfl ?_
    refine z_iload_n CX 1 dX6_ownerOf_1 rfl rfl ?_
    refine z_callS1 CX dX6_ownerOf_2 cs_X6_232 (c_isO _) rfl rfl (Nat.le_of_ble_eq_true rfl) ⟨Nat.le_of_ble_eq_true rfl, Nat.le_of_ble_eq_true rfl⟩ ⟨Nat.le_refl _, Nat.le_refl _⟩ ?_
    refine z_if_ne CX 12 dX6_ownerOf_5 (by decide) (fun q9 => absurd q9 (fun q => q (bI_0 h0))) (fun _ => ?_)
    refine z_iconst CX (v := 1) dX6_ownerOf_8 (by decide) ?_
    refine z_goto CX 29 dX6_ownerOf_9 (by decide) ?_
    refine z_callV1 CX dX6_ownerOf_29 cv_X6_122 (c_ref _) mo_0 rfl rfl (Nat.le_of_ble_eq_true rfl) ⟨Nat.le_of_ble_eq_true rfl, Nat.le_of_ble_eq_true rfl⟩ ⟨Nat.le_refl _, Nat.le_refl _⟩ ?_
    refine z_if_eq CX 37 dX6_ownerOf_32 (by decide) (fun q9 => absurd q9 (by decide)) (fun _ => ?_)
    refine z_iconst CX (v := 0) dX6_ownerOf_35 (by decide) ?_
    exact z_iret CX dX6_ownerOf_36 rfl rfl rfl (Or.inl rfl)
set_option maxHeartbeats 4000000 in
set_option maxRecDepth 100000 in
theorem m_way {l : Launch} {w : Wt} {hs : Hs} {n : Option Nat} {k : Nat} {u : Nat → Int32} {A : Nat → Nat → Int32} (hO : OKr (A 0)) (g c y : Int32) : Cn l w mX6_way 0 0 [.ref (wB w + k), .int g, .int c, .int y] (modH w hs k u A) n (modH w hs k (rs_way u A g c y).2.2.1 (rs_way u A g c y).2.2.2) n (some (.int (rs_way u A g c y).2.1)) := by
  by_cases h0 : icl (A 0) (gN (A 0)) g c = true
  · obtain ⟨j, cc9, L, j1, j2, j3, j4, j5, j6⟩ := icl_in hO.1.1 h0
    have h6 := hO.1.1.2.1
    by_cases h1 : 0 ≤ y ∧ y ≤ 1
    · rw [show rs_way u A g c y = (0, drn (A 0) 6 0 j c, upd u 0 0, A) by unfold rs_way; rw [if_pos h0, if_pos h1, j1, nI_clamp (by omega)]]
      subst j1
      refine Cn.of (d := mX6_way) (by decide +kernel) (Nat.le_of_ble_eq_true rfl) ?_
      intro p e R s m args below meth c CX
      replace CX : Ctx p s m args meth c R w RX6 "way" cX6_way 4 (some .int) 3 68 0 0 := CX
      show ZW p l e R s m args below meth c w 4 _ _ 0 0 (MQ below (Qn w _ _ _) args s 0 0 (wA w)) 0 [(0, .ref (wB w + k)), (1, .int _), (2, .int _), (3, .int _)] []
      refine z_aload_n CX 0 dX6_way_0 rfl rfl ?_
      refine z_aload_n CX 0 dX6_way_1 rfl rfl ?_
      refine z_get CX dX6_way_2 fg_X6_7 mo_0 rfl ?_
      refine z_iload_n CX 1 dX6_way_5 rfl rfl ?_
      refine z_iload_n CX 2 dX6_way_6 rfl rfl ?_
      refine z_callS1 CX dX6_way_7 cs_X6_111 (Cn.row mq_0 mq_0 (a := k + 1) (c_isC hO.1.1 _ _)) rfl rfl (Nat.le_of_ble_eq_true rfl) ⟨Nat.le_of_ble_eq_true rfl, Nat.le_of_ble_eq_true rfl⟩ ⟨Nat.le_refl _, Nat.le_refl _⟩ ?_
      refine z_if_ne CX 17 dX6_way_10 (by decide) (fun _ => ?_) (fun q9 => absurd q9 (by rw [h0]; decide))
      refine z_iload_n CX 3 dX6_way_17 rfl rfl ?_
      refine z_i2l CX dX6_way_18 rfl ?_
      refine z_lconst CX (v := 0) dX6_way_19 (by decide) ?_
      refine z_lconst CX (v := 1) dX6_way_20 (by decide) ?_
      refine z_callS1 CX dX6_way_21 cs_X6_42 (c_inI (0) (1) _ _ _ (by decide) (by decide)) rfl rfl (Nat.le_of_ble_eq_true rfl) ⟨Nat.le_of_ble_eq_true rfl, Nat.le_of_ble_eq_true rfl⟩ ⟨Nat.le_refl _, Nat.le_refl _⟩ ?_
      refine z_if_ne CX 31 dX6_way_24 (by decide) (fun _ => ?_) (fun q9 => absurd q9 (by rw [bI_1 h1]; decide))
      refine z_iconst CX (v := 0) dX6_way_31 (by decide) ?_
      refine z_callV1 CX dX6_way_32 cv_X6_122 (c_ref _) mo_0 rfl rfl (Nat.le_of_ble_eq_true rfl) ⟨Nat.le_of_ble_eq_true rfl, Nat.le_of_ble_eq_true rfl⟩ ⟨Nat.le_refl _, Nat.le_refl _⟩ ?_
      refine z_if_eq CX 40 dX6_way_35 (by decide) (fun _ => ?_) (fun q9 => absurd (by decide) q9)
      refine z_aload_n CX 0 dX6_way_40 rfl rfl ?_
      refine z_get CX dX6_way_41 fg_X6_7 mo_0 rfl ?_
      refine z_iload_n CX 1 dX6_way_44 rfl rfl ?_
      refine z_iload_n CX 2 dX6_way_45 rfl rfl ?_
      refine z_callS1 CX dX6_way_46 cs_X6_108 (Cn.row mq_0 mq_0 (a := k + 1) (c_toD hO.1.1 hO.1.1.2.1 j3 _)) rfl rfl (Nat.le_of_ble_eq_true rfl) ⟨Nat.le_of_ble_eq_true rfl, Nat.le_of_ble_eq_true rfl⟩ ⟨Nat.le_refl _, Nat.le_refl _⟩ ?_
      exact z_iret CX dX6_way_49 rfl rfl rfl (Or.inl rfl)
    · rw [show rs_way u A g c y = bad 2 u A by unfold rs_way; rw [if_pos h0, if_neg h1]]
      refine Cn.of (d := mX6_way) (by decide +kernel) (Nat.le_of_ble_eq_true rfl) ?_
      intro p e R s m args below meth c CX
      replace CX : Ctx p s m args meth c R w RX6 "way" cX6_way 4 (some .int) 3 68 0 0 := CX
      show ZW p l e R s m args below meth c w 4 _ _ 0 0 (MQ below (Qn w _ _ _) args s 0 0 (wA w)) 0 [(0, .ref (wB w + k)), (1, .int _), (2, .int _), (3, .int _)] []
      refine z_aload_n CX 0 dX6_way_0 rfl rfl ?_
      refine z_aload_n CX 0 dX6_way_1 rfl rfl ?_
      refine z_get CX dX6_way_2 fg_X6_7 mo_0 rfl ?_
      refine z_iload_n CX 1 dX6_way_5 rfl rfl ?_
      refine z_iload_n CX 2 dX6_way_6 rfl rfl ?_
      refine z_callS1 CX dX6_way_7 cs_X6_111 (Cn.row mq_0 mq_0 (a := k + 1) (c_isC hO.1.1 _ _)) rfl rfl (Nat.le_of_ble_eq_true rfl) ⟨Nat.le_of_ble_eq_true rfl, Nat.le_of_ble_eq_true rfl⟩ ⟨Nat.le_refl _, Nat.le_refl _⟩ ?_
      refine z_if_ne CX 17 dX6_way_10 (by decide) (fun _ => ?_) (fun q9 => absurd q9 (by rw [h0]; decide))
      refine z_iload_n CX 3 dX6_way_17 rfl rfl ?_
      refine z_i2l CX dX6_way_18 rfl ?_
      refine z_lconst CX (v := 0) dX6_way_19 (by decide) ?_
      refine z_lconst CX (v := 1) dX6_way_20 (by decide) ?_
      refine z_callS1 CX dX6_way_21 cs_X6_42 (c_inI (0) (1) _ _ _ (by decide) (by decide)) rfl rfl (Nat.le_of_ble_eq_true rfl) ⟨Nat.le_of_ble_eq_true rfl, Nat.le_of_ble_eq_true rfl⟩ ⟨Nat.le_refl _, Nat.le_refl _⟩ ?_
      refine z_if_ne CX 31 dX6_way_24 (by decide) (fun q9 => absurd q9 (fun q => q (bI_0 h1))) (fun _ => ?_)
      refine z_iconst CX (v := 2) dX6_way_27 (by decide) ?_
      refine z_goto CX 32 dX6_way_28 (by decide) ?_
      refine z_callV1 CX dX6_way_32 cv_X6_122 (c_ref _) mo_0 rfl rfl (Nat.le_of_ble_eq_true rfl) ⟨Nat.le_of_ble_eq_true rfl, Nat.le_of_ble_eq_true rfl⟩ ⟨Nat.le_refl _, Nat.le_refl _⟩ ?_
      refine z_if_eq CX 40 dX6_way_35 (by decide) (fun q9 => absurd q9 (by decide)) (fun _ => ?_)
      refine z_iconst CX (v := 0) dX6_way_38 (by decide) ?_
      exact z_iret CX dX6_way_39 rfl rfl rfl (Or.inl rfl)
  · rw [show rs_way u A g c y = bad 1 u A from if_neg h0]
    refine Cn.of (d := mX6_way) (by decide +kernel) (Nat.le_of_ble_eq_true rfl) ?_
    intro p e R s m args below meth c CX
    replace CX : Ctx p s m args meth c R w RX6 "way" cX6_way 4 (some .int) 3 68 0 0 := CX
    show ZW p l e R s m args below meth c w 4 _ _ 0 0 (MQ below (Qn w _ _ _) args s 0 0 (wA w)) 0 [(0, .ref (wB w + k)), (1, .int _), (2, .int _), (3, .int _)] []
    refine z_aload_n CX 0 dX6_way_0 rfl rfl ?_
    refine z_aload_n CX 0 dX6_way_1 rfl rfl ?_
    refine z_get CX dX6_way_2 fg_X6_7 mo_0 rfl ?_
    refine z_iload_n CX 1 dX6_way_5 rfl rfl ?_
    refine z_iload_n CX 2 dX6_way_6 rfl rfl ?_
    refine z_callS1 CX dX6_way_7 cs_X6_111 (Cn.row mq_0 mq_0 (a := k + 1) (c_isC hO.1.1 _ _)) rfl rfl (Nat.le_of_ble_eq_true rfl) ⟨Nat.le_of_ble_eq_true rfl, Nat.le_of_ble_eq_true rfl⟩ ⟨Nat.le_refl _, Nat.le_refl _⟩ ?_
    refine z_if_ne CX 17 dX6_way_10 (by decide) (fun q9 => absurd q9 (by rw [Bool.eq_false_iff.mpr h0]; decide)) (fun _ => ?_)
    refine z_iconst CX (v := 1) dX6_way_13 (by decide) ?_
    refine z_goto CX 32 dX6_way_14 (by decide) ?_
    refine z_callV1 CX dX6_way_32 cv_X6_122 (c_ref _) mo_0 rfl rfl (Nat.le_of_ble_eq_true rfl) ⟨Nat.le_of_ble_eq_true rfl, Nat.le_of_ble_eq_true rfl⟩ ⟨Nat.le_refl _, Nat.le_refl _⟩ ?_
    refine z_if_eq CX 40 dX6_way_35 (by decide) (fun q9 => absurd q9 (by decide)) (fun _ => ?_)
    refine z_iconst CX (v := 0) dX6_way_38 (by decide) ?_
    exact z_iret CX dX6_way_39 rfl rfl rfl (Or.inl rfl)
set_option maxHeartbeats 4000000 in
set_option maxRecDepth 100000 in
theorem m_setting {l : Launch} {w : Wt} {hs : Hs} {n : Option Nat} {k : Nat} {u : Nat → Int32} {A : Nat → Nat → Int32} (hO : OKr (A 0)) (x : Int32) : Cn l w mX6_setting 0 0 [.ref (wB w + k), .int x] (modH w hs k u A) n (modH w hs k (rs_setting u A x).2.2.1 (rs_setting u A x).2.2.2) n (some (.int (rs_setting u A x).2.1)) := by
  by_cases h1 : 0 ≤ x ∧ x ≤ 2
  · rw [show rs_setting u A x = (0, A 0 (154 + x.toNatClampNeg), upd u 0 0, A) from if_pos h1]
    obtain ⟨i, i0, i1, i2, i3⟩ := nI_le9 (a := 0) (b := 2) (by omega) (by omega) h1
    rw [i3]
    subst i2
    refine Cn.of (d := mX6_setting) (by decide +kernel) (Nat.le_of_ble_eq_true rfl) ?_
    intro p e R s m args below meth c CX
    replace CX : Ctx p s m args meth c R w RX6 "setting" cX6_setting 2 (some .int) 1 25 0 0 := CX
    show ZW p l e R s m args below meth c w 2 _ _ 0 0 (MQ below (Qn w _ _ _) args s 0 0 (wA w)) 0 [(0, .ref (wB w + k)), (1, .int _)] []
    refine z_aload_n CX 0 dX6_setting_0 rfl rfl ?_
    refine z_iload_n CX 1 dX6_setting_1 rfl rfl ?_
    refine z_i2l CX dX6_setting_2 rfl ?_
    refine z_lconst CX (v := 0) dX6_setting_3 (by decide) ?_
    refine z_ldc2 CX (v := 2) dX6_setting_4 (wa_mem 1052 (by decide +kernel) rfl) ?_
    refine z_callS1 CX dX6_setting_7 cs_X6_42 (c_inI (0) (2) _ _ _ (by decide) (by decide)) rfl rfl (Nat.le_of_ble_eq_true rfl) ⟨Nat.le_of_ble_eq_true rfl, Nat.le_of_ble_eq_true rfl⟩ ⟨Nat.le_refl _, Nat.le_refl _⟩ ?_
    refine z_if_eq CX 17 dX6_setting_10 (by decide) (fun q9 => absurd q9 (by rw [bI_1 h1]; decide)) (fun _ => ?_)
    refine z_iconst CX (v := 0) dX6_setting_13 (by decide) ?_
    refine z_goto CX 18 dX6_setting_14 (by decide) ?_
    refine z_callV1 CX dX6_setting_18 cv_X6_122 (c_ref _) mo_0 rfl rfl (Nat.le_of_ble_eq_true rfl) ⟨Nat.le_of_ble_eq_true rfl, Nat.le_of_ble_eq_true rfl⟩ ⟨Nat.le_refl _, Nat.le_refl _⟩ ?_
    refine z_if_eq CX 26 dX6_setting_21 (by decide) (fun _ => ?_) (fun q9 => absurd (by decide) q9)
    refine z_aload_n CX 0 dX6_setting_26 rfl rfl ?_
    refine z_get CX dX6_setting_27 fg_X6_7 mo_0 rfl ?_
    refine z_sipush CX (v := 154) dX6_setting_30 (by decide) ?_
    refine z_iload_n CX 1 dX6_setting_33 rfl rfl ?_
    refine z_iadd CX dX6_setting_34 ?_
    refine z_ia CX (j := (154 + i)) dX6_setting_35 mo_1 (ix_add rfl rfl) (by omega) (by decide) ?_
    exact z_iret CX dX6_setting_36 rfl rfl rfl (Or.inl rfl)
  · rw [show rs_setting u A x = bad 1 u A from if_neg h1]
    refine Cn.of (d := mX6_setting) (by decide +kernel) (Nat.le_of_ble_eq_true rfl) ?_
    intro p e R s m args below meth c CX
    replace CX : Ctx p s m args meth c R w RX6 "setting" cX6_setting 2 (some .int) 1 25 0 0 := CX
    show ZW p l e R s m args below meth c w 2 _ _ 0 0 (MQ below (Qn w _ _ _) args s 0 0 (wA w)) 0 [(0, .ref (wB w + k)), (1, .int _)] []
    refine z_aload_n CX 0 dX6_setting_0 rfl rfl ?_
    refine z_iload_n CX 1 dX6_setting_1 rfl rfl ?_
    refine z_i2l CX dX6_setting_2 rfl ?_
    refine z_lconst CX (v := 0) dX6_setting_3 (by decide) ?_
    refine z_ldc2 CX (v := 2) dX6_setting_4 (wa_mem 1052 (by decide +kernel) rfl) ?_
    refine z_callS1 CX dX6_setting_7 cs_X6_42 (c_inI (0) (2) _ _ _ (by decide) (by decide)) rfl rfl (Nat.le_of_ble_eq_true rfl) ⟨Nat.le_of_ble_eq_true rfl, Nat.le_of_ble_eq_true rfl⟩ ⟨Nat.le_refl _, Nat.le_refl _⟩ ?_
    refine z_if_eq CX 17 dX6_setting_10 (by decide) (fun _ => ?_) (fun q9 => absurd (bI_0 h1) q9)
    refine z_iconst CX (v := 1) dX6_setting_17 (by decide) ?_
    refine z_callV1 CX dX6_setting_18 cv_X6_122 (c_ref _) mo_0 rfl rfl (Nat.le_of_ble_eq_true rfl) ⟨Nat.le_of_ble_eq_true rfl, Nat.le_of_ble_eq_true rfl⟩ ⟨Nat.le_refl _, Nat.le_refl _⟩ ?_
    refine z_if_eq CX 26 dX6_setting_21 (by decide) (fun q9 => absurd q9 (by decide)) (fun _ => ?_)
    refine z_iconst CX (v := 0) dX6_setting_24 (by decide) ?_
    exact z_iret CX dX6_setting_25 rfl rfl rfl (Or.inl rfl)
set_option maxHeartbeats 4000000 in
set_option maxRecDepth 100000 in
theorem m_why {l : Launch} {w : Wt} {hs : Hs} {n : Option Nat} {k : Nat} {u : Nat → Int32} {A : Nat → Nat → Int32} (hO : OKr (A 0)) (o b : Int32) : Cn l w mX6_why 0 0 [.ref (wB w + k), .int o, .int b] (modH w hs k u A) n (modH w hs k (rs_why u A o b).2.2.1 (rs_why u A o b).2.2.2) n (some (.int (rs_why u A o b).2.1)) := by
  by_cases h0 : 0 ≤ o ∧ o ≤ 3
  · by_cases h1 : 0 ≤ b ∧ b < nI (bN (A 0))
    · obtain ⟨j, j0, j1, j2, j3⟩ := nI_le9 (a := 0) (b := 3) (by omega) (by omega) h0
      have h9 := hO.2.2
      obtain ⟨i, i1, i2, i3⟩ := nI_box (by omega) h1
      rw [show rs_why u A o b = (0, whyF (A 0) j i, upd u 0 0, A) by unfold rs_why; rw [if_pos ⟨h0, h1⟩, j3, i3]]
      subst j2
      subst i2
      refine Cn.of (d := mX6_why) (by decide +kernel) (Nat.le_of_ble_eq_true rfl) ?_
      intro p e R s m args below meth c CX
      replace CX : Ctx p s m args meth c R w RX6 "why" cX6_why 3 (some .int) 3 66 0 0 := CX
      show ZW p l e R s m args below meth c w 3 _ _ 0 0 (MQ below (Qn w _ _ _) args s 0 0 (wA w)) 0 [(0, .ref (wB w + k)), (1, .int _), (2, .int _)] []
      refine z_aload_n CX 0 dX6_why_0 rfl rfl ?_
      refine z_iload_n CX 1 dX6_why_1 rfl rfl ?_
      refine z_callS1 CX dX6_why_2 cs_X6_232 (c_isO _) rfl rfl (Nat.le_of_ble_eq_true rfl) ⟨Nat.le_of_ble_eq_true rfl, Nat.le_of_ble_eq_true rfl⟩ ⟨Nat.le_refl _, Nat.le_refl _⟩ ?_
      refine z_if_eq CX 23 dX6_why_5 (by decide) (fun q9 => absurd q9 (by rw [bI_1 h0]; decide)) (fun _ => ?_)
      refine z_aload_n CX 0 dX6_why_8 rfl rfl ?_
      refine z_get CX dX6_why_9 fg_X6_7 mo_0 rfl ?_
      refine z_iload_n CX 2 dX6_why_12 rfl rfl ?_
      refine z_callS1 CX dX6_why_13 cs_X6_166 (Cn.row mq_0 mq_0 (a := k + 1) (c_isB hO.1.2.1 (by have := hO.2.2; omega) _)) rfl rfl (Nat.le_of_ble_eq_true rfl) ⟨Nat.le_of_ble_eq_true rfl, Nat.le_of_ble_eq_true rfl⟩ ⟨Nat.le_refl _, Nat.le_refl _⟩ ?_
      refine z_if_eq CX 23 dX6_why_16 (by decide) (fun q9 => absurd q9 (by rw [bI_1 h1]; decide)) (fun _ => ?_)
      refine z_iconst CX (v := 0) dX6_why_19 (by decide) ?_
      refine z_goto CX 24 dX6_why_20 (by decide) ?_
      refine z_callV1 CX dX6_why_24 cv_X6_122 (c_ref _) mo_0 rfl rfl (Nat.le_of_ble_eq_true rfl) ⟨Nat.le_of_ble_eq_true rfl, Nat.le_of_ble_eq_true rfl⟩ ⟨Nat.le_refl _, Nat.le_refl _⟩ ?_
      refine z_if_eq CX 32 dX6_why_27 (by decide) (fun _ => ?_) (fun q9 => absurd (by decide) q9)
      refine z_aload_n CX 0 dX6_why_32 rfl rfl ?_
      refine z_get CX dX6_why_33 fg_X6_7 mo_0 rfl ?_
      refine z_iload_n CX 1 dX6_why_36 rfl rfl ?_
      refine z_iload_n CX 2 dX6_why_37 rfl rfl ?_
      refine z_callS1 CX dX6_why_38 cs_X6_102 (Cn.row mq_0 mq_0 (a := k + 1) (c_why (o := j) (b := i) (by omega) (by omega))) rfl rfl (Nat.le_of_ble_eq_true rfl) ⟨Nat.le_of_ble_eq_true rfl, Nat.le_of_ble_eq_true rfl⟩ ⟨Nat.le_refl _, Nat.le_refl _⟩ ?_
      exact z_iret CX dX6_why_41 rfl rfl rfl (Or.inl rfl)
    · rw [show rs_why u A o b = bad 1 u A from if_neg (fun z => h1 z.2)]
      refine Cn.of (d := mX6_why) (by decide +kernel) (Nat.le_of_ble_eq_true rfl) ?_
      intro p e R s m args below meth c CX
      replace CX : Ctx p s m args meth c R w RX6 "why" cX6_why 3 (some .int) 3 66 0 0 := CX
      show ZW p l e R s m args below meth c w 3 _ _ 0 0 (MQ below (Qn w _ _ _) args s 0 0 (wA w)) 0 [(0, .ref (wB w + k)), (1, .int _), (2, .int _)] []
      refine z_aload_n CX 0 dX6_why_0 rfl rfl ?_
      refine z_iload_n CX 1 dX6_why_1 rfl rfl ?_
      refine z_callS1 CX dX6_why_2 cs_X6_232 (c_isO _) rfl rfl (Nat.le_of_ble_eq_true rfl) ⟨Nat.le_of_ble_eq_true rfl, Nat.le_of_ble_eq_true rfl⟩ ⟨Nat.le_refl _, Nat.le_refl _⟩ ?_
      refine z_if_eq CX 23 dX6_why_5 (by decide) (fun q9 => absurd q9 (by rw [bI_1 h0]; decide)) (fun _ => ?_)
      refine z_aload_n CX 0 dX6_why_8 rfl rfl ?_
      refine z_get CX dX6_why_9 fg_X6_7 mo_0 rfl ?_
      refine z_iload_n CX 2 dX6_why_12 rfl rfl ?_
      refine z_callS1 CX dX6_why_13 cs_X6_166 (Cn.row mq_0 mq_0 (a := k + 1) (c_isB hO.1.2.1 (by have := hO.2.2; omega) _)) rfl rfl (Nat.le_of_ble_eq_true rfl) ⟨Nat.le_of_ble_eq_true rfl, Nat.le_of_ble_eq_true rfl⟩ ⟨Nat.le_refl _, Nat.le_refl _⟩ ?_
      refine z_if_eq CX 23 dX6_why_16 (by decide) (fun _ => ?_) (fun q9 => absurd (bI_0 h1) q9)
      refine z_iconst CX (v := 1) dX6_why_23 (by decide) ?_
      refine z_callV1 CX dX6_why_24 cv_X6_122 (c_ref _) mo_0 rfl rfl (Nat.le_of_ble_eq_true rfl) ⟨Nat.le_of_ble_eq_true rfl, Nat.le_of_ble_eq_true rfl⟩ ⟨Nat.le_refl _, Nat.le_refl _⟩ ?_
      refine z_if_eq CX 32 dX6_why_27 (by decide) (fun q9 => absurd q9 (by decide)) (fun _ => ?_)
      refine z_iconst CX (v := 0) dX6_why_30 (by decide) ?_
      exact z_iret CX dX6_why_31 rfl rfl rfl (Or.inl rfl)
  · rw [show rs_why u A o b = bad 1 u A from if_neg (fun z => h0 z.1)]
    refine Cn.of (d := mX6_why) (by decide +kernel) (Nat.le_of_ble_eq_true rfl) ?_
    intro p e R s m args below meth c CX
    replace CX : Ctx p s m args meth c R w RX6 "why" cX6_why 3 (some .int) 3 66 0 0 := CX
    show ZW p l e R s m args below meth c w 3 _ _ 0 0 (MQ below (Qn w _ _ _) args s 0 0 (wA w)) 0 [(0, .ref (wB w + k)), (1, .int _), (2, .int _)] []
    refine z_aload_n CX 0 dX6_why_0 rfl rfl ?_
    refine z_iload_n CX 1 dX6_why_1 rfl rfl ?_
    refine z_callS1 CX dX6_why_2 cs_X6_232 (c_isO _) rfl rfl (Nat.le_of_ble_eq_true rfl) ⟨Nat.le_of_ble_eq_true rfl, Nat.le_of_ble_eq_true rfl⟩ ⟨Nat.le_refl _, Nat.le_refl _⟩ ?_
    refine z_if_eq CX 23 dX6_why_5 (by decide) (fun _ => ?_) (fun q9 => absurd (bI_0 h0) q9)
    refine z_iconst CX (v := 1) dX6_why_23 (by decide) ?_
    refine z_callV1 CX dX6_why_24 cv_X6_122 (c_ref _) mo_0 rfl rfl (Nat.le_of_ble_eq_true rfl) ⟨Nat.le_of_ble_eq_true rfl, Nat.le_of_ble_eq_true rfl⟩ ⟨Nat.le_refl _, Nat.le_refl _⟩ ?_
    refine z_if_eq CX 32 dX6_why_27 (by decide) (fun q9 => absurd q9 (by decide)) (fun _ => ?_)
    refine z_iconst CX (v := 0) dX6_why_30 (by decide) ?_
    exact z_iret CX dX6_why_31 rfl rfl rfl (Or.inl rfl)
