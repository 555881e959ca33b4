/-! the model: scripts, simulations, a new object: the walks -/
theorem so_10 {y : Int32} (h : ¬ (0 ≤ y ∧ y ≤ 10)) : y.toInt < 0 ∨ 10 < y.toInt := by
  rcases Int.lt_or_le y.toInt 0 with q | q
  · exact Or.inl q
  · rcases Int.lt_or_le 10 y.toInt with q2 | q2
    · exact Or.inr q2
    · exact absurd ⟨(le_i 0 y).mpr q, (le_i y 10).mpr q2⟩ h
set_option maxHeartbeats 4000000 in
set_option maxRecDepth 100000 in
theorem r_stir {l : Launch} {w : Wt} {hs : Hs} {n : Option Nat} {k : Nat} {u : Nat → Int32} {A : Nat → Nat → Int32} (hO : OKr (A 1)) (r : Int32) : Cn l w mX6_stir 0 0 [.ref (wB w + k), .int r] (modH w hs k u A) n (modH w hs k u (upA A 1 (stF (A 1) r).2)) n none := by
  by_cases h0 : 0 ≤ rm r 16 ∧ rm r 16 ≤ 10
  · obtain ⟨i, i0, i1, i2, i3⟩ := nI_le9 (a := 0) (b := 10) (by omega) (by omega) h0
    rw [show stF (A 1) r = stN (A 1) (r / 16) i by unfold stF; rw [if_pos h0, i3]]
    match i, i1, i2 with
    | 0, _, i2 =>
      refine Cn.of (d := mX6_stir) (by decide +kernel) (Nat.le_of_ble_eq_true rfl) ?_
      intro p e R s m args below meth c CX
      replace CX : Ctx p s m args meth c R w RX6 "stir" cX6_stir 4 none 8 180 0 0 := CX
      show ZW p l e R s m args below meth c w 4 _ _ 0 0 (MQ below (Qn w _ _ _) args s 0 0 (wA w)) 0 [(0, .ref (wB w + k)), (1, .int _)] []
      refine z_iload_n CX 1 dX6_stir_0 rfl rfl ?_
      refine z_bipush CX (v := 16) dX6_stir_1 (by decide) ?_
      refine z_idiv CX dX6_stir_3 (by decide) ?_
      refine z_istore_n CX 2 dX6_stir_4 rfl (by decide) ?_
      refine z_iload_n CX 1 dX6_stir_5 rfl rfl ?_
      refine z_bipush CX (v := 16) dX6_stir_6 (by decide) ?_
      refine z_irem CX dX6_stir_8 (by decide) ?_
      rw [show r - r / 16 * 16 = nI 0 from i2]
      refine z_tabIn CX 68 dX6_stir_9 (by decide) (by decide) rfl (by decide) ?_
      refine z_aload_n CX 0 dX6_stir_68 rfl rfl ?_
      refine z_iconst CX (v := 4) dX6_stir_69 (by decide) ?_
      refine z_iload_n CX 2 dX6_stir_70 rfl rfl ?_
      refine z_bipush CX (v := 20) dX6_stir_71 (by decide) ?_
      refine z_irem CX dX6_stir_73 (by decide) ?_
      refine z_iadd CX dX6_stir_74 ?_
      refine z_iload_n CX 2 dX6_stir_75 rfl rfl ?_
      refine z_bipush CX (v := 32) dX6_stir_76 (by decide) ?_
      refine z_idiv CX dX6_stir_78 (by decide) ?_
      refine z_bipush CX (v := 6) dX6_stir_79 (by decide) ?_
      refine z_irem CX dX6_stir_81 (by decide) ?_
      refine z_iload_n CX 2 dX6_stir_82 rfl rfl ?_
      refine z_sipush CX (v := 256) dX6_stir_83 (by decide) ?_
      refine z_idiv CX dX6_stir_86 (by decide) ?_
      refine z_bipush CX (v := 6) dX6_stir_87 (by decide) ?_
      refine z_irem CX dX6_stir_89 (by decide) ?_
      refine z_iload_n CX 2 dX6_stir_90 rfl rfl ?_
      refine z_sipush CX (v := 2048) dX6_stir_91 (by decide) ?_
      refine z_idiv CX dX6_stir_94 (by decide) ?_
      refine z_bipush CX (v := 20) dX6_stir_95 (by decide) ?_
      refine z_irem CX dX6_stir_97 (by decide) ?_
      refine z_callV1 CX dX6_stir_98 cv_X6_282 (r_gutter hO _ _ _ _) mo_0 rfl rfl (Nat.le_of_ble_eq_true rfl) ⟨Nat.le_of_ble_eq_true rfl, Nat.le_of_ble_eq_true rfl⟩ ⟨Nat.le_refl _, Nat.le_refl _⟩ ?_
      refine z_istore_n CX 3 dX6_stir_101 rfl (by decide) ?_
      refine z_goto CX 217 dX6_stir_102 (by decide) ?_
      exact z_vret CX dX6_stir_217 rfl rfl (Or.inl rfl)
    | 1, _, i2 =>
      refine Cn.of (d := mX6_stir) (by decide +kernel) (Nat.le_of_ble_eq_true rfl) ?_
      intro p e R s m args below meth c CX
      replace CX : Ctx p s m args meth c R w RX6 "stir" cX6_stir 4 none 8 180 0 0 := CX
      show ZW p l e R s m args below meth c w 4 _ _ 0 0 (MQ below (Qn w _ _ _) args s 0 0 (wA w)) 0 [(0, .ref (wB w + k)), (1, .int _)] []
      refine z_iload_n CX 1 dX6_stir_0 rfl rfl ?_
      refine z_bipush CX (v := 16) dX6_stir_1 (by decide) ?_
      refine z_idiv CX dX6_stir_3 (by decide) ?_
      refine z_istore_n CX 2 dX6_stir_4 rfl (by decide) ?_
      refine z_iload_n CX 1 dX6_stir_5 rfl rfl ?_
      refine z_bipush CX (v := 16) dX6_stir_6 (by decide) ?_
      refine z_irem CX dX6_stir_8 (by decide) ?_
      rw [show r - r / 16 * 16 = nI 1 from i2]
      refine z_tabIn CX 105 dX6_stir_9 (by decide) (by decide) rfl (by decide) ?_
      refine z_aload_n CX 0 dX6_stir_105 rfl rfl ?_
      refine z_iconst CX (v := 1) dX6_stir_106 (by decide) ?_
      refine z_iload_n CX 2 dX6_stir_107 rfl rfl ?_
      refine z_bipush CX (v := 9) dX6_stir_108 (by decide) ?_
      refine z_irem CX dX6_stir_110 (by decide) ?_
      refine z_iadd CX dX6_stir_111 ?_
      refine z_iload_n CX 2 dX6_stir_112 rfl rfl ?_
      refine z_bipush CX (v := 16) dX6_stir_113 (by decide) ?_
      refine z_idiv CX dX6_stir_115 (by decide) ?_
      refine z_iconst CX (v := 4) dX6_stir_116 (by decide) ?_
      refine z_irem CX dX6_stir_117 (by decide) ?_
      refine z_iload_n CX 2 dX6_stir_118 rfl rfl ?_
      refine z_bipush CX (v := 64) dX6_stir_119 (by decide) ?_
      refine z_idiv CX dX6_stir_121 (by decide) ?_
      refine z_iconst CX (v := 4) dX6_stir_122 (by decide) ?_
      refine z_irem CX dX6_stir_123 (by decide) ?_
      refine z_callV1 CX dX6_stir_124 cv_X6_270 (r_boat hO _ _ _) mo_0 rfl rfl (Nat.le_of_ble_eq_true rfl) ⟨Nat.le_of_ble_eq_true rfl, Nat.le_of_ble_eq_true rfl⟩ ⟨Nat.le_refl _, Nat.le_refl _⟩ ?_
      refine z_istore_n CX 3 dX6_stir_127 rfl (by decide) ?_
      refine z_goto CX 217 dX6_stir_128 (by decide) ?_
      exact z_vret CX dX6_stir_217 rfl rfl (Or.inl rfl)
    | 2, _, i2 =>
      refine Cn.of (d := mX6_stir) (by decide +kernel) (Nat.le_of_ble_eq_true rfl) ?_
      intro p e R s m args below meth c CX
      replace CX : Ctx p s m args meth c R w RX6 "stir" cX6_stir 4 none 8 180 0 0 := CX
      show ZW p l e R s m args below meth c w 4 _ _ 0 0 (MQ below (Qn w _ _ _) args s 0 0 (wA w)) 0 [(0, .ref (wB w + k)), (1, .int _)] []
      refine z_iload_n CX 1 dX6_stir_0 rfl rfl ?_
      refine z_bipush CX (v := 16) dX6_stir_1 (by decide) ?_
      refine z_idiv CX dX6_stir_3 (by decide) ?_
      refine z_istore_n CX 2 dX6_stir_4 rfl (by decide) ?_
      refine z_iload_n CX 1 dX6_stir_5 rfl rfl ?_
      refine z_bipush CX (v := 16) dX6_stir_6 (by decide) ?_
      refine z_irem CX dX6_stir_8 (by decide) ?_
      rw [show r - r / 16 * 16 = nI 2 from i2]
      refine z_tabIn CX 105 dX6_stir_9 (by decide) (by decide) rfl (by decide) ?_
      refine z_aload_n CX 0 dX6_stir_105 rfl rfl ?_
      refine z_iconst CX (v := 1) dX6_stir_106 (by decide) ?_
      refine z_iload_n CX 2 dX6_stir_107 rfl rfl ?_
      refine z_bipush CX (v := 9) dX6_stir_108 (by decide) ?_
      refine z_irem CX dX6_stir_110 (by decide) ?_
      refine z_iadd CX dX6_stir_111 ?_
      refine z_iload_n CX 2 dX6_stir_112 rfl rfl ?_
      refine z_bipush CX (v := 16) dX6_stir_113 (by decide) ?_
      refine z_idiv CX dX6_stir_115 (by decide) ?_
      refine z_iconst CX (v := 4) dX6_stir_116 (by decide) ?_
      refine z_irem CX dX6_stir_117 (by decide) ?_
      refine z_iload_n CX 2 dX6_stir_118 rfl rfl ?_
      refine z_bipush CX (v := 64) dX6_stir_119 (by decide) ?_
      refine z_idiv CX dX6_stir_121 (by decide) ?_
      refine z_iconst CX (v := 4) dX6_stir_122 (by decide) ?_
      refine z_irem CX dX6_stir_123 (by decide) ?_
      refine z_callV1 CX dX6_stir_124 cv_X6_270 (r_boat hO _ _ _) mo_0 rfl rfl (Nat.le_of_ble_eq_true rfl) ⟨Nat.le_of_ble_eq_true rfl, Nat.le_of_ble_eq_true rfl⟩ ⟨Nat.le_refl _, Nat.le_refl _⟩ ?_
      refine z_istore_n CX 3 dX6_stir_127 rfl (by decide) ?_
      refine z_goto CX 217 dX6_stir_128 (by decide) ?_
      exact z_vret CX dX6_stir_217 rfl rfl (Or.inl rfl)
    | 3, _, i2 =>
      refine Cn.of (d := mX6_stir) (by decide +kernel) (Nat.le_of_ble_eq_true rfl) ?_
      intro p e R s m args below meth c CX
      replace CX : Ctx p s m args meth c R w RX6 "stir" cX6_stir 4 none 8 180 0 0 := CX
      show ZW p l e R s m args below meth c w 4 _ _ 0 0 (MQ below (Qn w _ _ _) args s 0 0 (wA w)) 0 [(0, .ref (wB w + k)), (1, .int _)] []
      refine z_iload_n CX 1 dX6_stir_0 rfl rfl ?_
      refine z_bipush CX (v := 16) dX6_stir_1 (by decide) ?_
      refine z_idiv CX dX6_stir_3 (by decide) ?_
      refine z_istore_n CX 2 dX6_stir_4 rfl (by decide) ?_
      refine z_iload_n CX 1 dX6_stir_5 rfl rfl ?_
      refine z_bipush CX (v := 16) dX6_stir_6 (by decide) ?_
      refine z_irem CX dX6_stir_8 (by decide) ?_
      rw [show r - r / 16 * 16 = nI 3 from i2]
      refine z_tabIn CX 131 dX6_stir_9 (by decide) (by decide) rfl (by decide) ?_
      refine z_aload_n CX 0 dX6_stir_131 rfl rfl ?_
      refine z_iload_n CX 2 dX6_stir_132 rfl rfl ?_
      refine z_bipush CX (v := 10) dX6_stir_133 (by decide) ?_
      refine z_irem CX dX6_stir_135 (by decide) ?_
      refine z_iload_n CX 2 dX6_stir_136 rfl rfl ?_
      refine z_bipush CX (v := 16) dX6_stir_137 (by decide) ?_
      refine z_idiv CX dX6_stir_139 (by decide) ?_
      refine z_bipush CX (v := 6) dX6_stir_140 (by decide) ?_
      refine z_irem CX dX6_stir_142 (by decide) ?_
      refine z_callV1 CX dX6_stir_143 cv_X6_254 (r_launch hO _ _) mo_0 rfl rfl (Nat.le_of_ble_eq_true rfl) ⟨Nat.le_of_ble_eq_true rfl, Nat.le_of_ble_eq_true rfl⟩ ⟨Nat.le_refl _, Nat.le_refl _⟩ ?_
      refine z_istore_n CX 3 dX6_stir_146 rfl (by decide) ?_
      refine z_goto CX 217 dX6_stir_147 (by decide) ?_
      exact z_vret CX dX6_stir_217 rfl rfl (Or.inl rfl)
    | 4, _, i2 =>
      refine Cn.of (d := mX6_stir) (by decide +kernel) (Nat.le_of_ble_eq_true rfl) ?_
      intro p e R s m args below meth c CX
      replace CX : Ctx p s m args meth c R w RX6 "stir" cX6_stir 4 none 8 180 0 0 := CX
      show ZW p l e R s m args below meth c w 4 _ _ 0 0 (MQ below (Qn w _ _ _) args s 0 0 (wA w)) 0 [(0, .ref (wB w + k)), (1, .int _)] []
      refine z_iload_n CX 1 dX6_stir_0 rfl rfl ?_
      refine z_bipush CX (v := 16) dX6_stir_1 (by decide) ?_
      refine z_idiv CX dX6_stir_3 (by decide) ?_
      refine z_istore_n CX 2 dX6_stir_4 rfl (by decide) ?_
      refine z_iload_n CX 1 dX6_stir_5 rfl rfl ?_
      refine z_bipush CX (v := 16) dX6_stir_6 (by decide) ?_
      refine z_irem CX dX6_stir_8 (by decide) ?_
      rw [show r - r / 16 * 16 = nI 4 from i2]
      refine z_tabIn CX 131 dX6_stir_9 (by decide) (by decide) rfl (by decide) ?_
      refine z_aload_n CX 0 dX6_stir_131 rfl rfl ?_
      refine z_iload_n CX 2 dX6_stir_132 rfl rfl ?_
      refine z_bipush CX (v := 10) dX6_stir_133 (by decide) ?_
      refine z_irem CX dX6_stir_135 (by decide) ?_
      refine z_iload_n CX 2 dX6_stir_136 rfl rfl ?_
      refine z_bipush CX (v := 16) dX6_stir_137 (by decide) ?_
      refine z_idiv CX dX6_stir_139 (by decide) ?_
      refine z_bipush CX (v := 6) dX6_stir_140 (by decide) ?_
      refine z_irem CX dX6_stir_142 (by decide) ?_
      refine z_callV1 CX dX6_stir_143 cv_X6_254 (r_launch hO _ _) mo_0 rfl rfl (Nat.le_of_ble_eq_true rfl) ⟨Nat.le_of_ble_eq_true rfl, Nat.le_of_ble_eq_true rfl⟩ ⟨Nat.le_refl _, Nat.le_refl _⟩ ?_
      refine z_istore_n CX 3 dX6_stir_146 rfl (by decide) ?_
      refine z_goto CX 217 dX6_stir_147 (by decide) ?_
      exact z_vret CX dX6_stir_217 rfl rfl (Or.inl rfl)
    | 5, _, i2 =>
      refine Cn.of (d := mX6_stir) (by decide +kernel) (Nat.le_of_ble_eq_true rfl) ?_
      intro p e R s m args below meth c CX
      replace CX : Ctx p s m args meth c R w RX6 "stir" cX6_stir 4 none 8 180 0 0 := CX
      show ZW p l e R s m args below meth c w 4 _ _ 0 0 (MQ below (Qn w _ _ _) args s 0 0 (wA w)) 0 [(0, .ref (wB w + k)), (1, .int _)] []
      refine z_iload_n CX 1 dX6_stir_0 rfl rfl ?_
      refine z_bipush CX (v := 16) dX6_stir_1 (by decide) ?_
      refine z_idiv CX dX6_stir_3 (by decide) ?_
      refine z_istore_n CX 2 dX6_stir_4 rfl (by decide) ?_
      refine z_iload_n CX 1 dX6_stir_5 rfl rfl ?_
      refine z_bipush CX (v := 16) dX6_stir_6 (by decide) ?_
      refine z_irem CX dX6_stir_8 (by decide) ?_
      rw [show r - r / 16 * 16 = nI 5 from i2]
      refine z_tabIn CX 131 dX6_stir_9 (by decide) (by decide) rfl (by decide) ?_
      refine z_aload_n CX 0 dX6_stir_131 rfl rfl ?_
      refine z_iload_n CX 2 dX6_stir_132 rfl rfl ?_
      refine z_bipush CX (v := 10) dX6_stir_133 (by decide) ?_
      refine z_irem CX dX6_stir_135 (by decide) ?_
      refine z_iload_n CX 2 dX6_stir_136 rfl rfl ?_
      refine z_bipush CX (v := 16) dX6_stir_137 (by decide) ?_
      refine z_idiv CX dX6_stir_139 (by decide) ?_
      refine z_bipush CX (v := 6) dX6_stir_140 (by decide) ?_
      refine z_irem CX dX6_stir_142 (by decide) ?_
      refine z_callV1 CX dX6_stir_143 cv_X6_254 (r_launch hO _ _) mo_0 rfl rfl (Nat.le_of_ble_eq_true rfl) ⟨Nat.le_of_ble_eq_true rfl, Nat.le_of_ble_eq_true rfl⟩ ⟨Nat.le_refl _, Nat.le_refl _⟩ ?_
      refine z_istore_n CX 3 dX6_stir_146 rfl (by decide) ?_
      refine z_goto CX 217 dX6_stir_147 (by decide) ?_
      exact z_vret CX dX6_stir_217 rfl rfl (Or.inl rfl)
    | 6, _, i2 =>
      refine Cn.of (d := mX6_stir) (by decide +kernel) (Nat.le_of_ble_eq_true rfl) ?_
      intro p e R s m args below meth c CX
      replace CX : Ctx p s m args meth c R w RX6 "stir" cX6_stir 4 none 8 180 0 0 := CX
      show ZW p l e R s m args below meth c w 4 _ _ 0 0 (MQ below (Qn w _ _ _) args s 0 0 (wA w)) 0 [(0, .ref (wB w + k)), (1, .int _)] []
      refine z_iload_n CX 1 dX6_stir_0 rfl rfl ?_
      refine z_bipush CX (v := 16) dX6_stir_1 (by decide) ?_
      refine z_idiv CX dX6_stir_3 (by decide) ?_
      refine z_istore_n CX 2 dX6_stir_4 rfl (by decide) ?_
      refine z_iload_n CX 1 dX6_stir_5 rfl rfl ?_
      refine z_bipush CX (v := 16) dX6_stir_6 (by decide) ?_
      refine z_irem CX dX6_stir_8 (by decide) ?_
      rw [show r - r / 16 * 16 = nI 6 from i2]
      refine z_tabIn CX 131 dX6_stir_9 (by decide) (by decide) rfl (by decide) ?_
      refine z_aload_n CX 0 dX6_stir_131 rfl rfl ?_
      refine z_iload_n CX 2 dX6_stir_132 rfl rfl ?_
      refine z_bipush CX (v := 10) dX6_stir_133 (by decide) ?_
      refine z_irem CX dX6_stir_135 (by decide) ?_
      refine z_iload_n CX 2 dX6_stir_136 rfl rfl ?_
      refine z_bipush CX (v := 16) dX6_stir_137 (by decide) ?_
      refine z_idiv CX dX6_stir_139 (by decide) ?_
      refine z_bipush CX (v := 6) dX6_stir_140 (by decide) ?_
      refine z_irem CX dX6_stir_142 (by decide) ?_
      refine z_callV1 CX dX6_stir_143 cv_X6_254 (r_launch hO _ _) mo_0 rfl rfl (Nat.le_of_ble_eq_true rfl) ⟨Nat.le_of_ble_eq_true rfl, Nat.le_of_ble_eq_true rfl⟩ ⟨Nat.le_refl _, Nat.le_refl _⟩ ?_
      refine z_istore_n CX 3 dX6_stir_146 rfl (by decide) ?_
      refine z_goto CX 217 dX6_stir_147 (by decide) ?_
      exact z_vret CX dX6_stir_217 rfl rfl (Or.inl rfl)
    | 7, _, i2 =>
      refine Cn.of (d := mX6_stir) (by decide +kernel) (Nat.le_of_ble_eq_true rfl) ?_
      intro p e R s m args below meth c CX
      replace CX : Ctx p s m args meth c R w RX6 "stir" cX6_stir 4 none 8 180 0 0 := CX
      show ZW p l e R s m args below meth c w 4 _ _ 0 0 (MQ below (Qn w _ _ _) args s 0 0 (wA w)) 0 [(0, .ref (wB w + k)), (1, .int _)] []
      refine z_iload_n CX 1 dX6_stir_0 rfl rfl ?_
      refine z_bipush CX (v := 16) dX6_stir_1 (by decide) ?_
      refine z_idiv CX dX6_stir_3 (by decide) ?_
      refine z_istore_n CX 2 dX6_stir_4 rfl (by decide) ?_
      refine z_iload_n CX 1 dX6_stir_5 rfl rfl ?_
      refine z_bipush CX (v := 16) dX6_stir_6 (by decide) ?_
      refine z_irem CX dX6_stir_8 (by decide) ?_
      rw [show r - r / 16 * 16 = nI 7 from i2]
      refine z_tabIn CX 150 dX6_stir_9 (by decide) (by decide) rfl (by decide) ?_
      refine z_aload_n CX 0 dX6_stir_150 rfl rfl ?_
      refine z_iload_n CX 2 dX6_stir_151 rfl rfl ?_
      refine z_iconst CX (v := 4) dX6_stir_152 (by decide) ?_
      refine z_irem CX dX6_stir_153 (by decide) ?_
      refine z_iload_n CX 2 dX6_stir_154 rfl rfl ?_
      refine z_iconst CX (v := 4) dX6_stir_155 (by decide) ?_
      refine z_idiv CX dX6_stir_156 (by decide) ?_
      refine z_bipush CX (v := 6) dX6_stir_157 (by decide) ?_
      refine z_irem CX dX6_stir_159 (by decide) ?_
      refine z_iload_n CX 2 dX6_stir_160 rfl rfl ?_
      refine z_bipush CX (v := 32) dX6_stir_161 (by decide) ?_
      refine z_idiv CX dX6_stir_163 (by decide) ?_
      refine z_bipush CX (v := 20) dX6_stir_164 (by decide) ?_
      refine z_irem CX dX6_stir_166 (by decide) ?_
      refine z_callV1 CX dX6_stir_167 cv_X6_260 (r_hook hO _ _ _) mo_0 rfl rfl (Nat.le_of_ble_eq_true rfl) ⟨Nat.le_of_ble_eq_true rfl, Nat.le_of_ble_eq_true rfl⟩ ⟨Nat.le_refl _, Nat.le_refl _⟩ ?_
      refine z_istore_n CX 3 dX6_stir_170 rfl (by decide) ?_
      refine z_goto CX 217 dX6_stir_171 (by decide) ?_
      exact z_vret CX dX6_stir_217 rfl rfl (Or.inl rfl)
    | 8, _, i2 =>
      refine Cn.of (d := mX6_stir) (by decide +kernel) (Nat.le_of_ble_eq_true rfl) ?_
      intro p e R s m args below meth c CX
      replace CX : Ctx p s m args meth c R w RX6 "stir" cX6_stir 4 none 8 180 0 0 := CX
      show ZW p l e R s m args below meth c w 4 _ _ 0 0 (MQ below (Qn w _ _ _) args s 0 0 (wA w)) 0 [(0, .ref (wB w + k)), (1, .int _)] []
      refine z_iload_n CX 1 dX6_stir_0 rfl rfl ?_
      refine z_bipush CX (v := 16) dX6_stir_1 (by decide) ?_
      refine z_idiv CX dX6_stir_3 (by decide) ?_
      refine z_istore_n CX 2 dX6_stir_4 rfl (by decide) ?_
      refine z_iload_n CX 1 dX6_stir_5 rfl rfl ?_
      refine z_bipush CX (v := 16) dX6_stir_6 (by decide) ?_
      refine z_irem CX dX6_stir_8 (by decide) ?_
      rw [show r - r / 16 * 16 = nI 8 from i2]
      refine z_tabIn CX 174 dX6_stir_9 (by decide) (by decide) rfl (by decide) ?_
      refine z_aload_n CX 0 dX6_stir_174 rfl rfl ?_
      refine z_iload_n CX 2 dX6_stir_175 rfl rfl ?_
      refine z_iconst CX (v := 4) dX6_stir_176 (by decide) ?_
      refine z_irem CX dX6_stir_177 (by decide) ?_
      refine z_iload_n CX 2 dX6_stir_178 rfl rfl ?_
      refine z_iconst CX (v := 4) dX6_stir_179 (by decide) ?_
      refine z_idiv CX dX6_stir_180 (by decide) ?_
      refine z_bipush CX (v := 10) dX6_stir_181 (by decide) ?_
      refine z_irem CX dX6_stir_183 (by decide) ?_
      refine z_callV1 CX dX6_stir_184 cv_X6_264 (r_claim hO _ _) mo_0 rfl rfl (Nat.le_of_ble_eq_true rfl) ⟨Nat.le_of_ble_eq_true rfl, Nat.le_of_ble_eq_true rfl⟩ ⟨Nat.le_refl _, Nat.le_refl _⟩ ?_
      refine z_istore_n CX 3 dX6_stir_187 rfl (by decide) ?_
      refine z_goto CX 217 dX6_stir_188 (by decide) ?_
      exact z_vret CX dX6_stir_217 rfl rfl (Or.inl rfl)
    | 9, _, i2 =>
      refine Cn.of (d := mX6_stir) (by decide +kernel) (Nat.le_of_ble_eq_true rfl) ?_
      intro p e R s m args below meth c CX
      replace CX : Ctx p s m args meth c R w RX6 "stir" cX6_stir 4 none 8 180 0 0 := CX
      show ZW p l e R s m args below meth c w 4 _ _ 0 0 (MQ below (Qn w _ _ _) args s 0 0 (wA w)) 0 [(0, .ref (wB w + k)), (1, .int _)] []
      refine z_iload_n CX 1 dX6_stir_0 rfl rfl ?_
      refine z_bipush CX (v := 16) dX6_stir_1 (by decide) ?_
      refine z_idiv CX dX6_stir_3 (by decide) ?_
      refine z_istore_n CX 2 dX6_stir_4 rfl (by decide) ?_
      refine z_iload_n CX 1 dX6_stir_5 rfl rfl ?_
      refine z_bipush CX (v := 16) dX6_stir_6 (by decide) ?_
      refine z_irem CX dX6_stir_8 (by decide) ?_
      rw [show r - r / 16 * 16 = nI 9 from i2]
      refine z_tabIn CX 174 dX6_stir_9 (by decide) (by decide) rfl (by decide) ?_
      refine z_aload_n CX 0 dX6_stir_174 rfl rfl ?_
      refine z_iload_n CX 2 dX6_stir_175 rfl rfl ?_
      refine z_iconst CX (v := 4) dX6_stir_176 (by decide) ?_
      refine z_irem CX dX6_stir_177 (by decide) ?_
      refine z_iload_n CX 2 dX6_stir_178 rfl rfl ?_
      refine z_iconst CX (v := 4) dX6_stir_179 (by decide) ?_
      refine z_idiv CX dX6_stir_180 (by decide) ?_
      refine z_bipush CX (v := 10) dX6_stir_181 (by decide) ?_
      refine z_irem CX dX6_stir_183 (by decide) ?_
      refine z_callV1 CX dX6_stir_184 cv_X6_264 (r_claim hO _ _) mo_0 rfl rfl (Nat.le_of_ble_eq_true rfl) ⟨Nat.le_of_ble_eq_true rfl, Nat.le_of_ble_eq_true rfl⟩ ⟨Nat.le_refl _, Nat.le_refl _⟩ ?_
      refine z_istore_n CX 3 dX6_stir_187 rfl (by decide) ?_
      refine z_goto CX 217 dX6_stir_188 (by decide) ?_
      exact z_vret CX dX6_stir_217 rfl rfl (Or.inl rfl)
    | 10, _, i2 =>
      refine Cn.of (d := mX6_stir) (by decide +kernel) (Nat.le_of_ble_eq_true rfl) ?_
      intro p e R s m args below meth c CX
      replace CX : Ctx p s m args meth c R w RX6 "stir" cX6_stir 4 none 8 180 0 0 := CX
      show ZW p l e R s m args below meth c w 4 _ _ 0 0 (MQ below (Qn w _ _ _) args s 0 0 (wA w)) 0 [(0, .ref (wB w + k)), (1, .int _)] []
      refine z_iload_n CX 1 dX6_stir_0 rfl rfl ?_
      refine z_bipush CX (v := 16) dX6_stir_1 (by decide) ?_
      refine z_idiv CX dX6_stir_3 (by decide) ?_
      refine z_istore_n CX 2 dX6_stir_4 rfl (by decide) ?_
      refine z_iload_n CX 1 dX6_stir_5 rfl rfl ?_
      refine z_bipush CX (v := 16) dX6_stir_6 (by decide) ?_
      refine z_irem CX dX6_stir_8 (by decide) ?_
      rw [show r - r / 16 * 16 = nI 10 from i2]
      refine z_tabIn CX 191 dX6_stir_9 (by decide) (by decide) rfl (by decide) ?_
      refine z_aload_n CX 0 dX6_stir_191 rfl rfl ?_
      refine z_iload_n CX 2 dX6_stir_192 rfl rfl ?_
      refine z_iconst CX (v := 3) dX6_stir_193 (by decide) ?_
      refine z_irem CX dX6_stir_194 (by decide) ?_
      refine z_iload_n CX 2 dX6_stir_195 rfl rfl ?_
      refine z_iconst CX (v := 4) dX6_stir_196 (by decide) ?_
      refine z_idiv CX dX6_stir_197 (by decide) ?_
      refine z_iconst CX (v := 5) dX6_stir_198 (by decide) ?_
      refine z_irem CX dX6_stir_199 (by decide) ?_
      refine z_callV1 CX dX6_stir_200 cv_X6_267 (r_set hO _ _) mo_0 rfl rfl (Nat.le_of_ble_eq_true rfl) ⟨Nat.le_of_ble_eq_true rfl, Nat.le_of_ble_eq_true rfl⟩ ⟨Nat.le_refl _, Nat.le_refl _⟩ ?_
      refine z_istore_n CX 3 dX6_stir_203 rfl (by decide) ?_
      refine z_goto CX 217 dX6_stir_204 (by decide) ?_
      exact z_vret CX dX6_stir_217 rfl rfl (Or.inl rfl)
    | i + 11, h, _ => omega
  · rw [show stF (A 1) r = stN (A 1) (r / 16) 11 by unfold stF; rw [if_neg h0]]
    refine Cn.of (d := mX6_stir) (by decide +kernel) (Nat.le_of_ble_eq_true rfl) ?_
    intro p e R s m args below meth c CX
    replace CX : Ctx p s m args meth c R w RX6 "stir" cX6_stir 4 none 8 180 0 0 := CX
    show ZW p l e R s m args below meth c w 4 _ _ 0 0 (MQ below (Qn w _ _ _) args s 0 0 (wA w)) 0 [(0, .ref (wB w + k)), (1, .int _)] []
    refine z_iload_n CX 1 dX6_stir_0 rfl rfl ?_
    refine z_bipush CX (v := 16) dX6_stir_1 (by decide) ?_
    refine z_idiv CX dX6_stir_3 (by decide) ?_
    refine z_istore_n CX 2 dX6_stir_4 rfl (by decide) ?_
    refine z_iload_n CX 1 dX6_stir_5 rfl rfl ?_
    refine z_bipush CX (v := 16) dX6_stir_6 (by decide) ?_
    refine z_irem CX dX6_stir_8 (by decide) ?_
    refine z_tabOut CX 207 dX6_stir_9 (so_10 h0) (by decide) ?_
    refine z_aload_n CX 0 dX6_stir_207 rfl rfl ?_
    refine z_iconst CX (v := 1) dX6_stir_208 (by decide) ?_
    refine z_iload_n CX 2 dX6_stir_209 rfl rfl ?_
    refine z_iconst CX (v := 4) dX6_stir_210 (by decide) ?_
    refine z_irem CX dX6_stir_211 (by decide) ?_
    refine z_iadd CX dX6_stir_212 ?_
    refine z_callV1 CX dX6_stir_213 cv_X6_257 (r_minutes hO _) mo_0 rfl rfl (Nat.le_of_ble_eq_true rfl) ⟨Nat.le_of_ble_eq_true rfl, Nat.le_of_ble_eq_true rfl⟩ ⟨Nat.le_refl _, Nat.le_refl _⟩ ?_
    refine z_istore_n CX 3 dX6_stir_216 rfl (by decide) ?_
    exact z_vret CX dX6_stir_217 rfl rfl (Or.inl rfl)
theorem p10 : 10 ^ 10 = 10000000000 := by decide
theorem sc_g {S m : Nat} (hS : S < 2 ^ 63) (hm : m ≤ 10) : (lN S / tnF m - lN S / tnF m / 100000 * 100000).toInt32 = nI (S / 10 ^ m % 100000) := by
  have h1 : 10 ^ m ≤ 10 ^ 10 := Nat.pow_le_pow_right (by omega) hm
  have h2 : 0 < 10 ^ m := Nat.pow_pos (by omega)
  rw [p10] at h1
  rw [tnF_e, pk_lDiv hS h2 (by omega)]
  have h3 : S / 10 ^ m ≤ S := Nat.div_le_self _ _
  rw [show (100000 : Int64) = lN 100000 from rfl, pk_lRem (by omega) (by omega) (by omega), lN_i]
theorem tnF_0 {m : Nat} (hm : m ≤ 10) : ¬ tnF m = 0 := by
  have h1 : 10 ^ m ≤ 10 ^ 10 := Nat.pow_le_pow_right (by omega) hm
  have h2 : 0 < 10 ^ m := Nat.pow_pos (by omega)
  rw [p10] at h1
  rw [tnF_e, show (0 : Int64) = lN 0 from rfl]
  exact fun q => absurd ((pk_lEQ (by omega) (by omega)).mp q) (by omega)
set_option maxHeartbeats 4000000 in
set_option maxRecDepth 100000 in
theorem m_runScript {l : Launch} {w : Wt} {hs : Hs} {n : Option Nat} {k : Nat} {u : Nat → Int32} {A : Nat → Nat → Int32} (hO : OKr (A 0)) (a : Int32) (z : Int64) : ∃ tr : Nat → Int32, Cn l w mX6_runScript 0 0 [.ref (wB w + k), .int a, .long z] (modH w hs k u A) n (modH w hs k (rs_runScript u A a z).2.2.1 (upA (rs_runScript u A a z).2.2.2 1 tr)) n (some (.int (rs_runScript u A a z).2.1)) := by
  by_cases h0 : 1 ≤ a ∧ a ≤ 3
  · obtain ⟨N9, n0, n1, n2, n3⟩ := nI_le9 (a := 1) (b := 3) (by omega) (by omega) h0
    by_cases h1 : 0 ≤ z ∧ z ≤ tnF (5 * N9) - 1
    · obtain ⟨S9, hS9, s2⟩ := pk_lOf (Int64.not_lt.mpr h1.1)
      have s3 : z.toInt.toNat = S9 := by rw [s2, pk_lT hS9]; rfl
      obtain ⟨V9, F9, hF⟩ : ∃ V9 F9, scR S9 N9 N9 0 (A 0) = (V9, F9) := ⟨_, _, rfl⟩
      refine ⟨F9, ?_⟩
      rw [show rs_runScript u A a z = (0, V9, upd u 0 0, A) by unfold rs_runScript; rw [n3, if_pos ⟨h0, h1⟩, s3, hF]]
      subst n2
      subst s2
      refine Cn.of (d := mX6_runScript) (by decide +kernel) (Nat.le_of_ble_eq_true rfl) ?_
      intro p e R s m args below meth c CX
      replace CX : Ctx p s m args meth c R w RX6 "runScript" cX6_runScript 5 (some .int) 9 207 0 0 := CX
      show ZW p l e R s m args below meth c w 5 _ _ 0 0 (MQ below (Qn w _ _ _) args s 0 0 (wA w)) 0 [(0, .ref (wB w + k)), (1, .int _), (2, .long _)] []
      have LP : ∀ (j i : Nat) (tr : Nat → Int32), i + j = N9 → OKr tr → scR S9 N9 j i tr = (V9, F9) → ZW p l e R s m args below meth c w 5 (modH w hs k (upd u 0 0) (upA A 1 tr)) n 0 0 (MQ below (Qn w (modH w hs k (upd u 0 0) (upA A 1 F9)) n (some (.int V9))) args s 0 0 (wA w)) 56 [(0, .ref (wB w + k)), (1, .int (nI N9)), (2, .long (lN S9)), (4, .int (nI i))] [] := by
        intro j
        induction j with
        | zero =>
          intro i tr hi hT e1
          refine z_iload CX dX6_runScript_56 rfl ?_
          refine z_iload_n CX 1 dX6_runScript_58 rfl rfl ?_
          refine z_icmp_ge CX 96 dX6_runScript_59 (by decide) (fun _ => ?_) (fun q9 => absurd (nI_le (by omega) (by omega)) q9)
          refine z_iconst CX (v := (-1 : Int32)) dX6_runScript_96 (by decide) ?_
          exact z_iret CX dX6_runScript_97 rfl (congrArg Value.int (show V9 = -1 from (congrArg Prod.fst e1).symm)) (by rw [show F9 = tr from (congrArg Prod.snd e1).symm]) (Or.inl rfl)
        | succ j ih =>
          intro i tr hi hT e1
          refine z_iload CX dX6_runScript_56 rfl ?_
          refine z_iload_n CX 1 dX6_runScript_58 rfl rfl ?_
          refine z_icmp_ge CX 96 dX6_runScript_59 (by decide) (fun q9 => absurd q9 (nI_ge (by omega) (by omega))) (fun _ => ?_)
          refine z_aload_n CX 0 dX6_runScript_62 rfl rfl ?_
          refine z_lload_n CX 2 dX6_runScript_63 rfl rfl ?_
          refine z_iconst CX (v := 5) dX6_runScript_64 (by decide) ?_
          refine z_iload_n CX 1 dX6_runScript_65 rfl rfl ?_
          refine z_iconst CX (v := 1) dX6_runScript_66 (by decide) ?_
          refine z_isub CX dX6_runScript_67 ?_
          refine z_iload CX dX6_runScript_68 rfl ?_
          refine z_isub CX dX6_runScript_70 ?_
          refine z_imul CX dX6_runScript_71 ?_
          rw [show (5 : Int32) * (nI N9 - 1 - nI i) = nI (5 * (N9 - 1 - i)) by rw [show nI N9 - 1 = nI (N9 - 1) from pk_sub (b := 1) (by omega), pk_sub (by omega)]; exact pk_mul 5 _]
          refine z_callS1 CX dX6_runScript_72 cs_X6_273 (c_tens (m9 := 5 * (N9 - 1 - i)) (by omega)) rfl rfl (Nat.le_of_ble_eq_true rfl) ⟨Nat.le_of_ble_eq_true rfl, Nat.le_of_ble_eq_true rfl⟩ ⟨Nat.le_refl _, Nat.le_refl _⟩ ?_
          refine z_ldiv CX dX6_runScript_75 (tnF_0 (by omega)) ?_
          refine z_ldc2 CX (v := 100000) dX6_runScript_76 (wa_mem 1125 (by decide +kernel) rfl) ?_
          refine z_lrem CX dX6_runScript_79 (by decide) ?_
          refine z_l2i CX dX6_runScript_80 rfl ?_
          rw [sc_g hS9 (by omega)]
          refine z_callV1 CX dX6_runScript_81 cv_X6_279 (r_cmd (A := upA A 1 tr) hT (G := (S9 / 10 ^ (5 * (N9 - 1 - i)) % 100000)) (Nat.mod_lt _ (by omega))) mo_0 rfl rfl (Nat.le_of_ble_eq_true rfl) ⟨Nat.le_of_ble_eq_true rfl, Nat.le_of_ble_eq_true rfl⟩ ⟨Nat.le_refl _, Nat.le_refl _⟩ ?_
          refine z_heap (show _ = modH w hs k (upd u 0 0) (upA A 1 (cmdF tr (S9 / 10 ^ (5 * (N9 - 1 - i)) % 100000)).2) from congrArg (fun z => modH w hs k (upd u 0 0) z) upA_up) ?_
          refine z_if_ne CX 90 dX6_runScript_84 (by decide) (fun c_84 => ?_) (fun c_84 => ?_)
          · skip
            refine z_iinc CX (v := nI (i + 1)) dX6_runScript_90 rfl (nI_1 i) (by decide) ?_
            refine z_goto CX 56 dX6_runScript_93 (by decide) ?_
            refine z_loc [(0, .ref (wB w + k)), (1, .int (nI N9)), (2, .long (lN S9)), (4, .int (nI (i + 1)))] ⟨rfl, rfl, rfl, rfl, trivial⟩ ?_
            exact ih (i + 1) _ (by omega) (cmdF_ok hT) (by rw [← e1, scR, if_pos (bI_t (b := (cmdF tr (S9 / 10 ^ (5 * (N9 - 1 - i)) % 100000)).1) c_84)])
          · skip
            refine z_iload CX dX6_runScript_87 rfl ?_
            exact z_iret CX dX6_runScript_89 rfl (congrArg Value.int (show V9 = nI i from (congrArg Prod.fst (e1.symm.trans (by rw [scR, if_neg (show ¬ (cmdF tr (S9 / 10 ^ (5 * (N9 - 1 - i)) % 100000)).1 = true from fun z => absurd ((congrArg bI z).symm.trans c_84) (by decide))]))))) (by rw [show F9 = (cmdF tr (S9 / 10 ^ (5 * (N9 - 1 - i)) % 100000)).2 from congrArg Prod.snd (e1.symm.trans (by rw [scR, if_neg (show ¬ (cmdF tr (S9 / 10 ^ (5 * (N9 - 1 - i)) % 100000)).1 = true from fun z => absurd ((congrArg bI z).symm.trans c_84) (by decide))]))]) (Or.inl rfl)
      refine z_aload_n CX 0 dX6_runScript_0 rfl rfl ?_
      refine z_iload_n CX 1 dX6_runScript_1 rfl rfl ?_
      refine z_i2l CX dX6_runScript_2 rfl ?_
      refine z_lconst CX (v := 1) dX6_runScript_3 (by decide) ?_
      refine z_ldc2 CX (v := 3) dX6_runScript_4 (wa_mem 989 (by decide +kernel) rfl) ?_
      refine z_callS1 CX dX6_runScript_7 cs_X6_42 (c_inI (1) (3) _ _ _ (by decide) (by decide)) rfl rfl (Nat.le_of_ble_eq_true rfl) ⟨Nat.le_of_ble_eq_true rfl, Nat.le_of_ble_eq_true rfl⟩ ⟨Nat.le_refl _, Nat.le_refl _⟩ ?_
      refine z_if_eq CX 33 dX6_runScript_10 (by decide) (fun q9 => absurd q9 (by rw [bI_1 h0]; decide)) (fun _ => ?_)
      refine z_lload_n CX 2 dX6_runScript_13 rfl rfl ?_
      refine z_lconst CX (v := 0) dX6_runScript_14 (by decide) ?_
      refine z_iconst CX (v := 5) dX6_runScript_15 (by decide) ?_
      refine z_iload_n CX 1 dX6_runScript_16 rfl rfl ?_
      refine z_imul CX dX6_runScript_17 ?_
      rw [show (5 : Int32) * nI N9 = nI (5 * N9) from pk_mul 5 N9]
      refine z_callS1 CX dX6_runScript_18 cs_X6_273 (c_tens (m9 := 5 * N9) (by omega)) rfl rfl (Nat.le_of_ble_eq_true rfl) ⟨Nat.le_of_ble_eq_true rfl, Nat.le_of_ble_eq_true rfl⟩ ⟨Nat.le_refl _, Nat.le_refl _⟩ ?_
      refine z_lconst CX (v := 1) dX6_runScript_21 (by decide) ?_
      refine z_lsub CX dX6_runScript_22 ?_
      refine z_callS1 CX dX6_runScript_23 cs_X6_42 (c_in _ _ _) rfl rfl (Nat.le_of_ble_eq_true rfl) ⟨Nat.le_of_ble_eq_true rfl, Nat.le_of_ble_eq_true rfl⟩ ⟨Nat.le_refl _, Nat.le_refl _⟩ ?_
      refine z_if_eq CX 33 dX6_runScript_26 (by decide) (fun q9 => absurd q9 (by rw [bI_1 h1]; decide)) (fun _ => ?_)
      refine z_iconst CX (v := 0) dX6_runScript_29 (by decide) ?_
      refine z_goto CX 34 dX6_runScript_30 (by decide) ?_
      refine z_callV1 CX dX6_runScript_34 cv_X6_122 (c_ref _) mo_0 rfl rfl (Nat.le_of_ble_eq_true rfl) ⟨Nat.le_of_ble_eq_true rfl, Nat.le_of_ble_eq_true rfl⟩ ⟨Nat.le_refl _, Nat.le_refl _⟩ ?_
      refine z_if_eq CX 42 dX6_runScript_37 (by decide) (fun _ => ?_) (fun q9 => absurd (by decide) q9)
      refine z_aload_n CX 0 dX6_runScript_42 rfl rfl ?_
      refine z_get CX dX6_runScript_43 fg_X6_7 mo_0 rfl ?_
      refine z_aload_n CX 0 dX6_runScript_46 rfl rfl ?_
      refine z_get CX dX6_runScript_47 fg_X6_13 mo_0 rfl ?_
      refine z_callS0 CX dX6_runScript_50 cs_X6_212 (Cn.row mq_1 mr_1 (a := k + 2) (c_cpM (q := k + 1) (by omega) mo_1)) rfl rfl (Nat.le_of_ble_eq_true rfl) ⟨Nat.le_of_ble_eq_true rfl, Nat.le_of_ble_eq_true rfl⟩ ⟨Nat.le_refl _, Nat.le_refl _⟩ ?_
      refine z_iconst CX (v := 0) dX6_runScript_53 (by decide) ?_
      refine z_istore CX dX6_runScript_54 (by decide) ?_
      refine z_loc [(0, .ref (wB w + k)), (1, .int (nI N9)), (2, .long (lN S9)), (4, .int (nI 0))] ⟨rfl, rfl, rfl, rfl, trivial⟩ ?_
      exact LP N9 0 (A 0) (by omega) hO hF
    · refine ⟨A 1, ?_⟩
      rw [show rs_runScript u A a z = bad 1 u A by unfold rs_runScript; rw [n3, if_neg (fun q => h1 q.2)]]
      subst n2
      refine Cn.of (d := mX6_runScript) (by decide +kernel) (Nat.le_of_ble_eq_true rfl) ?_
      intro p e R s m args below meth c CX
      replace CX : Ctx p s m args meth c R w RX6 "runScript" cX6_runScript 5 (some .int) 9 207 0 0 := CX
      show ZW p l e R s m args below meth c w 5 _ _ 0 0 (MQ below (Qn w _ _ _) args s 0 0 (wA w)) 0 [(0, .ref (wB w + k)), (1, .int _), (2, .long _)] []
      refine z_aload_n CX 0 dX6_runScript_0 rfl rfl ?_
      refine z_iload_n CX 1 dX6_runScript_1 rfl rfl ?_
      refine z_i2l CX dX6_runScript_2 rfl ?_
      refine z_lconst CX (v := 1) dX6_runScript_3 (by decide) ?_
      refine z_ldc2 CX (v := 3) dX6_runScript_4 (wa_mem 989 (by decide +kernel) rfl) ?_
      refine z_callS1 CX dX6_runScript_7 cs_X6_42 (c_inI (1) (3) _ _ _ (by decide) (by decide)) rfl rfl (Nat.le_of_ble_eq_true rfl) ⟨Nat.le_of_ble_eq_true rfl, Nat.le_of_ble_eq_true rfl⟩ ⟨Nat.le_refl _, Nat.le_refl _⟩ ?_
      refine z_if_eq CX 33 dX6_runScript_10 (by decide) (fun q9 => absurd q9 (by rw [bI_1 h0]; decide)) (fun _ => ?_)
      refine z_lload_n CX 2 dX6_runScript_13 rfl rfl ?_
      refine z_lconst CX (v := 0) dX6_runScript_14 (by decide) ?_
      refine z_iconst CX (v := 5) dX6_runScript_15 (by decide) ?_
      refine z_iload_n CX 1 dX6_runScript_16 rfl rfl ?_
      refine z_imul CX dX6_runScript_17 ?_
      rw [show (5 : Int32) * nI N9 = nI (5 * N9) from pk_mul 5 N9]
      refine z_callS1 CX dX6_runScript_18 cs_X6_273 (c_tens (m9 := 5 * N9) (by omega)) rfl rfl (Nat.le_of_ble_eq_true rfl) ⟨Nat.le_of_ble_eq_true rfl, Nat.le_of_ble_eq_true rfl⟩ ⟨Nat.le_refl _, Nat.le_refl _⟩ ?_
      refine z_lconst CX (v := 1) dX6_runScript_21 (by decide) ?_
      refine z_lsub CX dX6_runScript_22 ?_
      refine z_callS1 CX dX6_runScript_23 cs_X6_42 (c_in _ _ _) rfl rfl (Nat.le_of_ble_eq_true rfl) ⟨Nat.le_of_ble_eq_true rfl, Nat.le_of_ble_eq_true rfl⟩ ⟨Nat.le_refl _, Nat.le_refl _⟩ ?_
      refine z_if_eq CX 33 dX6_runScript_26 (by decide) (fun _ => ?_) (fun q9 => absurd (bI_0 h1) q9)
      refine z_iconst CX (v := 1) dX6_runScript_33 (by decide) ?_
      refine z_callV1 CX dX6_runScript_34 cv_X6_122 (c_ref _) mo_0 rfl rfl (Nat.le_of_ble_eq_true rfl) ⟨Nat.le_of_ble_eq_true rfl, Nat.le_of_ble_eq_true rfl⟩ ⟨Nat.le_refl _, Nat.le_refl _⟩ ?_
      refine z_if_eq CX 42 dX6_runScript_37 (by decide) (fun q9 => absurd q9 (by decide)) (fun _ => ?_)
      refine z_iconst CX (v := 0) dX6_runScript_40 (by decide) ?_
      exact z_iret CX dX6_runScript_41 rfl rfl (by show _ = modH w hs k _ (upA A 1 (A 1)); rw [upA_id]; rfl) (Or.inl rfl)
  · refine ⟨A 1, ?_⟩
    rw [show rs_runScript u A a z = bad 1 u A from if_neg (fun q => h0 q.1)]
    refine Cn.of (d := mX6_runScript) (by decide +kernel) (Nat.le_of_ble_eq_true rfl) ?_
    intro p e R s m args below meth c CX
    replace CX : Ctx p s m args meth c R w RX6 "runScript" cX6_runScript 5 (some .int) 9 207 0 0 := CX
    show ZW p l e R s m args below meth c w 5 _ _ 0 0 (MQ below (Qn w _ _ _) args s 0 0 (wA w)) 0 [(0, .ref (wB w + k)), (1, .int _), (2, .long _)] []
    refine z_aload_n CX 0 dX6_runScript_0 rfl rfl ?_
    refine z_iload_n CX 1 dX6_runScript_1 rfl rfl ?_
    refine z_i2l CX dX6_runScript_2 rfl ?_
    refine z_lconst CX (v := 1) dX6_runScript_3 (by decide) ?_
    refine z_ldc2 CX (v := 3) dX6_runScript_4 (wa_mem 989 (by decide +kernel) rfl) ?_
    refine z_callS1 CX dX6_runScript_7 cs_X6_42 (c_inI (1) (3) _ _ _ (by decide) (by decide)) rfl rfl (Nat.le_of_ble_eq_true rfl) ⟨Nat.le_of_ble_eq_true rfl, Nat.le_of_ble_eq_true rfl⟩ ⟨Nat.le_refl _, Nat.le_refl _⟩ ?_
    refine z_if_eq CX 33 dX6_runScript_10 (by decide) (fun _ => ?_) (fun q9 => absurd (bI_0 h0) q9)
    refine z_iconst CX (v := 1) dX6_runScript_33 (by decide) ?_
    refine z_callV1 CX dX6_runScript_34 cv_X6_122 (c_ref _) mo_0 rfl rfl (Nat.le_of_ble_eq_true rfl) ⟨Nat.le_of_ble_eq_true rfl, Nat.le_of_ble_eq_true rfl⟩ ⟨Nat.le_refl _, Nat.le_refl _⟩ ?_
    refine z_if_eq CX 42 dX6_runScript_37 (by decide) (fun q9 => absurd q9 (by decide)) (fun _ => ?_)
    refine z_iconst CX (v := 0) dX6_runScript_40 (by decide) ?_
    exact z_iret CX dX6_runScript_41 rfl rfl (by show _ = modH w hs k _ (upA A 1 (A 1)); rw [upA_id]; rfl) (Or.inl rfl)
set_option maxHeartbeats 4000000 in
set_option maxRecDepth 100000 in
theorem m_sim0 {l : Launch} {w : Wt} {hs : Hs} {n : Option Nat} {k : Nat} {u : Nat → Int32} {A : Nat → Nat → Int32} (hO : OKr (A 0)) (nx : Int64 → Int64) (sx : Int64 → Int32) (hnx : ∀ x : Int64, x * 6364136223846793005 + 1442695040888963407 = nx x) (hsx : ∀ x : Int64, ((x.toUInt64 >>> ((33 : Int32).toInt64.toUInt64 &&& Int64.toUInt64 63)).toInt64).toInt32 = sx x) (z : Int64) (a : Int32) : ∃ tr : Nat → Int32, Cn l w mX6_simulate 0 0 [.ref (wB w + k), .long z, .int a] (modH w hs k u A) n (modH w hs k (rs_sim nx sx u A z a).2.2.1 (upA (rs_sim nx sx u A z a).2.2.2 1 tr)) n (some (.int (rs_sim nx sx u A z a).2.1)) := by
  by_cases h0 : 1 ≤ a ∧ a ≤ 60
  · obtain ⟨N9, n0, n1, n2, n3⟩ := nI_le9 (a := 1) (b := 60) (by omega) (by omega) h0
    obtain ⟨F9, hF⟩ : ∃ F9, itR nx sx N9 z (A 0) = F9 := ⟨_, rfl⟩
    have hT : OKr F9 := hF ▸ itR_ok N9 z (A 0) hO
    refine ⟨F9, ?_⟩
    rw [show rs_sim nx sx u A z a = (0, smV (A 0) F9, upd u 0 0, A) by unfold rs_sim; rw [if_pos h0, n3, hF]]
    subst n2
    refine Cn.of (d := mX6_simulate) (by decide +kernel) (Nat.le_of_ble_eq_true rfl) ?_
    intro p e R s m args below meth c CX
    replace CX : Ctx p s m args meth c R w RX6 "simulate" cX6_simulate 8 (some .int) 9 203 0 0 := CX
    show ZW p l e R s m args below meth c w 8 _ _ 0 0 (MQ below (Qn w _ _ _) args s 0 0 (wA w)) 0 [(0, .ref (wB w + k)), (1, .long _), (3, .int _)] []
    have L2 : ∀ (j i : Nat), i + j = 4 → ZW p l e R s m args below meth c w 8 (modH w hs k (upd u 0 0) (upA A 1 F9)) n 0 0 (MQ below (Qn w (modH w hs k (upd u 0 0) (upA A 1 F9)) n (some (.int (smV (A 0) F9)))) args s 0 0 (wA w)) 83 [(0, .ref (wB w + k)), (6, .int (bx_sum (fun o => F9 (134 + 3 * o)) i)), (7, .int (nI i))] [] := by
      intro j
      induction j with
      | zero =>
        intro i hi
        have hi9 : i = 4 := by omega
        subst hi9
        refine z_iload CX dX6_simulate_83 rfl ?_
        refine z_iconst CX (v := 4) dX6_simulate_85 (by decide) ?_
        refine z_icmp_ge CX 113 dX6_simulate_86 (by decide) (fun _ => ?_) (fun q9 => absurd (by decide) q9)
        refine z_sipush CX (v := 10000) dX6_simulate_113 (by decide) ?_
        refine z_aload_n CX 0 dX6_simulate_116 rfl rfl ?_
        refine z_get CX dX6_simulate_117 fg_X6_13 mo_0 rfl ?_
        refine z_sipush CX (v := 149) dX6_simulate_120 (by decide) ?_
        refine z_ia CX (j := 149) dX6_simulate_123 mo_2 rfl (by omega) (by decide) ?_
        refine z_aload_n CX 0 dX6_simulate_124 rfl rfl ?_
        refine z_get CX dX6_simulate_125 fg_X6_7 mo_0 rfl ?_
        refine z_sipush CX (v := 149) dX6_simulate_128 (by decide) ?_
        refine z_ia CX (j := 149) dX6_simulate_131 mo_1 rfl (by omega) (by decide) ?_
        refine z_isub CX dX6_simulate_132 ?_
        refine z_imul CX dX6_simulate_133 ?_
        refine z_bipush CX (v := 100) dX6_simulate_134 (by decide) ?_
        refine z_iload CX dX6_simulate_136 rfl ?_
        refine z_bipush CX (v := 100) dX6_simulate_138 (by decide) ?_
        refine z_irem CX dX6_simulate_140 (by decide) ?_
        refine z_imul CX dX6_simulate_141 ?_
        refine z_iadd CX dX6_simulate_142 ?_
        refine z_aload_n CX 0 dX6_simulate_143 rfl rfl ?_
        refine z_get CX dX6_simulate_144 fg_X6_13 mo_0 rfl ?_
        refine z_iconst CX (v := 3) dX6_simulate_147 (by decide) ?_
        refine z_callS1 CX dX6_simulate_148 cs_X6_82 (Cn.row (mq_1 (A := upA A 1 F9)) (mq_1 (A := upA A 1 F9)) (a := k + 2) (c_inSt (f := F9) hT.1.2.1 (by have := hT.2.2; omega) 3)) rfl rfl (Nat.le_of_ble_eq_true rfl) ⟨Nat.le_of_ble_eq_true rfl, Nat.le_of_ble_eq_true rfl⟩ ⟨Nat.le_refl _, Nat.le_refl _⟩ ?_
        refine z_iadd CX dX6_simulate_151 ?_
        exact z_iret CX dX6_simulate_152 rfl rfl rfl (Or.inl rfl)
      | succ j ih =>
        intro i hi
        refine z_iload CX dX6_simulate_83 rfl ?_
        refine z_iconst CX (v := 4) dX6_simulate_85 (by decide) ?_
        refine z_icmp_ge CX 113 dX6_simulate_86 (by decide) (fun q9 => absurd q9 (nI_ge (b := 4) (by omega) (by omega))) (fun _ => ?_)
        refine z_iload CX dX6_simulate_89 rfl ?_
        refine z_aload_n CX 0 dX6_simulate_91 rfl rfl ?_
        refine z_get CX dX6_simulate_92 fg_X6_13 mo_0 rfl ?_
        refine z_sipush CX (v := 134) dX6_simulate_95 (by decide) ?_
        refine z_iconst CX (v := 3) dX6_simulate_98 (by decide) ?_
        refine z_iload CX dX6_simulate_99 rfl ?_
        refine z_imul CX dX6_simulate_101 ?_
        refine z_iadd CX dX6_simulate_102 ?_
        refine z_ia CX (j := (134 + (3 * i))) dX6_simulate_103 mo_2 (ix_add rfl (ix_mul rfl rfl)) (by omega) (by decide) ?_
        refine z_iadd CX dX6_simulate_104 ?_
        refine z_istore CX dX6_simulate_105 (by decide) ?_
        refine z_iinc CX (v := nI (i + 1)) dX6_simulate_107 rfl (nI_1 i) (by decide) ?_
        refine z_goto CX 83 dX6_simulate_110 (by decide) ?_
        refine z_loc [(0, .ref (wB w + k)), (6, .int (bx_sum (fun o => F9 (134 + 3 * o)) (i + 1))), (7, .int (nI (i + 1)))] ⟨rfl, rfl, rfl, trivial⟩ ?_
        exact ih (i + 1) (by omega)
    have LP : ∀ (j i : Nat) (x : Int64) (tr : Nat → Int32), i + j = N9 → OKr tr → itR nx sx j x tr = F9 → ZW p l e R s m args below meth c w 8 (modH w hs k (upd u 0 0) (upA A 1 tr)) n 0 0 (MQ below (Qn w (modH w hs k (upd u 0 0) (upA A 1 F9)) n (some (.int (smV (A 0) F9)))) args s 0 0 (wA w)) 43 [(0, .ref (wB w + k)), (1, .long z), (3, .int (nI N9)), (4, .long x), (6, .int (nI i))] [] := by
      intro j
      induction j with
      | zero =>
        intro i x tr hi hT9 e1
        refine z_iload CX dX6_simulate_43 rfl ?_
        refine z_iload_n CX 3 dX6_simulate_45 rfl rfl ?_
        refine z_icmp_ge CX 77 dX6_simulate_46 (by decide) (fun _ => ?_) (fun q9 => absurd (nI_le (by omega) (by omega)) q9)
        refine z_iconst CX (v := 0) dX6_simulate_77 (by decide) ?_
        refine z_istore CX dX6_simulate_78 (by decide) ?_
        refine z_iconst CX (v := 0) dX6_simulate_80 (by decide) ?_
        refine z_istore CX dX6_simulate_81 (by decide) ?_
        rw [show tr = F9 from e1]
        refine z_loc [(0, .ref (wB w + k)), (6, .int (bx_sum (fun o => F9 (134 + 3 * o)) 0)), (7, .int (nI 0))] ⟨rfl, rfl, rfl, trivial⟩ ?_
        exact L2 4 0 (by omega)
      | succ j ih =>
        intro i x tr hi hT9 e1
        refine z_iload CX dX6_simulate_43 rfl ?_
        refine z_iload_n CX 3 dX6_simulate_45 rfl rfl ?_
        refine z_icmp_ge CX 77 dX6_simulate_46 (by decide) (fun q9 => absurd q9 (nI_ge (by omega) (by omega))) (fun _ => ?_)
        refine z_lload CX dX6_simulate_49 rfl ?_
        refine z_ldc2 CX (v := 6364136223846793005) dX6_simulate_51 (wa_mem 1158 (by decide +kernel) rfl) ?_
        refine z_lmul CX dX6_simulate_54 ?_
        refine z_ldc2 CX (v := 1442695040888963407) dX6_simulate_55 (wa_mem 1159 (by decide +kernel) rfl) ?_
        refine z_ladd CX dX6_simulate_58 ?_
        rw [hnx x]
        refine z_lstore CX dX6_simulate_59 (by decide) ?_
        refine z_aload_n CX 0 dX6_simulate_61 rfl rfl ?_
        refine z_lload CX dX6_simulate_62 rfl ?_
        refine z_bipush CX (v := 33) dX6_simulate_64 (by decide) ?_
        refine z_lushr CX dX6_simulate_66 rfl ?_
        refine z_l2i CX dX6_simulate_67 rfl ?_
        refine z_stk (congrArg (fun z => [Value.int z, Value.ref (wB w + k)]) (hsx (nx x))) ?_
        refine z_callV0 CX dX6_simulate_68 cv_X6_290 (r_stir (A := upA A 1 tr) hT9 _) mo_0 rfl rfl (Nat.le_of_ble_eq_true rfl) ⟨Nat.le_of_ble_eq_true rfl, Nat.le_of_ble_eq_true rfl⟩ ⟨Nat.le_refl _, Nat.le_refl _⟩ ?_
        refine z_heap (show _ = modH w hs k (upd u 0 0) (upA A 1 (stF tr (sx (nx x))).2) from congrArg (fun z => modH w hs k (upd u 0 0) z) upA_up) ?_
        refine z_iinc CX (v := nI (i + 1)) dX6_simulate_71 rfl (nI_1 i) (by decide) ?_
        refine z_goto CX 43 dX6_simulate_74 (by decide) ?_
        refine z_loc [(0, .ref (wB w + k)), (1, .long z), (3, .int (nI N9)), (4, .long (nx x)), (6, .int (nI (i + 1)))] ⟨rfl, rfl, rfl, rfl, rfl, trivial⟩ ?_
        exact ih (i + 1) _ _ (by omega) (stF_ok hT9) (by rw [← itR_s]; exact e1)
    refine z_aload_n CX 0 dX6_simulate_0 rfl rfl ?_
    refine z_iload_n CX 3 dX6_simulate_1 rfl rfl ?_
    refine z_i2l CX dX6_simulate_2 rfl ?_
    refine z_lconst CX (v := 1) dX6_simulate_3 (by decide) ?_
    refine z_ldc2 CX (v := 60) dX6_simulate_4 (wa_mem 1089 (by decide +kernel) rfl) ?_
    refine z_callS1 CX dX6_simulate_7 cs_X6_42 (c_inI (1) (60) _ _ _ (by decide) (by decide)) rfl rfl (Nat.le_of_ble_eq_true rfl) ⟨Nat.le_of_ble_eq_true rfl, Nat.le_of_ble_eq_true rfl⟩ ⟨Nat.le_refl _, Nat.le_refl _⟩ ?_
    refine z_if_eq CX 17 dX6_simulate_10 (by decide) (fun q9 => absurd q9 (by rw [bI_1 h0]; decide)) (fun _ => ?_)
    refine z_iconst CX (v := 0) dX6_simulate_13 (by decide) ?_
    refine z_goto CX 18 dX6_simulate_14 (by decide) ?_
    refine z_callV1 CX dX6_simulate_18 cv_X6_122 (c_ref _) mo_0 rfl rfl (Nat.le_of_ble_eq_true rfl) ⟨Nat.le_of_ble_eq_true rfl, Nat.le_of_ble_eq_true rfl⟩ ⟨Nat.le_refl _, Nat.le_refl _⟩ ?_
    refine z_if_eq CX 26 dX6_simulate_21 (by decide) (fun _ => ?_) (fun q9 => absurd (by decide) q9)
    refine z_aload_n CX 0 dX6_simulate_26 rfl rfl ?_
    refine z_get CX dX6_simulate_27 fg_X6_7 mo_0 rfl ?_
    refine z_aload_n CX 0 dX6_simulate_30 rfl rfl ?_
    refine z_get CX dX6_simulate_31 fg_X6_13 mo_0 rfl ?_
    refine z_callS0 CX dX6_simulate_34 cs_X6_212 (Cn.row mq_1 mr_1 (a := k + 2) (c_cpM (q := k + 1) (by omega) mo_1)) rfl rfl (Nat.le_of_ble_eq_true rfl) ⟨Nat.le_of_ble_eq_true rfl, Nat.le_of_ble_eq_true rfl⟩ ⟨Nat.le_refl _, Nat.le_refl _⟩ ?_
    refine z_lload_n CX 1 dX6_simulate_37 rfl rfl ?_
    refine z_lstore CX dX6_simulate_38 (by decide) ?_
    refine z_iconst CX (v := 0) dX6_simulate_40 (by decide) ?_
    refine z_istore CX dX6_simulate_41 (by decide) ?_
    refine z_loc [(0, .ref (wB w + k)), (1, .long z), (3, .int (nI N9)), (4, .long z), (6, .int (nI 0))] ⟨rfl, rfl, rfl, rfl, rfl, trivial⟩ ?_
    exact LP N9 0 z (A 0) (by omega) hO hF
  · refine ⟨A 1, ?_⟩
    rw [show rs_sim nx sx u A z a = bad 1 u A from if_neg h0]
    refine Cn.of (d := mX6_simulate) (by decide +kernel) (Nat.le_of_ble_eq_true rfl) ?_
    intro p e R s m args below meth c CX
    replace CX : Ctx p s m args meth c R w RX6 "simulate" cX6_simulate 8 (some .int) 9 203 0 0 := CX
    show ZW p l e R s m args below meth c w 8 _ _ 0 0 (MQ below (Qn w _ _ _) args s 0 0 (wA w)) 0 [(0, .ref (wB w + k)), (1, .long _), (3, .int _)] []
    refine z_aload_n CX 0 dX6_simulate_0 rfl rfl ?_
    refine z_iload_n CX 3 dX6_simulate_1 rfl rfl ?_
    refine z_i2l CX dX6_simulate_2 rfl ?_
    refine z_lconst CX (v := 1) dX6_simulate_3 (by decide) ?_
    refine z_ldc2 CX (v := 60) dX6_simulate_4 (wa_mem 1089 (by decide +kernel) rfl) ?_
    refine z_callS1 CX dX6_simulate_7 cs_X6_42 (c_inI (1) (60) _ _ _ (by decide) (by decide)) rfl rfl (Nat.le_of_ble_eq_true rfl) ⟨Nat.le_of_ble_eq_true rfl, Nat.le_of_ble_eq_true rfl⟩ ⟨Nat.le_refl _, Nat.le_refl _⟩ ?_
    refine z_if_eq CX 17 dX6_simulate_10 (by decide) (fun _ => ?_) (fun q9 => absurd (bI_0 h0) q9)
    refine z_iconst CX (v := 1) dX6_simulate_17 (by decide) ?_
    refine z_callV1 CX dX6_simulate_18 cv_X6_122 (c_ref _) mo_0 rfl rfl (Nat.le_of_ble_eq_true rfl) ⟨Nat.le_of_ble_eq_true rfl, Nat.le_of_ble_eq_true rfl⟩ ⟨Nat.le_refl _, Nat.le_refl _⟩ ?_
    refine z_if_eq CX 26 dX6_simulate_21 (by decide) (fun q9 => absurd q9 (by decide)) (fun _ => ?_)
    refine z_iconst CX (v := 0) dX6_simulate_24 (by decide) ?_
    exact z_iret CX dX6_simulate_25 rfl rfl (by show _ = modH w hs k _ (upA A 1 (A 1)); rw [upA_id]; rfl) (Or.inl rfl)
theorem m_simulate {l : Launch} {w : Wt} {hs : Hs} {n : Option Nat} {k : Nat} {u : Nat → Int32} {A : Nat → Nat → Int32} (hO : OKr (A 0)) (z : Int64) (a : Int32) : ∃ tr : Nat → Int32, Cn l w mX6_simulate 0 0 [.ref (wB w + k), .long z, .int a] (modH w hs k u A) n (modH w hs k (rs_sim nxF sxF u A z a).2.2.1 (upA (rs_sim nxF sxF u A z a).2.2.2 1 tr)) n (some (.int (rs_sim nxF sxF u A z a).2.1)) := m_sim0 hO nxF sxF (fun _ => rfl) (fun _ => rfl) z a
