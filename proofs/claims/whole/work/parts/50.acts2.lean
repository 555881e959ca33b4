/-! the model: undo, save slots, the text buffer -/
set_option maxHeartbeats 4000000 in
set_option maxRecDepth 100000 in
theorem m_undo {l : Launch} {w : Wt} {hs : Hs} {n : Option Nat} {k : Nat} {u : Nat → Int32} {A : Nat → Nat → Int32} {ns : Nat} (hn : u 1 = nI ns) (h14 : ns ≤ 14) : Cn l w mX6_undo 0 0 [.ref (wB w + k)] (modH w hs k u A) n (modH w hs k (rs_undo u A ns).2.2.1 (rs_undo u A ns).2.2.2) n (some (.int (rs_undo u A ns).2.1)) := by
  by_cases h0 : ns = 0
  · rw [show rs_undo u A ns = bad 1 u A from if_pos h0]
    refine Cn.of (d := mX6_undo) (by decide +kernel) (Nat.le_of_ble_eq_true rfl) ?_
    intro p e R s m args below meth c CX
    replace CX : Ctx p s m args meth c R w RX6 "undo" cX6_undo 2 (some .int) 1 21 0 0 := CX
    show ZW p l e R s m args below meth c w 2 _ _ 0 0 (MQ below (Qn w _ _ _) args s 0 0 (wA w)) 0 [(0, .ref (wB w + k))] []
    refine z_aload_n CX 0 dX6_undo_0 rfl rfl ?_
    refine z_aload_n CX 0 dX6_undo_1 rfl rfl ?_
    refine z_get CX dX6_undo_2 fg_X6_114 mo_0 rfl ?_
    refine z_if_ne CX 12 dX6_undo_5 (by decide) (fun q9 => absurd q9 (fun z => z (by rw [hn, h0]; rfl))) (fun _ => ?_)
    refine z_iconst CX (v := 1) dX6_undo_8 (by decide) ?_
    refine z_goto CX 13 dX6_undo_9 (by decide) ?_
    refine z_callV1 CX dX6_undo_13 cv_X6_122 (c_ref _) mo_0 rfl rfl (Nat.le_of_ble_eq_true rfl) ⟨Nat.le_of_ble_eq_true rfl, Nat.le_of_ble_eq_true rfl⟩ ⟨Nat.le_refl _, Nat.le_refl _⟩ ?_
    refine z_if_eq CX 21 dX6_undo_16 (by decide) (fun q9 => absurd q9 (by decide)) (fun _ => ?_)
    refine z_iconst CX (v := 0) dX6_undo_19 (by decide) ?_
    exact z_iret CX dX6_undo_20 rfl rfl rfl (Or.inl rfl)
  · obtain ⟨m9, rfl⟩ : ∃ m9, ns = m9 + 1 := ⟨ns - 1, by omega⟩
    rw [show rs_undo u A (m9 + 1) = (0, nI m9, upd (upd u 0 0) 1 (nI m9), upA A 0 (cpyF 157 (sl (A 3) m9) (A 0))) from if_neg h0]
    refine Cn.of (d := mX6_undo) (by decide +kernel) (Nat.le_of_ble_eq_true rfl) ?_
    intro p e R s m args below meth c CX
    replace CX : Ctx p s m args meth c R w RX6 "undo" cX6_undo 2 (some .int) 1 21 0 0 := CX
    show ZW p l e R s m args below meth c w 2 _ _ 0 0 (MQ below (Qn w _ _ _) args s 0 0 (wA w)) 0 [(0, .ref (wB w + k))] []
    have LP : ∀ (j i : Nat), i + j = 157 → ZW p l e R s m args below meth c w 2 (modH w hs k (upd (upd u 0 0) 1 (nI m9)) (upA A 0 (cpyF i (sl (A 3) m9) (A 0)))) n 0 0 (MQ below (Qn w (modH w hs k (upd (upd u 0 0) 1 (nI m9)) (upA A 0 (cpyF 157 (sl (A 3) m9) (A 0)))) n (some (.int (nI m9)))) args s 0 0 (wA w)) 33 [(0, .ref (wB w + k)), (1, .int (nI i))] [] := by
      intro j
      induction j with
      | zero =>
        intro i hi
        have hi9 : i = 157 := by omega
        subst hi9
        refine z_iload_n CX 1 dX6_undo_33 rfl rfl ?_
        refine z_sipush CX (v := 157) dX6_undo_34 (by decide) ?_
        refine z_icmp_ge CX 67 dX6_undo_37 (by decide) (fun _ => ?_) (fun q9 => absurd (by decide) q9)
        refine z_aload_n CX 0 dX6_undo_67 rfl rfl ?_
        refine z_get CX dX6_undo_68 fg_X6_114 mo_0 rfl ?_
        exact z_iret CX dX6_undo_71 rfl rfl rfl (Or.inl rfl)
      | succ j ih =>
        intro i hi
        refine z_iload_n CX 1 dX6_undo_33 rfl rfl ?_
        refine z_sipush CX (v := 157) dX6_undo_34 (by decide) ?_
        refine z_icmp_ge CX 67 dX6_undo_37 (by decide) (fun q9 => absurd q9 (nI_ge (b := 157) (by omega) (by omega))) (fun _ => ?_)
        refine z_aload_n CX 0 dX6_undo_40 rfl rfl ?_
        refine z_get CX dX6_undo_41 fg_X6_7 mo_0 rfl ?_
        refine z_iload_n CX 1 dX6_undo_44 rfl rfl ?_
        refine z_aload_n CX 0 dX6_undo_45 rfl rfl ?_
        refine z_get CX dX6_undo_46 fg_X6_19 mo_0 rfl ?_
        refine z_sipush CX (v := 157) dX6_undo_49 (by decide) ?_
        refine z_aload_n CX 0 dX6_undo_52 rfl rfl ?_
        refine z_get CX dX6_undo_53 fg_X6_114 mo_0 rfl ?_
        refine z_imul CX dX6_undo_56 ?_
        refine z_iload_n CX 1 dX6_undo_57 rfl rfl ?_
        refine z_iadd CX dX6_undo_58 ?_
        refine z_ia CX (j := ((157 * m9) + i)) dX6_undo_59 mo_4 (ix_add (ix_mul rfl rfl) rfl) (by omega) (by decide) ?_
        refine z_is CX (j := i) dX6_undo_60 mo_1 rfl (by omega) (by decide) ?_
        refine z_heap mo_a0 ?_
        refine z_iinc CX (v := nI (i + 1)) dX6_undo_61 rfl (nI_1 i) (by decide) ?_
        refine z_goto CX 33 dX6_undo_64 (by decide) ?_
        refine z_heap (congrArg (fun z => modH w hs k _ z) (upA_up.trans (congrArg (upA A 0) (cpyF_s (g := sl (A 3) m9))))) ?_
        refine z_loc [(0, .ref (wB w + k)), (1, .int (nI (i + 1)))] ⟨rfl, rfl, trivial⟩ ?_
        exact ih (i + 1) (by omega)
    refine z_aload_n CX 0 dX6_undo_0 rfl rfl ?_
    refine z_aload_n CX 0 dX6_undo_1 rfl rfl ?_
    refine z_get CX dX6_undo_2 fg_X6_114 mo_0 rfl ?_
    refine z_if_ne CX 12 dX6_undo_5 (by decide) (fun _ => ?_) (fun q9 => absurd q9 (by rw [hn]; exact nI_ne0 (by omega) (by omega)))
    refine z_iconst CX (v := 0) dX6_undo_12 (by decide) ?_
    refine z_callV1 CX dX6_undo_13 cv_X6_122 (c_ref _) mo_0 rfl rfl (Nat.le_of_ble_eq_true rfl) ⟨Nat.le_of_ble_eq_true rfl, Nat.le_of_ble_eq_true rfl⟩ ⟨Nat.le_refl _, Nat.le_refl _⟩ ?_
    refine z_if_eq CX 21 dX6_undo_16 (by decide) (fun _ => ?_) (fun q9 => absurd (by decide) q9)
    refine z_aload_n CX 0 dX6_undo_21 rfl rfl ?_
    refine z_dup CX dX6_undo_22 rfl ?_
    refine z_get CX dX6_undo_23 fg_X6_114 mo_0 rfl ?_
    rw [show upd u 0 0 1 = nI (m9 + 1) from hn]
    refine z_iconst CX (v := 1) dX6_undo_26 (by decide) ?_
    refine z_isub CX dX6_undo_27 ?_
    rw [nI_pred]
    refine z_put CX dX6_undo_28 fg_X6_114 fp_X6_5 mo_0 (Nat.le_of_ble_eq_true rfl) rfl rfl ?_
    refine z_heap mo_f1 ?_
    refine z_iconst CX (v := 0) dX6_undo_31 (by decide) ?_
    refine z_istore_n CX 1 dX6_undo_32 rfl (by decide) ?_
    refine z_heap (congrArg (fun z => modH w hs k (upd (upd u 0 0) 1 (nI m9)) z) ((congrArg (upA A 0) (cpyF_0 (g := sl (A 3) m9))).trans upA_id).symm) ?_
    refine z_loc [(0, .ref (wB w + k)), (1, .int (nI 0))] ⟨rfl, rfl, trivial⟩ ?_
    exact LP 157 0 (by omega)
set_option maxHeartbeats 4000000 in
set_option maxRecDepth 100000 in
theorem m_save {l : Launch} {w : Wt} {hs : Hs} {n : Option Nat} {k : Nat} {u : Nat → Int32} {A : Nat → Nat → Int32} (a : Int32) : Cn l w mX6_save 0 0 [.ref (wB w + k), .int a] (modH w hs k u A) n (modH w hs k (rs_save u A a).2.2.1 (rs_save u A a).2.2.2) n (some (.int (rs_save u A a).2.1)) := by
  by_cases h0 : 0 ≤ a ∧ a ≤ 1
  · obtain ⟨s9, s0, s1, s2, s3⟩ := nI_le9 (a := 0) (b := 1) (by omega) (by omega) h0
    rw [show rs_save u A a = (0, A 0 148, upd u 0 0, upA (upA A 4 (wrB (A 4) s9 (A 0) 157)) 5 (upd (A 5) s9 1)) by unfold rs_save; rw [if_pos h0, s3]]
    subst s2
    refine Cn.of (d := mX6_save) (by decide +kernel) (Nat.le_of_ble_eq_true rfl) ?_
    intro p e R s m args below meth c CX
    replace CX : Ctx p s m args meth c R w RX6 "save" cX6_save 3 (some .int) 1 25 0 0 := CX
    show ZW p l e R s m args below meth c w 3 _ _ 0 0 (MQ below (Qn w _ _ _) args s 0 0 (wA w)) 0 [(0, .ref (wB w + k)), (1, .int _)] []
    have LP : ∀ (j i : Nat), i + j = 157 → ZW p l e R s m args below meth c w 3 (modH w hs k (upd u 0 0) (upA A 4 (wrB (A 4) s9 (A 0) i))) n 0 0 (MQ below (Qn w (modH w hs k (upd u 0 0) (upA (upA A 4 (wrB (A 4) s9 (A 0) 157)) 5 (upd (A 5) s9 1))) n (some (.int (A 0 148)))) args s 0 0 (wA w)) 26 [(0, .ref (wB w + k)), (1, .int (nI s9)), (2, .int (nI i))] [] := by
      intro j
      induction j with
      | zero =>
        intro i hi
        have hi9 : i = 157 := by omega
        subst hi9
        refine z_iload_n CX 2 dX6_save_26 rfl rfl ?_
        refine z_sipush CX (v := 157) dX6_save_27 (by decide) ?_
        refine z_icmp_ge CX 57 dX6_save_30 (by decide) (fun _ => ?_) (fun q9 => absurd (by decide) q9)
        refine z_aload_n CX 0 dX6_save_57 rfl rfl ?_
        refine z_get CX dX6_save_58 fg_X6_25 mo_0 rfl ?_
        refine z_iload_n CX 1 dX6_save_61 rfl rfl ?_
        refine z_iconst CX (v := 1) dX6_save_62 (by decide) ?_
        refine z_zast CX dX6_save_63 mo_6 (vp_in_nI (by omega) (by omega)) rfl ?_
        refine z_heap mo_a5 ?_
        refine z_aload_n CX 0 dX6_save_64 rfl rfl ?_
        refine z_get CX dX6_save_65 fg_X6_7 mo_0 rfl ?_
        refine z_sipush CX (v := 148) dX6_save_68 (by decide) ?_
        refine z_ia CX (j := 148) dX6_save_71 mo_1 rfl (by omega) (by decide) ?_
        exact z_iret CX dX6_save_72 rfl rfl (by rw [nI_clamp (by omega)]; rfl) (Or.inl rfl)
      | succ j ih =>
        intro i hi
        refine z_iload_n CX 2 dX6_save_26 rfl rfl ?_
        refine z_sipush CX (v := 157) dX6_save_27 (by decide) ?_
        refine z_icmp_ge CX 57 dX6_save_30 (by decide) (fun q9 => absurd q9 (nI_ge (b := 157) (by omega) (by omega))) (fun _ => ?_)
        refine z_aload_n CX 0 dX6_save_33 rfl rfl ?_
        refine z_get CX dX6_save_34 fg_X6_22 mo_0 rfl ?_
        refine z_sipush CX (v := 157) dX6_save_37 (by decide) ?_
        refine z_iload_n CX 1 dX6_save_40 rfl rfl ?_
        refine z_imul CX dX6_save_41 ?_
        refine z_iload_n CX 2 dX6_save_42 rfl rfl ?_
        refine z_iadd CX dX6_save_43 ?_
        refine z_aload_n CX 0 dX6_save_44 rfl rfl ?_
        refine z_get CX dX6_save_45 fg_X6_7 mo_0 rfl ?_
        refine z_iload_n CX 2 dX6_save_48 rfl rfl ?_
        refine z_ia CX (j := i) dX6_save_49 mo_1 rfl (by omega) (by decide) ?_
        refine z_is CX (j := ((157 * s9) + i)) dX6_save_50 mo_5 (ix_add (ix_mul rfl rfl) rfl) (by omega) (by decide) ?_
        refine z_heap mo_a4 ?_
        refine z_iinc CX (v := nI (i + 1)) dX6_save_51 rfl (nI_1 i) (by decide) ?_
        refine z_goto CX 26 dX6_save_54 (by decide) ?_
        refine z_heap (congrArg (fun z => modH w hs k _ z) (upA_up.trans (congrArg (upA A 4) wrB_s))) ?_
        refine z_loc [(0, .ref (wB w + k)), (1, .int (nI s9)), (2, .int (nI (i + 1)))] ⟨rfl, rfl, rfl, trivial⟩ ?_
        exact ih (i + 1) (by omega)
    refine z_aload_n CX 0 dX6_save_0 rfl rfl ?_
    refine z_iload_n CX 1 dX6_save_1 rfl rfl ?_
    refine z_i2l CX dX6_save_2 rfl ?_
    refine z_lconst CX (v := 0) dX6_save_3 (by decide) ?_
    refine z_lconst CX (v := 1) dX6_save_4 (by decide) ?_
    refine z_callS1 CX dX6_save_5 cs_X6_42 (c_inI (0) (1) _ _ _ (by decide) (by decide)) rfl rfl (Nat.le_of_ble_eq_true rfl) ⟨Nat.le_of_ble_eq_true rfl, Nat.le_of_ble_eq_true rfl⟩ ⟨Nat.le_refl _, Nat.le_refl _⟩ ?_
    refine z_if_eq CX 15 dX6_save_8 (by decide) (fun q9 => absurd q9 (by rw [bI_1 h0]; decide)) (fun _ => ?_)
    refine z_iconst CX (v := 0) dX6_save_11 (by decide) ?_
    refine z_goto CX 16 dX6_save_12 (by decide) ?_
    refine z_callV1 CX dX6_save_16 cv_X6_122 (c_ref _) mo_0 rfl rfl (Nat.le_of_ble_eq_true rfl) ⟨Nat.le_of_ble_eq_true rfl, Nat.le_of_ble_eq_true rfl⟩ ⟨Nat.le_refl _, Nat.le_refl _⟩ ?_
    refine z_if_eq CX 24 dX6_save_19 (by decide) (fun _ => ?_) (fun q9 => absurd (by decide) q9)
    refine z_iconst CX (v := 0) dX6_save_24 (by decide) ?_
    refine z_istore_n CX 2 dX6_save_25 rfl (by decide) ?_
    refine z_heap (congrArg (fun z => modH w hs k (upd u 0 0) z) ((congrArg (upA A 4) (wrB_0 (m := s9) (g := A 0))).trans upA_id).symm) ?_
    refine z_loc [(0, .ref (wB w + k)), (1, .int (nI s9)), (2, .int (nI 0))] ⟨rfl, rfl, rfl, trivial⟩ ?_
    exact LP 157 0 (by omega)
  · rw [show rs_save u A a = bad 1 u A from if_neg h0]
    refine Cn.of (d := mX6_save) (by decide +kernel) (Nat.le_of_ble_eq_true rfl) ?_
    intro p e R s m args below meth c CX
    replace CX : Ctx p s m args meth c R w RX6 "save" cX6_save 3 (some .int) 1 25 0 0 := CX
    show ZW p l e R s m args below meth c w 3 _ _ 0 0 (MQ below (Qn w _ _ _) args s 0 0 (wA w)) 0 [(0, .ref (wB w + k)), (1, .int _)] []
    refine z_aload_n CX 0 dX6_save_0 rfl rfl ?_
    refine z_iload_n CX 1 dX6_save_1 rfl rfl ?_
    refine z_i2l CX dX6_save_2 rfl ?_
    refine z_lconst CX (v := 0) dX6_save_3 (by decide) ?_
    refine z_lconst CX (v := 1) dX6_save_4 (by decide) ?_
    refine z_callS1 CX dX6_save_5 cs_X6_42 (c_inI (0) (1) _ _ _ (by decide) (by decide)) rfl rfl (Nat.le_of_ble_eq_true rfl) ⟨Nat.le_of_ble_eq_true rfl, Nat.le_of_ble_eq_true rfl⟩ ⟨Nat.le_refl _, Nat.le_refl _⟩ ?_
    refine z_if_eq CX 15 dX6_save_8 (by decide) (fun _ => ?_) (fun q9 => absurd (bI_0 h0) q9)
    refine z_iconst CX (v := 1) dX6_save_15 (by decide) ?_
    refine z_callV1 CX dX6_save_16 cv_X6_122 (c_ref _) mo_0 rfl rfl (Nat.le_of_ble_eq_true rfl) ⟨Nat.le_of_ble_eq_true rfl, Nat.le_of_ble_eq_true rfl⟩ ⟨Nat.le_refl _, Nat.le_refl _⟩ ?_
    refine z_if_eq CX 24 dX6_save_19 (by decide) (fun q9 => absurd q9 (by decide)) (fun _ => ?_)
    refine z_iconst CX (v := 0) dX6_save_22 (by decide) ?_
    exact z_iret CX dX6_save_23 rfl rfl rfl (Or.inl rfl)
set_option maxHeartbeats 4000000 in
set_option maxRecDepth 100000 in
theorem m_restore {l : Launch} {w : Wt} {hs : Hs} {n : Option Nat} {k : Nat} {u : Nat → Int32} {A : Nat → Nat → Int32} (a : Int32) : Cn l w mX6_restore 0 0 [.ref (wB w + k), .int a] (modH w hs k u A) n (modH w hs k (rs_restore u A a).2.2.1 (rs_restore u A a).2.2.2) n (some (.int (rs_restore u A a).2.1)) := by
  by_cases h0 : 0 ≤ a ∧ a ≤ 1
  · obtain ⟨s9, s0, s1, s2, s3⟩ := nI_le9 (a := 0) (b := 1) (by omega) (by omega) h0
    by_cases h1 : A 5 s9 = 0
    · rw [show rs_restore u A a = bad 2 u A by unfold rs_restore; rw [if_pos h0, s3, if_pos h1]]
      subst s2
      refine Cn.of (d := mX6_restore) (by decide +kernel) (Nat.le_of_ble_eq_true rfl) ?_
      intro p e R s m args below meth c CX
      replace CX : Ctx p s m args meth c R w RX6 "restore" cX6_restore 3 (some .int) 1 25 0 0 := CX
      show ZW p l e R s m args below meth c w 3 _ _ 0 0 (MQ below (Qn w _ _ _) args s 0 0 (wA w)) 0 [(0, .ref (wB w + k)), (1, .int _)] []
      refine z_aload_n CX 0 dX6_restore_0 rfl rfl ?_
      refine z_iload_n CX 1 dX6_restore_1 rfl rfl ?_
      refine z_i2l CX dX6_restore_2 rfl ?_
      refine z_lconst CX (v := 0) dX6_restore_3 (by decide) ?_
      refine z_lconst CX (v := 1) dX6_restore_4 (by decide) ?_
      refine z_callS1 CX dX6_restore_5 cs_X6_42 (c_inI (0) (1) _ _ _ (by decide) (by decide)) rfl rfl (Nat.le_of_ble_eq_true rfl) ⟨Nat.le_of_ble_eq_true rfl, Nat.le_of_ble_eq_true rfl⟩ ⟨Nat.le_refl _, Nat.le_refl _⟩ ?_
      refine z_if_ne CX 15 dX6_restore_8 (by decide) (fun _ => ?_) (fun q9 => absurd q9 (by rw [bI_1 h0]; decide))
      refine z_aload_n CX 0 dX6_restore_15 rfl rfl ?_
      refine z_get CX dX6_restore_16 fg_X6_25 mo_0 rfl ?_
      refine z_iload_n CX 1 dX6_restore_19 rfl rfl ?_
      refine z_zald CX dX6_restore_20 mo_6 (vp_in_nI (by omega) (by omega)) rfl ?_
      refine z_if_ne CX 28 dX6_restore_21 (by decide) (fun q9 => absurd q9 (fun z => z (by rw [nI_clamp (by omega)]; exact h1))) (fun _ => ?_)
      refine z_iconst CX (v := 2) dX6_restore_24 (by decide) ?_
      refine z_goto CX 29 dX6_restore_25 (by decide) ?_
      refine z_callV1 CX dX6_restore_29 cv_X6_122 (c_ref _) mo_0 rfl rfl (Nat.le_of_ble_eq_true rfl) ⟨Nat.le_of_ble_eq_true rfl, Nat.le_of_ble_eq_true rfl⟩ ⟨Nat.le_refl _, Nat.le_refl _⟩ ?_
      refine z_if_eq CX 37 dX6_restore_32 (by decide) (fun q9 => absurd q9 (by decide)) (fun _ => ?_)
      refine z_iconst CX (v := 0) dX6_restore_35 (by decide) ?_
      exact z_iret CX dX6_restore_36 rfl rfl rfl (Or.inl rfl)
    · rw [show rs_restore u A a = (0, sl (A 4) s9 148, upd (upd u 0 0) 1 0, upA A 0 (cpyF 157 (sl (A 4) s9) (A 0))) by unfold rs_restore; rw [if_pos h0, s3, if_neg h1]]
      subst s2
      refine Cn.of (d := mX6_restore) (by decide +kernel) (Nat.le_of_ble_eq_true rfl) ?_
      intro p e R s m args below meth c CX
      replace CX : Ctx p s m args meth c R w RX6 "restore" cX6_restore 3 (some .int) 1 25 0 0 := CX
      show ZW p l e R s m args below meth c w 3 _ _ 0 0 (MQ below (Qn w _ _ _) args s 0 0 (wA w)) 0 [(0, .ref (wB w + k)), (1, .int _)] []
      have LP : ∀ (j i : Nat), i + j = 157 → ZW p l e R s m args below meth c w 3 (modH w hs k (upd u 0 0) (upA A 0 (cpyF i (sl (A 4) s9) (A 0)))) n 0 0 (MQ below (Qn w (modH w hs k (upd (upd u 0 0) 1 0) (upA A 0 (cpyF 157 (sl (A 4) s9) (A 0)))) n (some (.int (sl (A 4) s9 148)))) args s 0 0 (wA w)) 39 [(0, .ref (wB w + k)), (1, .int (nI s9)), (2, .int (nI i))] [] := by
        intro j
        induction j with
        | zero =>
          intro i hi
          have hi9 : i = 157 := by omega
          subst hi9
          refine z_iload_n CX 2 dX6_restore_39 rfl rfl ?_
          refine z_sipush CX (v := 157) dX6_restore_40 (by decide) ?_
          refine z_icmp_ge CX 70 dX6_restore_43 (by decide) (fun _ => ?_) (fun q9 => absurd (by decide) q9)
          refine z_aload_n CX 0 dX6_restore_70 rfl rfl ?_
          refine z_iconst CX (v := 0) dX6_restore_71 (by decide) ?_
          refine z_put CX dX6_restore_72 fg_X6_114 fp_X6_5 mo_0 (Nat.le_of_ble_eq_true rfl) rfl rfl ?_
          refine z_heap mo_f1 ?_
          refine z_aload_n CX 0 dX6_restore_75 rfl rfl ?_
          refine z_get CX dX6_restore_76 fg_X6_7 mo_0 rfl ?_
          refine z_sipush CX (v := 148) dX6_restore_79 (by decide) ?_
          refine z_ia CX (j := 148) dX6_restore_82 mo_1 rfl (by omega) (by decide) ?_
          exact z_iret CX dX6_restore_83 rfl (congrArg Value.int (show cpyF 157 (sl (A 4) s9) (A 0) 148 = sl (A 4) s9 148 from if_pos (by omega)).symm) rfl (Or.inl rfl)
        | succ j ih =>
          intro i hi
          refine z_iload_n CX 2 dX6_restore_39 rfl rfl ?_
          refine z_sipush CX (v := 157) dX6_restore_40 (by decide) ?_
          refine z_icmp_ge CX 70 dX6_restore_43 (by decide) (fun q9 => absurd q9 (nI_ge (b := 157) (by omega) (by omega))) (fun _ => ?_)
          refine z_aload_n CX 0 dX6_restore_46 rfl rfl ?_
          refine z_get CX dX6_restore_47 fg_X6_7 mo_0 rfl ?_
          refine z_iload_n CX 2 dX6_restore_50 rfl rfl ?_
          refine z_aload_n CX 0 dX6_restore_51 rfl rfl ?_
          refine z_get CX dX6_restore_52 fg_X6_22 mo_0 rfl ?_
          refine z_sipush CX (v := 157) dX6_restore_55 (by decide) ?_
          refine z_iload_n CX 1 dX6_restore_58 rfl rfl ?_
          refine z_imul CX dX6_restore_59 ?_
          refine z_iload_n CX 2 dX6_restore_60 rfl rfl ?_
          refine z_iadd CX dX6_restore_61 ?_
          refine z_ia CX (j := ((157 * s9) + i)) dX6_restore_62 mo_5 (ix_add (ix_mul rfl rfl) rfl) (by omega) (by decide) ?_
          refine z_is CX (j := i) dX6_restore_63 mo_1 rfl (by omega) (by decide) ?_
          refine z_heap mo_a0 ?_
          refine z_iinc CX (v := nI (i + 1)) dX6_restore_64 rfl (nI_1 i) (by decide) ?_
          refine z_goto CX 39 dX6_restore_67 (by decide) ?_
          refine z_heap (congrArg (fun z => modH w hs k _ z) (upA_up.trans (congrArg (upA A 0) (cpyF_s (g := sl (A 4) s9))))) ?_
          refine z_loc [(0, .ref (wB w + k)), (1, .int (nI s9)), (2, .int (nI (i + 1)))] ⟨rfl, rfl, rfl, trivial⟩ ?_
          exact ih (i + 1) (by omega)
      refine z_aload_n CX 0 dX6_restore_0 rfl rfl ?_
      refine z_iload_n CX 1 dX6_restore_1 rfl rfl ?_
      refine z_i2l CX dX6_restore_2 rfl ?_
      refine z_lconst CX (v := 0) dX6_restore_3 (by decide) ?_
      refine z_lconst CX (v := 1) dX6_restore_4 (by decide) ?_
      refine z_callS1 CX dX6_restore_5 cs_X6_42 (c_inI (0) (1) _ _ _ (by decide) (by decide)) rfl rfl (Nat.le_of_ble_eq_true rfl) ⟨Nat.le_of_ble_eq_true rfl, Nat.le_of_ble_eq_true rfl⟩ ⟨Nat.le_refl _, Nat.le_refl _⟩ ?_
      refine z_if_ne CX 15 dX6_restore_8 (by decide) (fun _ => ?_) (fun q9 => absurd q9 (by rw [bI_1 h0]; decide))
      refine z_aload_n CX 0 dX6_restore_15 rfl rfl ?_
      refine z_get CX dX6_restore_16 fg_X6_25 mo_0 rfl ?_
      refine z_iload_n CX 1 dX6_restore_19 rfl rfl ?_
      refine z_zald CX dX6_restore_20 mo_6 (vp_in_nI (by omega) (by omega)) rfl ?_
      refine z_if_ne CX 28 dX6_restore_21 (by decide) (fun _ => ?_) (fun q9 => absurd q9 (by rw [nI_clamp (by omega)]; exact h1))
      refine z_iconst CX (v := 0) dX6_restore_28 (by decide) ?_
      refine z_callV1 CX dX6_restore_29 cv_X6_122 (c_ref _) mo_0 rfl rfl (Nat.le_of_ble_eq_true rfl) ⟨Nat.le_of_ble_eq_true rfl, Nat.le_of_ble_eq_true rfl⟩ ⟨Nat.le_refl _, Nat.le_refl _⟩ ?_
      refine z_if_eq CX 37 dX6_restore_32 (by decide) (fun _ => ?_) (fun q9 => absurd (by decide) q9)
      refine z_iconst CX (v := 0) dX6_restore_37 (by decide) ?_
      refine z_istore_n CX 2 dX6_restore_38 rfl (by decide) ?_
      refine z_heap (congrArg (fun z => modH w hs k (upd u 0 0) z) ((congrArg (upA A 0) (cpyF_0 (g := sl (A 4) s9))).trans upA_id).symm) ?_
      refine z_loc [(0, .ref (wB w + k)), (1, .int (nI s9)), (2, .int (nI 0))] ⟨rfl, rfl, rfl, trivial⟩ ?_
      exact LP 157 0 (by omega)
  · rw [show rs_restore u A a = bad 1 u A from if_neg h0]
    refine Cn.of (d := mX6_restore) (by decide +kernel) (Nat.le_of_ble_eq_true rfl) ?_
    intro p e R s m args below meth c CX
    replace CX : Ctx p s m args meth c R w RX6 "restore" cX6_restore 3 (some .int) 1 25 0 0 := CX
    show ZW p l e R s m args below meth c w 3 _ _ 0 0 (MQ below (Qn w _ _ _) args s 0 0 (wA w)) 0 [(0, .ref (wB w + k)), (1, .int _)] []
    refine z_aload_n CX 0 dX6_restore_0 rfl rfl ?_
    refine z_iload_n CX 1 dX6_restore_1 rfl rfl ?_
    refine z_i2l CX dX6_restore_2 rfl ?_
    refine z_lconst CX (v := 0) dX6_restore_3 (by decide) ?_
    refine z_lconst CX (v := 1) dX6_restore_4 (by decide) ?_
    refine z_callS1 CX dX6_restore_5 cs_X6_42 (c_inI (0) (1) _ _ _ (by decide) (by decide)) rfl rfl (Nat.le_of_ble_eq_true rfl) ⟨Nat.le_of_ble_eq_true rfl, Nat.le_of_ble_eq_true rfl⟩ ⟨Nat.le_refl _, Nat.le_refl _⟩ ?_
    refine z_if_ne CX 15 dX6_restore_8 (by decide) (fun q9 => absurd q9 (fun q => q (bI_0 h0))) (fun _ => ?_)
    refine z_iconst CX (v := 1) dX6_restore_11 (by decide) ?_
    refine z_goto CX 29 dX6_restore_12 (by decide) ?_
    refine z_callV1 CX dX6_restore_29 cv_X6_122 (c_ref _) mo_0 rfl rfl (Nat.le_of_ble_eq_true rfl) ⟨Nat.le_of_ble_eq_true rfl, Nat.le_of_ble_eq_true rfl⟩ ⟨Nat.le_refl _, Nat.le_refl _⟩ ?_
    refine z_if_eq CX 37 dX6_restore_32 (by decide) (fun q9 => absurd q9 (by decide)) (fun _ => ?_)
    refine z_iconst CX (v := 0) dX6_restore_35 (by decide) ?_
    exact z_iret CX dX6_restore_36 rfl rfl rfl (Or.inl rfl)
def rs_append (u : Nat → Int32) (A : Nat → Nat → Int32) (len : Nat) (a : Int32) : RSt := if 0 ≤ a ∧ a ≤ 255 then (if len = 120 then bad 2 u A else (0, nI (len + 1), upd (upd u 0 0) 2 (nI (len + 1)), upA A 6 (upd (A 6) len a))) else bad 1 u A
def rs_clearText (u : Nat → Int32) (A : Nat → Nat → Int32) (len : Nat) : RSt := (0, nI len, upd (upd u 0 0) 2 0, A)
def rs_errorPosition (u : Nat → Int32) (A : Nat → Nat → Int32) (len : Nat) : RSt := (0, if (tsF (A 6) len (A 2)).1.2 = true then -1 else nI (tsF (A 6) len (A 2)).1.1, sT5 (upd u 0 0) (tsF (A 6) len (A 2)).1.1 (tsF (A 6) len (A 2)).1.2 (tsF (A 6) len (A 2)).2.2, upA A 2 (tsF (A 6) len (A 2)).2.1)
def rs_load (u : Nat → Int32) (A : Nat → Nat → Int32) (len : Nat) : RSt := if (tsF (A 6) len (A 2)).1.2 = true then (0, (tsF (A 6) len (A 2)).2.2, upd (upd (sT5 u (tsF (A 6) len (A 2)).1.1 (tsF (A 6) len (A 2)).1.2 (tsF (A 6) len (A 2)).2.2) 0 0) 1 0, upA (upA (upA A 2 (tsF (A 6) len (A 2)).2.1) 0 (cpyF 157 (tsF (A 6) len (A 2)).2.1 (A 0))) 5 (upd (upd (A 5) 0 0) 1 0)) else (1, 0, upd (sT5 u (tsF (A 6) len (A 2)).1.1 (tsF (A 6) len (A 2)).1.2 (tsF (A 6) len (A 2)).2.2) 0 1, upA A 2 (tsF (A 6) len (A 2)).2.1)
set_option maxHeartbeats 4000000 in
set_option maxRecDepth 100000 in
theorem m_append {l : Launch} {w : Wt} {hs : Hs} {n : Option Nat} {k : Nat} {u : Nat → Int32} {A : Nat → Nat → Int32} {len : Nat} (hu : u 2 = nI len) (hl : len ≤ 120) (a : Int32) : Cn l w mX6_append 0 0 [.ref (wB w + k), .int a] (modH w hs k u A) n (modH w hs k (rs_append u A len a).2.2.1 (rs_append u A len a).2.2.2) n (some (.int (rs_append u A len a).2.1)) := by
  by_cases h0 : 0 ≤ a ∧ a ≤ 255
  · by_cases h1 : len = 120
    · rw [show rs_append u A len a = bad 2 u A by unfold rs_append; rw [if_pos h0, if_pos h1]]
      refine Cn.of (d := mX6_append) (by decide +kernel) (Nat.le_of_ble_eq_true rfl) ?_
      intro p e R s m args below meth c CX
      replace CX : Ctx p s m args meth c R w RX6 "append" cX6_append 2 (some .int) 1 25 0 0 := CX
      show ZW p l e R s m args below meth c w 2 _ _ 0 0 (MQ below (Qn w _ _ _) args s 0 0 (wA w)) 0 [(0, .ref (wB w + k)), (1, .int _)] []
      refine z_aload_n CX 0 dX6_append_0 rfl rfl ?_
      refine z_iload_n CX 1 dX6_append_1 rfl rfl ?_
      refine z_i2l CX dX6_append_2 rfl ?_
      refine z_lconst CX (v := 0) dX6_append_3 (by decide) ?_
      refine z_ldc2 CX (v := 255) dX6_append_4 (wa_mem 843 (by decide +kernel) rfl) ?_
      refine z_callS1 CX dX6_append_7 cs_X6_42 (c_inI (0) (255) _ _ _ (by decide) (by decide)) rfl rfl (Nat.le_of_ble_eq_true rfl) ⟨Nat.le_of_ble_eq_true rfl, Nat.le_of_ble_eq_true rfl⟩ ⟨Nat.le_refl _, Nat.le_refl _⟩ ?_
      refine z_if_ne CX 17 dX6_append_10 (by decide) (fun _ => ?_) (fun q9 => absurd q9 (by rw [bI_1 h0]; decide))
      refine z_aload_n CX 0 dX6_append_17 rfl rfl ?_
      refine z_get CX dX6_append_18 fg_X6_119 mo_0 rfl ?_
      refine z_bipush CX (v := 120) dX6_append_21 (by decide) ?_
      refine z_icmp_ne CX 30 dX6_append_23 (by decide) (fun q9 => absurd q9 (fun z => z (by rw [hu, h1]; rfl))) (fun _ => ?_)
      refine z_iconst CX (v := 2) dX6_append_26 (by decide) ?_
      refine z_goto CX 31 dX6_append_27 (by decide) ?_
      refine z_callV1 CX dX6_append_31 cv_X6_122 (c_ref _) mo_0 rfl rfl (Nat.le_of_ble_eq_true rfl) ⟨Nat.le_of_ble_eq_true rfl, Nat.le_of_ble_eq_true rfl⟩ ⟨Nat.le_refl _, Nat.le_refl _⟩ ?_
      refine z_if_eq CX 39 dX6_append_34 (by decide) (fun q9 => absurd q9 (by decide)) (fun _ => ?_)
      refine z_iconst CX (v := 0) dX6_append_37 (by decide) ?_
      exact z_iret CX dX6_append_38 rfl rfl rfl (Or.inl rfl)
    · rw [show rs_append u A len a = (0, nI (len + 1), upd (upd u 0 0) 2 (nI (len + 1)), upA A 6 (upd (A 6) len a)) by unfold rs_append; rw [if_pos h0, if_neg h1]]
      refine Cn.of (d := mX6_append) (by decide +kernel) (Nat.le_of_ble_eq_true rfl) ?_
      intro p e R s m args below meth c CX
      replace CX : Ctx p s m args meth c R w RX6 "append" cX6_append 2 (some .int) 1 25 0 0 := CX
      show ZW p l e R s m args below meth c w 2 _ _ 0 0 (MQ below (Qn w _ _ _) args s 0 0 (wA w)) 0 [(0, .ref (wB w + k)), (1, .int _)] []
      refine z_aload_n CX 0 dX6_append_0 rfl rfl ?_
      refine z_iload_n CX 1 dX6_append_1 rfl rfl ?_
      refine z_i2l CX dX6_append_2 rfl ?_
      refine z_lconst CX (v := 0) dX6_append_3 (by decide) ?_
      refine z_ldc2 CX (v := 255) dX6_append_4 (wa_mem 843 (by decide +kernel) rfl) ?_
      refine z_callS1 CX dX6_append_7 cs_X6_42 (c_inI (0) (255) _ _ _ (by decide) (by decide)) rfl rfl (Nat.le_of_ble_eq_true rfl) ⟨Nat.le_of_ble_eq_true rfl, Nat.le_of_ble_eq_true rfl⟩ ⟨Nat.le_refl _, Nat.le_refl _⟩ ?_
      refine z_if_ne CX 17 dX6_append_10 (by decide) (fun _ => ?_) (fun q9 => absurd q9 (by rw [bI_1 h0]; decide))
      refine z_aload_n CX 0 dX6_append_17 rfl rfl ?_
      refine z_get CX dX6_append_18 fg_X6_119 mo_0 rfl ?_
      refine z_bipush CX (v := 120) dX6_append_21 (by decide) ?_
      refine z_icmp_ne CX 30 dX6_append_23 (by decide) (fun _ => ?_) (fun q9 => absurd q9 (by rw [hu]; exact fun z => h1 ((nI_eq (b := 120) (by omega) (by omega)).mp z)))
      refine z_iconst CX (v := 0) dX6_append_30 (by decide) ?_
      refine z_callV1 CX dX6_append_31 cv_X6_122 (c_ref _) mo_0 rfl rfl (Nat.le_of_ble_eq_true rfl) ⟨Nat.le_of_ble_eq_true rfl, Nat.le_of_ble_eq_true rfl⟩ ⟨Nat.le_refl _, Nat.le_refl _⟩ ?_
      refine z_if_eq CX 39 dX6_append_34 (by decide) (fun _ => ?_) (fun q9 => absurd (by decide) q9)
      refine z_aload_n CX 0 dX6_append_39 rfl rfl ?_
      refine z_get CX dX6_append_40 fg_X6_29 mo_0 rfl ?_
      refine z_aload_n CX 0 dX6_append_43 rfl rfl ?_
      refine z_get CX dX6_append_44 fg_X6_119 mo_0 rfl ?_
      refine z_iload_n CX 1 dX6_append_47 rfl rfl ?_
      refine z_is CX (j := len) dX6_append_48 mo_7 hu (by omega) (by decide) ?_
      refine z_heap mo_a6 ?_
      refine z_aload_n CX 0 dX6_append_49 rfl rfl ?_
      refine z_dup CX dX6_append_50 rfl ?_
      refine z_get CX dX6_append_51 fg_X6_119 mo_0 rfl ?_
      rw [show upd u 0 0 2 = nI len from hu]
      refine z_iconst CX (v := 1) dX6_append_54 (by decide) ?_
      refine z_iadd CX dX6_append_55 ?_
      rw [nI_1]
      refine z_put CX dX6_append_56 fg_X6_119 fp_X6_9 mo_0 (Nat.le_of_ble_eq_true rfl) rfl rfl ?_
      refine z_heap mo_f2 ?_
      refine z_aload_n CX 0 dX6_append_59 rfl rfl ?_
      refine z_get CX dX6_append_60 fg_X6_119 mo_0 rfl ?_
      exact z_iret CX dX6_append_63 rfl rfl rfl (Or.inl rfl)
  · rw [show rs_append u A len a = bad 1 u A from if_neg h0]
    refine Cn.of (d := mX6_append) (by decide +kernel) (Nat.le_of_ble_eq_true rfl) ?_
    intro p e R s m args below meth c CX
    replace CX : Ctx p s m args meth c R w RX6 "append" cX6_append 2 (some .int) 1 25 0 0 := CX
    show ZW p l e R s m args below meth c w 2 _ _ 0 0 (MQ below (Qn w _ _ _) args s 0 0 (wA w)) 0 [(0, .ref (wB w + k)), (1, .int _)] []
    refine z_aload_n CX 0 dX6_append_0 rfl rfl ?_
    refine z_iload_n CX 1 dX6_append_1 rfl rfl ?_
    refine z_i2l CX dX6_append_2 rfl ?_
    refine z_lconst CX (v := 0) dX6_append_3 (by decide) ?_
    refine z_ldc2 CX (v := 255) dX6_append_4 (wa_mem 843 (by decide +kernel) rfl) ?_
    refine z_callS1 CX dX6_append_7 cs_X6_42 (c_inI (0) (255) _ _ _ (by decide) (by decide)) rfl rfl (Nat.le_of_ble_eq_true rfl) ⟨Nat.le_of_ble_eq_true rfl, Nat.le_of_ble_eq_true rfl⟩ ⟨Nat.le_refl _, Nat.le_refl _⟩ ?_
    refine z_if_ne CX 17 dX6_append_10 (by decide) (fun q9 => absurd q9 (fun q => q (bI_0 h0))) (fun _ => ?_)
    refine z_iconst CX (v := 1) dX6_append_13 (by decide) ?_
    refine z_goto CX 31 dX6_append_14 (by decide) ?_
    refine z_callV1 CX dX6_append_31 cv_X6_122 (c_ref _) mo_0 rfl rfl (Nat.le_of_ble_eq_true rfl) ⟨Nat.le_of_ble_eq_true rfl, Nat.le_of_ble_eq_true rfl⟩ ⟨Nat.le_refl _, Nat.le_refl _⟩ ?_
    refine z_if_eq CX 39 dX6_append_34 (by decide) (fun q9 => absurd q9 (by decide)) (fun _ => ?_)
    refine z_iconst CX (v := 0) dX6_append_37 (by decide) ?_
    exact z_iret CX dX6_append_38 rfl rfl rfl (Or.inl rfl)
set_option maxHeartbeats 4000000 in
set_option maxRecDepth 100000 in
theorem m_clearText {l : Launch} {w : Wt} {hs : Hs} {n : Option Nat} {k : Nat} {u : Nat → Int32} {A : Nat → Nat → Int32} {len : Nat} (hu : u 2 = nI len) (hl : len ≤ 120) : Cn l w mX6_clearText 0 0 [.ref (wB w + k)] (modH w hs k u A) n (modH w hs k (rs_clearText u A len).2.2.1 (rs_clearText u A len).2.2.2) n (some (.int (rs_clearText u A len).2.1)) := by
  rw [show rs_clearText u A len = (0, nI len, upd (upd u 0 0) 2 0, A) from rfl]
  refine Cn.of (d := mX6_clearText) (by decide +kernel) (Nat.le_of_ble_eq_true rfl) ?_
  intro p e R s m args below meth c CX
  replace CX : Ctx p s m args meth c R w RX6 "clearText" cX6_clearText 2 (some .int) 0 0 0 0 := CX
  show ZW p l e R s m args below meth c w 2 _ _ 0 0 (MQ below (Qn w _ _ _) args s 0 0 (wA w)) 0 [(0, .ref (wB w + k))] []
  refine z_aload_n CX 0 dX6_clearText_0 rfl rfl ?_
  refine z_iconst CX (v := 0) dX6_clearText_1 (by decide) ?_
  refine z_put CX dX6_clearText_2 fg_X6_36 fp_X6_0 mo_0 (Nat.le_of_ble_eq_true rfl) rfl rfl ?_
  refine z_heap mo_f0 ?_
  refine z_aload_n CX 0 dX6_clearText_5 rfl rfl ?_
  refine z_get CX dX6_clearText_6 fg_X6_119 mo_0 rfl ?_
  rw [show upd u 0 0 2 = nI len from hu]
  refine z_istore_n CX 1 dX6_clearText_9 rfl (by decide) ?_
  refine z_aload_n CX 0 dX6_clearText_10 rfl rfl ?_
  refine z_iconst CX (v := 0) dX6_clearText_11 (by decide) ?_
  refine z_put CX dX6_clearText_12 fg_X6_119 fp_X6_9 mo_0 (Nat.le_of_ble_eq_true rfl) rfl rfl ?_
  refine z_heap mo_f2 ?_
  refine z_iload_n CX 1 dX6_clearText_15 rfl rfl ?_
  exact z_iret CX dX6_clearText_16 rfl rfl rfl (Or.inl rfl)
set_option maxHeartbeats 4000000 in
set_option maxRecDepth 100000 in
theorem m_errorPosition {l : Launch} {w : Wt} {hs : Hs} {n : Option Nat} {k : Nat} {u : Nat → Int32} {A : Nat → Nat → Int32} {len : Nat} (hu : u 2 = nI len) (hl : len ≤ 120) : Cn l w mX6_errorPosition 0 0 [.ref (wB w + k)] (modH w hs k u A) n (modH w hs k (rs_errorPosition u A len).2.2.1 (rs_errorPosition u A len).2.2.2) n (some (.int (rs_errorPosition u A len).2.1)) := by
  refine Cn.of (d := mX6_errorPosition) (by decide +kernel) (Nat.le_of_ble_eq_true rfl) ?_
  intro p e R s m args below meth c CX
  replace CX : Ctx p s m args meth c R w RX6 "errorPosition" cX6_errorPosition 1 (some .int) 10 224 0 0 := CX
  show ZW p l e R s m args below meth c w 1 _ _ 0 0 (MQ below (Qn w _ _ _) args s 0 0 (wA w)) 0 [(0, .ref (wB w + k))] []
  refine z_aload_n CX 0 dX6_errorPosition_0 rfl rfl ?_
  refine z_iconst CX (v := 0) dX6_errorPosition_1 (by decide) ?_
  refine z_put CX dX6_errorPosition_2 fg_X6_36 fp_X6_0 mo_0 (Nat.le_of_ble_eq_true rfl) rfl rfl ?_
  refine z_heap mo_f0 ?_
  refine z_aload_n CX 0 dX6_errorPosition_5 rfl rfl ?_
  refine z_callV1 CX dX6_errorPosition_6 cv_X6_209 (c_rdAll (u := upd u 0 0) (A := A) hu hl rfl) mo_0 rfl rfl (Nat.le_of_ble_eq_true rfl) ⟨Nat.le_of_ble_eq_true rfl, Nat.le_of_ble_eq_true rfl⟩ ⟨Nat.le_refl _, Nat.le_refl _⟩ ?_
  exact z_iret CX dX6_errorPosition_9 rfl rfl rfl (Or.inl rfl)
theorem dgS_len {t : Nat → Int32} {len : Nat} {lo hi : Int32} {q : Nat × Bool} (h0 : 0 ≤ lo) (h : q.1 ≤ len) : (dgS t len lo hi q).1 ≤ len := by
  cases hb : (dgS t len lo hi q).2
  · unfold dgS at hb ⊢
    split
    · rename_i c; rw [if_pos c] at hb; cases hb
    · exact h
  · obtain ⟨-, a, b⟩ := dgS_t h0 hb
    omega
theorem twS_len {t : Nat → Int32} {len a : Nat} {hi : Int32} {q : Nat × Bool} (ha : a < 100) (h : q.1 ≤ len) : (twS t len (nI a) hi q).1 ≤ len := by
  unfold twS
  exact dgS_len (twL_0 ha rfl) (dgS_len (by rw [show nI a / 10 = nI (a / 10) from pk_div (d := 10) (by omega) (by omega) (by omega)]; exact nI_pos' (by omega)) h)
theorem pz_len {t : Nat → Int32} {len y : Nat} {z : Int32} (h : y ≤ len) : (pz t len z y).1.1 ≤ len := by
  unfold pz
  split
  · exact twS_len (a := 0) (by omega) (dgS_len (by decide) (dgS_len (by decide) (twS_len (a := 4) (by omega) h)))
  split
  · exact dgS_len (by decide) (dgS_len (by decide) (dgS_len (by decide) h))
  split
  · exact dgS_len (by decide) (dgS_len (by decide) h)
  split
  · exact twS_len (a := 1) (by omega) h
  split
  · exact twS_len (a := 0) (by omega) (dgS_len (by decide) (dgS_len (by decide) h))
  split
  · exact dgS_len (by decide) (dgS_len (by decide) h)
  split
  · exact dgS_len (by decide) (dgS_len (by decide) h)
  · exact h
theorem isLet_ne {z : Int32} (h : isLet z) : z ≠ -1 := by
  rcases h with q | q | q | q | q | q | q <;> (rw [q]; decide)
theorem cmS_len {t : Nat → Int32} {len y : Nat} {f : Nat → Int32} {x5 : Int32} (h : y ≤ len) : (cmS t len f y x5).1.1 ≤ len := by
  unfold cmS; split
  · rename_i c
    exact pz_len (hrF_le rfl (isLet_ne c))
  · exact h
theorem rdA_len {t : Nat → Int32} {len : Nat} : ∀ (j : Nat) (S : TS), S.1.1 ≤ len → (rdA t len j S).1.1 ≤ len
  | 0, _, h => h
  | j + 1, S, h => by
    rw [rdA]; split
    · exact rdA_len j _ (cmS_len h)
    · exact h
theorem tsF_len {t : Nat → Int32} {len : Nat} {f : Nat → Int32} : (tsF t len f).1.1 ≤ len := by
  unfold tsF
  refine rdA_len 121 _ ?_
  split
  · rename_i c; exact hrF_le c (by decide)
  · exact Nat.zero_le _
set_option maxHeartbeats 4000000 in
set_option maxRecDepth 100000 in
theorem m_load {l : Launch} {w : Wt} {hs : Hs} {n : Option Nat} {k : Nat} {u : Nat → Int32} {A : Nat → Nat → Int32} {len : Nat} (hu : u 2 = nI len) (hl : len ≤ 120) : Cn l w mX6_load 0 0 [.ref (wB w + k)] (modH w hs k u A) n (modH w hs k (rs_load u A len).2.2.1 (rs_load u A len).2.2.2) n (some (.int (rs_load u A len).2.1)) := by
  have hb : (tsF (A 6) len (A 2)).1.1 < 2 ^ 31 := Nat.lt_of_le_of_lt tsF_len (by omega)
  generalize hF : tsF (A 6) len (A 2) = F at hb
  unfold rs_load
  rw [hF]
  by_cases hg : F.1.2 = true
  · rw [if_pos hg]
    refine Cn.of (d := mX6_load) (by decide +kernel) (Nat.le_of_ble_eq_true rfl) ?_
    intro p e R s m args below meth c CX
    replace CX : Ctx p s m args meth c R w RX6 "load" cX6_load 1 (some .int) 10 224 0 0 := CX
    show ZW p l e R s m args below meth c w 1 _ _ 0 0 (MQ below (Qn w _ _ _) args s 0 0 (wA w)) 0 [(0, .ref (wB w + k))] []
    refine z_aload_n CX 0 dX6_load_0 rfl rfl ?_
    refine z_aload_n CX 0 dX6_load_1 rfl rfl ?_
    refine z_callV1 CX dX6_load_2 cv_X6_209 (c_rdAll hu hl hF) mo_0 rfl rfl (Nat.le_of_ble_eq_true rfl) ⟨Nat.le_of_ble_eq_true rfl, Nat.le_of_ble_eq_true rfl⟩ ⟨Nat.le_refl _, Nat.le_refl _⟩ ?_
    rw [if_pos hg]
    refine z_iconst CX (v := (-1 : Int32)) dX6_load_5 (by decide) ?_
    refine z_icmp_ne CX 13 dX6_load_6 (by decide) (fun q9 => absurd q9 (fun z => z rfl)) (fun _ => ?_)
    refine z_iconst CX (v := 0) dX6_load_9 (by decide) ?_
    refine z_goto CX 14 dX6_load_10 (by decide) ?_
    refine z_callV1 CX dX6_load_14 cv_X6_122 (c_ref _) mo_0 rfl rfl (Nat.le_of_ble_eq_true rfl) ⟨Nat.le_of_ble_eq_true rfl, Nat.le_of_ble_eq_true rfl⟩ ⟨Nat.le_refl _, Nat.le_refl _⟩ ?_
    refine z_if_eq CX 22 dX6_load_17 (by decide) (fun _ => ?_) (fun q9 => absurd (by decide) q9)
    refine z_aload_n CX 0 dX6_load_22 rfl rfl ?_
    refine z_get CX dX6_load_23 fg_X6_16 mo_0 rfl ?_
    refine z_aload_n CX 0 dX6_load_26 rfl rfl ?_
    refine z_get CX dX6_load_27 fg_X6_7 mo_0 rfl ?_
    refine z_callS0 CX dX6_load_30 cs_X6_212 (Cn.row (mq_0 (A := upA A 2 F.2.1)) (mr_0 (A := upA A 2 F.2.1)) (a := k + 1) (c_copyM (q := k + 3) (by omega) mo_3)) rfl rfl (Nat.le_of_ble_eq_true rfl) ⟨Nat.le_of_ble_eq_true rfl, Nat.le_of_ble_eq_true rfl⟩ ⟨Nat.le_refl _, Nat.le_refl _⟩ ?_
    refine z_aload_n CX 0 dX6_load_33 rfl rfl ?_
    refine z_iconst CX (v := 0) dX6_load_34 (by decide) ?_
    refine z_put CX dX6_load_35 fg_X6_114 fp_X6_5 mo_0 (Nat.le_of_ble_eq_true rfl) rfl rfl ?_
    refine z_heap mo_f1 ?_
    refine z_aload_n CX 0 dX6_load_38 rfl rfl ?_
    refine z_get CX dX6_load_39 fg_X6_25 mo_0 rfl ?_
    refine z_iconst CX (v := 0) dX6_load_42 (by decide) ?_
    refine z_iconst CX (v := 0) dX6_load_43 (by decide) ?_
    refine z_zast CX dX6_load_44 mo_6 (show vp_in 0 2 from vp_in_nI (n := 0) (by omega) (by omega)) rfl ?_
    refine z_heap mo_a5 ?_
    refine z_aload_n CX 0 dX6_load_45 rfl rfl ?_
    refine z_get CX dX6_load_46 fg_X6_25 mo_0 rfl ?_
    refine z_iconst CX (v := 1) dX6_load_49 (by decide) ?_
    refine z_iconst CX (v := 0) dX6_load_50 (by decide) ?_
    refine z_zast CX dX6_load_51 mo_6 (show vp_in 1 2 from vp_in_nI (n := 1) (by omega) (by omega)) rfl ?_
    refine z_heap mo_a5 ?_
    refine z_aload_n CX 0 dX6_load_52 rfl rfl ?_
    refine z_get CX dX6_load_53 fg_X6_145 mo_0 rfl ?_
    exact z_iret CX dX6_load_56 rfl rfl (by rw [upA_up, hg]; rfl) (Or.inl rfl)
  · rw [if_neg hg]
    refine Cn.of (d := mX6_load) (by decide +kernel) (Nat.le_of_ble_eq_true rfl) ?_
    intro p e R s m args below meth c CX
    replace CX : Ctx p s m args meth c R w RX6 "load" cX6_load 1 (some .int) 10 224 0 0 := CX
    show ZW p l e R s m args below meth c w 1 _ _ 0 0 (MQ below (Qn w _ _ _) args s 0 0 (wA w)) 0 [(0, .ref (wB w + k))] []
    refine z_aload_n CX 0 dX6_load_0 rfl rfl ?_
    refine z_aload_n CX 0 dX6_load_1 rfl rfl ?_
    refine z_callV1 CX dX6_load_2 cv_X6_209 (c_rdAll hu hl hF) mo_0 rfl rfl (Nat.le_of_ble_eq_true rfl) ⟨Nat.le_of_ble_eq_true rfl, Nat.le_of_ble_eq_true rfl⟩ ⟨Nat.le_refl _, Nat.le_refl _⟩ ?_
    rw [if_neg hg]
    refine z_iconst CX (v := (-1 : Int32)) dX6_load_5 (by decide) ?_
    refine z_icmp_ne CX 13 dX6_load_6 (by decide) (fun _ => ?_) (fun q9 => absurd q9 (nI_nm1 hb))
    refine z_iconst CX (v := 1) dX6_load_13 (by decide) ?_
    refine z_callV1 CX dX6_load_14 cv_X6_122 (c_ref _) mo_0 rfl rfl (Nat.le_of_ble_eq_true rfl) ⟨Nat.le_of_ble_eq_true rfl, Nat.le_of_ble_eq_true rfl⟩ ⟨Nat.le_refl _, Nat.le_refl _⟩ ?_
    refine z_if_eq CX 22 dX6_load_17 (by decide) (fun q9 => absurd q9 (by decide)) (fun _ => ?_)
    refine z_iconst CX (v := 0) dX6_load_20 (by decide) ?_
    exact z_iret CX dX6_load_21 rfl rfl rfl (Or.inl rfl)
