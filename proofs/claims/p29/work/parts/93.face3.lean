/-! the class's methods: what would be; scripts, simulations -/
theorem eiV_31 {s n : Int32} (h : s = 3) : eiV s 1 n = n := by subst h; rfl
theorem eiV_30 {s n : Int32} (h : s = 3) : eiV s 0 n = -1 := by subst h; rfl
theorem eiV_n1 {s n : Int32} (h : s ≠ 3) : eiV s 1 n = -1 := by unfold eiV; rw [decide_eq_false h]; rfl
theorem eiV_n0 {s n : Int32} (h : s ≠ 3) : eiV s 0 n = n := by unfold eiV; rw [decide_eq_false h]; rfl
set_option maxHeartbeats 4000000 in
set_option maxRecDepth 100000 in
theorem g_endsIn {l : Launch} {w : Wt} {hs : Hs} {n : Option Nat} {k : Nat} {T : TXs} {C : TTs} {Y : HIs} {S : SHs} {f : Nat → Int32} {x : Int32} {z : Nat → Nat → Int32} (hO : OKr f) {j i : Nat} (hj : j < bN f) (hi : i ≤ 1) (hs1 : f (24 + 10 * j + 3) = 1) : Cn l w mX5_endsIn 0 0 [.ref (wB w + k), .int (nI j), .int (nI i)] (GB w hs k T (nT f x z) C Y S) n (GB w hs k T (nT f x z) (nT (gtl (bN f) j 94 f).2 x z) Y S) n (some (.int (eiV ((gtl (bN f) j 94 f).2 (24 + 10 * j + 3)) (nI i) (nI (gtl (bN f) j 94 f).1)))) := by
  have h6 := hO.1.1.2.1
  have h9 := hO.2.2
  have hT := (gtl_94 hO.1 hj).2
  have hR2 : RIs (gtl (bN f) j 94 f).2 := RIs.of hT
  have hb2 : j < bN (gtl (bN f) j 94 f).2 := by rw [hT.bN]; exact hj
  rcases (show i = 0 ∨ i = 1 by omega) with i9 | i9
  · subst i9
    refine Cn.of (d := mX5_endsIn) (by decide +kernel) (Nat.le_of_ble_eq_true rfl) ?_
    intro p e R s m args below meth c CX
    replace CX : Ctx p s m args meth c R w RX5 "endsIn" cX5_endsIn 5 (some .int) 7 118 0 0 := CX
    show ZW p l e R s m args below meth c w 5 _ _ 0 0 (MQ below (Qn w _ _ _) args s 0 0 (wA w)) 0 [(0, .ref (wB w + k)), (1, .int _), (2, .int _)] []
    refine z_aload_n CX 0 dX5_endsIn_0 rfl rfl ?_
    refine z_get CX dX5_endsIn_1 fg_X5_19 gb_0 rfl ?_
    refine z_iload_n CX 1 dX5_endsIn_4 rfl rfl ?_
    refine z_callV1 CX dX5_endsIn_5 cv_X5_84 (Cn.gN (t_hasB (nI j))) gb_n0 rfl rfl (Nat.le_of_ble_eq_true rfl) ⟨Nat.le_of_ble_eq_true rfl, Nat.le_of_ble_eq_true rfl⟩ ⟨Nat.le_refl _, Nat.le_refl _⟩ ?_
    refine z_if_eq CX 15 dX5_endsIn_8 (by decide) (fun q9 => absurd q9 (by rw [bI_1 (show 0 ≤ nI j ∧ nI j < nI (bN f) from ⟨nI_pos' (by omega), nI_lt hj (by omega)⟩)]; decide)) (fun _ => ?_)
    refine z_iconst CX (v := 0) dX5_endsIn_11 (by decide) ?_
    refine z_goto CX 16 dX5_endsIn_12 (by decide) ?_
    refine z_callS0 CX dX5_endsIn_16 cs_X5_42 g_thr0 rfl rfl (Nat.le_of_ble_eq_true rfl) ⟨Nat.le_of_ble_eq_true rfl, Nat.le_of_ble_eq_true rfl⟩ ⟨Nat.le_refl _, Nat.le_refl _⟩ ?_
    refine z_iload_n CX 2 dX5_endsIn_19 rfl rfl ?_
    refine z_if_eq CX 32 dX5_endsIn_20 (by decide) (fun _ => ?_) (fun q9 => absurd rfl q9)
    refine z_iconst CX (v := 0) dX5_endsIn_32 (by decide) ?_
    refine z_callS0 CX dX5_endsIn_33 cs_X5_42 g_thr0 rfl rfl (Nat.le_of_ble_eq_true rfl) ⟨Nat.le_of_ble_eq_true rfl, Nat.le_of_ble_eq_true rfl⟩ ⟨Nat.le_refl _, Nat.le_refl _⟩ ?_
    refine z_aload_n CX 0 dX5_endsIn_36 rfl rfl ?_
    refine z_get CX dX5_endsIn_37 fg_X5_19 gb_0 rfl ?_
    refine z_get CX dX5_endsIn_40 fg_X5_90 gb_n0 rfl ?_
    refine z_iload_n CX 1 dX5_endsIn_43 rfl rfl ?_
    refine z_iconst CX (v := 3) dX5_endsIn_44 (by decide) ?_
    refine z_callV1 CX dX5_endsIn_45 cv_X5_94 (Cn.gN (hB_o hO.1 hj (c := 3) (by omega) (by decide))) gb_n3 rfl rfl (Nat.le_of_ble_eq_true rfl) ⟨Nat.le_of_ble_eq_true rfl, Nat.le_of_ble_eq_true rfl⟩ ⟨Nat.le_refl _, Nat.le_refl _⟩ ?_
    refine z_iconst CX (v := 1) dX5_endsIn_48 (by decide) ?_
    refine z_icmp_eq CX 56 dX5_endsIn_49 (by decide) (fun _ => ?_) (fun q9 => absurd hs1 q9)
    refine z_iconst CX (v := 0) dX5_endsIn_56 (by decide) ?_
    refine z_callS0 CX dX5_endsIn_57 cs_X5_42 g_thr0 rfl rfl (Nat.le_of_ble_eq_true rfl) ⟨Nat.le_of_ble_eq_true rfl, Nat.le_of_ble_eq_true rfl⟩ ⟨Nat.le_refl _, Nat.le_refl _⟩ ?_
    refine z_aload_n CX 0 dX5_endsIn_60 rfl rfl ?_
    refine z_get CX dX5_endsIn_61 fg_X5_23 gb_0 rfl ?_
    refine z_aload_n CX 0 dX5_endsIn_64 rfl rfl ?_
    refine z_get CX dX5_endsIn_65 fg_X5_19 gb_0 rfl ?_
    refine z_callV0 CX dX5_endsIn_68 cv_X5_183 (g_cp hO.2.1.u01.symm) gb_c0 rfl rfl (Nat.le_of_ble_eq_true rfl) ⟨Nat.le_of_ble_eq_true rfl, Nat.le_of_ble_eq_true rfl⟩ ⟨Nat.le_refl _, Nat.le_refl _⟩ ?_
    refine z_aload_n CX 0 dX5_endsIn_71 rfl rfl ?_
    refine z_get CX dX5_endsIn_72 fg_X5_23 gb_0 rfl ?_
    refine z_iload_n CX 1 dX5_endsIn_75 rfl rfl ?_
    refine z_callV1 CX dX5_endsIn_76 cv_X5_186 (Cn.gC (t_until hO.1 hO.2.1 hj)) gb_c0 rfl rfl (Nat.le_of_ble_eq_true rfl) ⟨Nat.le_of_ble_eq_true rfl, Nat.le_of_ble_eq_true rfl⟩ ⟨Nat.le_refl _, Nat.le_refl _⟩ ?_
    refine z_istore_n CX 3 dX5_endsIn_79 rfl (by decide) ?_
    refine z_aload_n CX 0 dX5_endsIn_80 rfl rfl ?_
    refine z_get CX dX5_endsIn_81 fg_X5_23 gb_0 rfl ?_
    refine z_get CX dX5_endsIn_84 fg_X5_90 gb_c0 rfl ?_
    refine z_iload_n CX 1 dX5_endsIn_87 rfl rfl ?_
    refine z_iconst CX (v := 3) dX5_endsIn_88 (by decide) ?_
    refine z_callV1 CX dX5_endsIn_89 cv_X5_94 (Cn.gC (hB_o hR2 hb2 (c := 3) (by omega) (by decide))) gb_c3 rfl rfl (Nat.le_of_ble_eq_true rfl) ⟨Nat.le_of_ble_eq_true rfl, Nat.le_of_ble_eq_true rfl⟩ ⟨Nat.le_refl _, Nat.le_refl _⟩ ?_
    refine z_iconst CX (v := 3) dX5_endsIn_92 (by decide) ?_
    refine z_icmp_ne CX 100 dX5_endsIn_93 (by decide) (fun c_93 => ?_) (fun c_93 => ?_)
    · skip
      refine z_iconst CX (v := 0) dX5_endsIn_100 (by decide) ?_
      refine z_istore CX dX5_endsIn_101 (by decide) ?_
      refine z_iload CX dX5_endsIn_103 rfl ?_
      refine z_iload_n CX 2 dX5_endsIn_105 rfl rfl ?_
      refine z_iconst CX (v := 1) dX5_endsIn_106 (by decide) ?_
      refine z_icmp_ne CX 114 dX5_endsIn_107 (by decide) (fun _ => ?_) (fun q9 => absurd q9 (by decide))
      refine z_iconst CX (v := 0) dX5_endsIn_114 (by decide) ?_
      refine z_icmp_ne CX 122 dX5_endsIn_115 (by decide) (fun q9 => absurd q9 (fun q => q rfl)) (fun _ => ?_)
      refine z_iload_n CX 3 dX5_endsIn_118 rfl rfl ?_
      refine z_goto CX 123 dX5_endsIn_119 (by decide) ?_
      exact z_iret CX dX5_endsIn_123 rfl (congrArg Value.int (eiV_n0 c_93)) rfl (Or.inl rfl)
    · skip
      refine z_iconst CX (v := 1) dX5_endsIn_96 (by decide) ?_
      refine z_goto CX 101 dX5_endsIn_97 (by decide) ?_
      refine z_istore CX dX5_endsIn_101 (by decide) ?_
      refine z_iload CX dX5_endsIn_103 rfl ?_
      refine z_iload_n CX 2 dX5_endsIn_105 rfl rfl ?_
      refine z_iconst CX (v := 1) dX5_endsIn_106 (by decide) ?_
      refine z_icmp_ne CX 114 dX5_endsIn_107 (by decide) (fun _ => ?_) (fun q9 => absurd q9 (by decide))
      refine z_iconst CX (v := 0) dX5_endsIn_114 (by decide) ?_
      refine z_icmp_ne CX 122 dX5_endsIn_115 (by decide) (fun _ => ?_) (fun q9 => absurd q9 (by decide))
      refine z_iconst CX (v := (-1 : Int32)) dX5_endsIn_122 (by decide) ?_
      exact z_iret CX dX5_endsIn_123 rfl (congrArg Value.int (eiV_30 c_93)) rfl (Or.inl rfl)
  · subst i9
    refine Cn.of (d := mX5_endsIn) (by decide +kernel) (Nat.le_of_ble_eq_true rfl) ?_
    intro p e R s m args below meth c CX
    replace CX : Ctx p s m args meth c R w RX5 "endsIn" cX5_endsIn 5 (some .int) 7 118 0 0 := CX
    show ZW p l e R s m args below meth c w 5 _ _ 0 0 (MQ below (Qn w _ _ _) args s 0 0 (wA w)) 0 [(0, .ref (wB w + k)), (1, .int _), (2, .int _)] []
    refine z_aload_n CX 0 dX5_endsIn_0 rfl rfl ?_
    refine z_get CX dX5_endsIn_1 fg_X5_19 gb_0 rfl ?_
    refine z_iload_n CX 1 dX5_endsIn_4 rfl rfl ?_
    refine z_callV1 CX dX5_endsIn_5 cv_X5_84 (Cn.gN (t_hasB (nI j))) gb_n0 rfl rfl (Nat.le_of_ble_eq_true rfl) ⟨Nat.le_of_ble_eq_true rfl, Nat.le_of_ble_eq_true rfl⟩ ⟨Nat.le_refl _, Nat.le_refl _⟩ ?_
    refine z_if_eq CX 15 dX5_endsIn_8 (by decide) (fun q9 => absurd q9 (by rw [bI_1 (show 0 ≤ nI j ∧ nI j < nI (bN f) from ⟨nI_pos' (by omega), nI_lt hj (by omega)⟩)]; decide)) (fun _ => ?_)
    refine z_iconst CX (v := 0) dX5_endsIn_11 (by decide) ?_
    refine z_goto CX 16 dX5_endsIn_12 (by decide) ?_
    refine z_callS0 CX dX5_endsIn_16 cs_X5_42 g_thr0 rfl rfl (Nat.le_of_ble_eq_true rfl) ⟨Nat.le_of_ble_eq_true rfl, Nat.le_of_ble_eq_true rfl⟩ ⟨Nat.le_refl _, Nat.le_refl _⟩ ?_
    refine z_iload_n CX 2 dX5_endsIn_19 rfl rfl ?_
    refine z_if_eq CX 32 dX5_endsIn_20 (by decide) (fun q9 => absurd q9 (by decide)) (fun _ => ?_)
    refine z_iload_n CX 2 dX5_endsIn_23 rfl rfl ?_
    refine z_iconst CX (v := 1) dX5_endsIn_24 (by decide) ?_
    refine z_icmp_eq CX 32 dX5_endsIn_25 (by decide) (fun _ => ?_) (fun q9 => absurd rfl q9)
    refine z_iconst CX (v := 0) dX5_endsIn_32 (by decide) ?_
    refine z_callS0 CX dX5_endsIn_33 cs_X5_42 g_thr0 rfl rfl (Nat.le_of_ble_eq_true rfl) ⟨Nat.le_of_ble_eq_true rfl, Nat.le_of_ble_eq_true rfl⟩ ⟨Nat.le_refl _, Nat.le_refl _⟩ ?_
    refine z_aload_n CX 0 dX5_endsIn_36 rfl rfl ?_
    refine z_get CX dX5_endsIn_37 fg_X5_19 gb_0 rfl ?_
    refine z_get CX dX5_endsIn_40 fg_X5_90 gb_n0 rfl ?_
    refine z_iload_n CX 1 dX5_endsIn_43 rfl rfl ?_
    refine z_iconst CX (v := 3) dX5_endsIn_44 (by decide) ?_
    refine z_callV1 CX dX5_endsIn_45 cv_X5_94 (Cn.gN (hB_o hO.1 hj (c := 3) (by omega) (by decide))) gb_n3 rfl rfl (Nat.le_of_ble_eq_true rfl) ⟨Nat.le_of_ble_eq_true rfl, Nat.le_of_ble_eq_true rfl⟩ ⟨Nat.le_refl _, Nat.le_refl _⟩ ?_
    refine z_iconst CX (v := 1) dX5_endsIn_48 (by decide) ?_
    refine z_icmp_eq CX 56 dX5_endsIn_49 (by decide) (fun _ => ?_) (fun q9 => absurd hs1 q9)
    refine z_iconst CX (v := 0) dX5_endsIn_56 (by decide) ?_
    refine z_callS0 CX dX5_endsIn_57 cs_X5_42 g_thr0 rfl rfl (Nat.le_of_ble_eq_true rfl) ⟨Nat.le_of_ble_eq_true rfl, Nat.le_of_ble_eq_true rfl⟩ ⟨Nat.le_refl _, Nat.le_refl _⟩ ?_
    refine z_aload_n CX 0 dX5_endsIn_60 rfl rfl ?_
    refine z_get CX dX5_endsIn_61 fg_X5_23 gb_0 rfl ?_
    refine z_aload_n CX 0 dX5_endsIn_64 rfl rfl ?_
    refine z_get CX dX5_endsIn_65 fg_X5_19 gb_0 rfl ?_
    refine z_callV0 CX dX5_endsIn_68 cv_X5_183 (g_cp hO.2.1.u01.symm) gb_c0 rfl rfl (Nat.le_of_ble_eq_true rfl) ⟨Nat.le_of_ble_eq_true rfl, Nat.le_of_ble_eq_true rfl⟩ ⟨Nat.le_refl _, Nat.le_refl _⟩ ?_
    refine z_aload_n CX 0 dX5_endsIn_71 rfl rfl ?_
    refine z_get CX dX5_endsIn_72 fg_X5_23 gb_0 rfl ?_
    refine z_iload_n CX 1 dX5_endsIn_75 rfl rfl ?_
    refine z_callV1 CX dX5_endsIn_76 cv_X5_186 (Cn.gC (t_until hO.1 hO.2.1 hj)) gb_c0 rfl rfl (Nat.le_of_ble_eq_true rfl) ⟨Nat.le_of_ble_eq_true rfl, Nat.le_of_ble_eq_true rfl⟩ ⟨Nat.le_refl _, Nat.le_refl _⟩ ?_
    refine z_istore_n CX 3 dX5_endsIn_79 rfl (by decide) ?_
    refine z_aload_n CX 0 dX5_endsIn_80 rfl rfl ?_
    refine z_get CX dX5_endsIn_81 fg_X5_23 gb_0 rfl ?_
    refine z_get CX dX5_endsIn_84 fg_X5_90 gb_c0 rfl ?_
    refine z_iload_n CX 1 dX5_endsIn_87 rfl rfl ?_
    refine z_iconst CX (v := 3) dX5_endsIn_88 (by decide) ?_
    refine z_callV1 CX dX5_endsIn_89 cv_X5_94 (Cn.gC (hB_o hR2 hb2 (c := 3) (by omega) (by decide))) gb_c3 rfl rfl (Nat.le_of_ble_eq_true rfl) ⟨Nat.le_of_ble_eq_true rfl, Nat.le_of_ble_eq_true rfl⟩ ⟨Nat.le_refl _, Nat.le_refl _⟩ ?_
    refine z_iconst CX (v := 3) dX5_endsIn_92 (by decide) ?_
    refine z_icmp_ne CX 100 dX5_endsIn_93 (by decide) (fun c_93 => ?_) (fun c_93 => ?_)
    · skip
      refine z_iconst CX (v := 0) dX5_endsIn_100 (by decide) ?_
      refine z_istore CX dX5_endsIn_101 (by decide) ?_
      refine z_iload CX dX5_endsIn_103 rfl ?_
      refine z_iload_n CX 2 dX5_endsIn_105 rfl rfl ?_
      refine z_iconst CX (v := 1) dX5_endsIn_106 (by decide) ?_
      refine z_icmp_ne CX 114 dX5_endsIn_107 (by decide) (fun q9 => absurd q9 (fun q => q rfl)) (fun _ => ?_)
      refine z_iconst CX (v := 1) dX5_endsIn_110 (by decide) ?_
      refine z_goto CX 115 dX5_endsIn_111 (by decide) ?_
      refine z_icmp_ne CX 122 dX5_endsIn_115 (by decide) (fun _ => ?_) (fun q9 => absurd q9 (by decide))
      refine z_iconst CX (v := (-1 : Int32)) dX5_endsIn_122 (by decide) ?_
      exact z_iret CX dX5_endsIn_123 rfl (congrArg Value.int (eiV_n1 c_93)) rfl (Or.inl rfl)
    · skip
      refine z_iconst CX (v := 1) dX5_endsIn_96 (by decide) ?_
      refine z_goto CX 101 dX5_endsIn_97 (by decide) ?_
      refine z_istore CX dX5_endsIn_101 (by decide) ?_
      refine z_iload CX dX5_endsIn_103 rfl ?_
      refine z_iload_n CX 2 dX5_endsIn_105 rfl rfl ?_
      refine z_iconst CX (v := 1) dX5_endsIn_106 (by decide) ?_
      refine z_icmp_ne CX 114 dX5_endsIn_107 (by decide) (fun q9 => absurd q9 (fun q => q rfl)) (fun _ => ?_)
      refine z_iconst CX (v := 1) dX5_endsIn_110 (by decide) ?_
      refine z_goto CX 115 dX5_endsIn_111 (by decide) ?_
      refine z_icmp_ne CX 122 dX5_endsIn_115 (by decide) (fun q9 => absurd q9 (fun q => q rfl)) (fun _ => ?_)
      refine z_iload_n CX 3 dX5_endsIn_118 rfl rfl ?_
      refine z_goto CX 123 dX5_endsIn_119 (by decide) ?_
      exact z_iret CX dX5_endsIn_123 rfl (congrArg Value.int (eiV_31 c_93)) rfl (Or.inl rfl)
set_option maxHeartbeats 4000000 in
set_option maxRecDepth 100000 in
theorem gx_endsIn1 {l : Launch} {w : Wt} {hs : Hs} {n : Option Nat} {k : Nat} {T : TXs} {C : TTs} {Y : HIs} {S : SHs} {f : Nat → Int32} {x : Int32} {z : Nat → Nat → Int32} {a b : Int32} (h : ¬ (0 ≤ a ∧ a < nI (bN f))) (hl9 : l.stackTraces = false) : Cx l w mX5_endsIn 1 6 [.ref (wB w + k), .int a, .int b] (GB w hs k T (nT f x z) C Y S) n (GB w hs k T (nT f x z) C Y S) (exN 1) := by
  refine Cx.of (d := mX5_endsIn) (by decide +kernel) (Nat.le_of_ble_eq_true rfl) ?_
  intro p e R s m args below meth c CX htb hN
  replace CX : Ctx p s m args meth c R w RX5 "endsIn" cX5_endsIn 5 (some .int) 7 118 1 6 := CX
  show ZW p l e R s m args below meth c w 5 _ _ 0 0 _ 0 [(0, .ref (wB w + k)), (1, .int _), (2, .int _)] []
  refine z_aload_n CX 0 dX5_endsIn_0 rfl rfl ?_
  refine z_get CX dX5_endsIn_1 fg_X5_19 gb_0 rfl ?_
  refine z_iload_n CX 1 dX5_endsIn_4 rfl rfl ?_
  refine z_callV1 CX dX5_endsIn_5 cv_X5_84 (Cn.gN (t_hasB (a))) gb_n0 rfl rfl (Nat.le_of_ble_eq_true rfl) ⟨Nat.le_of_ble_eq_true rfl, Nat.le_of_ble_eq_true rfl⟩ ⟨Nat.le_of_ble_eq_true rfl, Nat.le_of_ble_eq_true rfl⟩ ?_
  refine z_if_eq CX 15 dX5_endsIn_8 (by decide) (fun _ => ?_) (fun q9 => absurd (bI_0 h) q9)
  refine z_iconst CX (v := 1) dX5_endsIn_15 (by decide) ?_
  exact z_callSx CX htb hN dX5_endsIn_16 cs_X5_42 (g_thr (i := 1) hl9 ⟨by omega, by omega⟩ rfl) rfl rfl (Nat.le_of_ble_eq_true rfl) ⟨Nat.le_of_ble_eq_true rfl, Nat.le_of_ble_eq_true rfl⟩ ⟨Nat.le_of_ble_eq_true rfl, Nat.le_of_ble_eq_true rfl⟩
set_option maxHeartbeats 4000000 in
set_option maxRecDepth 100000 in
theorem gx_endsIn2 {l : Launch} {w : Wt} {hs : Hs} {n : Option Nat} {k : Nat} {T : TXs} {C : TTs} {Y : HIs} {S : SHs} {f : Nat → Int32} {x : Int32} {z : Nat → Nat → Int32} {a b : Int32} (hj : 0 ≤ a ∧ a < nI (bN f)) (h : ¬ (0 ≤ b ∧ b ≤ 1)) (hl9 : l.stackTraces = false) : Cx l w mX5_endsIn 1 6 [.ref (wB w + k), .int a, .int b] (GB w hs k T (nT f x z) C Y S) n (GB w hs k T (nT f x z) C Y S) (exN 2) := by
  refine Cx.of (d := mX5_endsIn) (by decide +kernel) (Nat.le_of_ble_eq_true rfl) ?_
  intro p e R s m args below meth c CX htb hN
  replace CX : Ctx p s m args meth c R w RX5 "endsIn" cX5_endsIn 5 (some .int) 7 118 1 6 := CX
  show ZW p l e R s m args below meth c w 5 _ _ 0 0 _ 0 [(0, .ref (wB w + k)), (1, .int _), (2, .int _)] []
  refine z_aload_n CX 0 dX5_endsIn_0 rfl rfl ?_
  refine z_get CX dX5_endsIn_1 fg_X5_19 gb_0 rfl ?_
  refine z_iload_n CX 1 dX5_endsIn_4 rfl rfl ?_
  refine z_callV1 CX dX5_endsIn_5 cv_X5_84 (Cn.gN (t_hasB (a))) gb_n0 rfl rfl (Nat.le_of_ble_eq_true rfl) ⟨Nat.le_of_ble_eq_true rfl, Nat.le_of_ble_eq_true rfl⟩ ⟨Nat.le_of_ble_eq_true rfl, Nat.le_of_ble_eq_true rfl⟩ ?_
  refine z_if_eq CX 15 dX5_endsIn_8 (by decide) (fun q9 => absurd q9 (by rw [bI_1 hj]; decide)) (fun _ => ?_)
  refine z_iconst CX (v := 0) dX5_endsIn_11 (by decide) ?_
  refine z_goto CX 16 dX5_endsIn_12 (by decide) ?_
  refine z_callS0 CX dX5_endsIn_16 cs_X5_42 g_thr0 rfl rfl (Nat.le_of_ble_eq_true rfl) ⟨Nat.le_of_ble_eq_true rfl, Nat.le_of_ble_eq_true rfl⟩ ⟨Nat.le_of_ble_eq_true rfl, Nat.le_of_ble_eq_true rfl⟩ ?_
  refine z_iload_n CX 2 dX5_endsIn_19 rfl rfl ?_
  refine z_if_eq CX 32 dX5_endsIn_20 (by decide) (fun q9 => absurd q9 (fun q => h (by rw [q]; decide))) (fun _ => ?_)
  refine z_iload_n CX 2 dX5_endsIn_23 rfl rfl ?_
  refine z_iconst CX (v := 1) dX5_endsIn_24 (by decide) ?_
  refine z_icmp_eq CX 32 dX5_endsIn_25 (by decide) (fun q9 => absurd q9 (fun q => h (by rw [q]; decide))) (fun _ => ?_)
  refine z_iconst CX (v := 2) dX5_endsIn_28 (by decide) ?_
  refine z_goto CX 33 dX5_endsIn_29 (by decide) ?_
  exact z_callSx CX htb hN dX5_endsIn_33 cs_X5_42 (g_thr (i := 2) hl9 ⟨by omega, by omega⟩ rfl) rfl rfl (Nat.le_of_ble_eq_true rfl) ⟨Nat.le_of_ble_eq_true rfl, Nat.le_of_ble_eq_true rfl⟩ ⟨Nat.le_of_ble_eq_true rfl, Nat.le_of_ble_eq_true rfl⟩
set_option maxHeartbeats 4000000 in
set_option maxRecDepth 100000 in
theorem gx_endsIn3 {l : Launch} {w : Wt} {hs : Hs} {n : Option Nat} {k : Nat} {T : TXs} {C : TTs} {Y : HIs} {S : SHs} {f : Nat → Int32} {x : Int32} {z : Nat → Nat → Int32} (hO : OKr f) {j i : Nat} (hj : j < bN f) (hi : i ≤ 1) (hs1 : ¬ f (24 + 10 * j + 3) = 1) (hl9 : l.stackTraces = false) : Cx l w mX5_endsIn 1 6 [.ref (wB w + k), .int (nI j), .int (nI i)] (GB w hs k T (nT f x z) C Y S) n (GB w hs k T (nT f x z) C Y S) (exN 3) := by
  have h6 := hO.1.1.2.1
  have h9 := hO.2.2
  rcases (show i = 0 ∨ i = 1 by omega) with i9 | i9
  · subst i9
    refine Cx.of (d := mX5_endsIn) (by decide +kernel) (Nat.le_of_ble_eq_true rfl) ?_
    intro p e R s m args below meth c CX htb hN
    replace CX : Ctx p s m args meth c R w RX5 "endsIn" cX5_endsIn 5 (some .int) 7 118 1 6 := CX
    show ZW p l e R s m args below meth c w 5 _ _ 0 0 _ 0 [(0, .ref (wB w + k)), (1, .int _), (2, .int _)] []
    refine z_aload_n CX 0 dX5_endsIn_0 rfl rfl ?_
    refine z_get CX dX5_endsIn_1 fg_X5_19 gb_0 rfl ?_
    refine z_iload_n CX 1 dX5_endsIn_4 rfl rfl ?_
    refine z_callV1 CX dX5_endsIn_5 cv_X5_84 (Cn.gN (t_hasB (nI j))) gb_n0 rfl rfl (Nat.le_of_ble_eq_true rfl) ⟨Nat.le_of_ble_eq_true rfl, Nat.le_of_ble_eq_true rfl⟩ ⟨Nat.le_of_ble_eq_true rfl, Nat.le_of_ble_eq_true rfl⟩ ?_
    refine z_if_eq CX 15 dX5_endsIn_8 (by decide) (fun q9 => absurd q9 (by rw [bI_1 (show 0 ≤ nI j ∧ nI j < nI (bN f) from ⟨nI_pos' (by omega), nI_lt hj (by omega)⟩)]; decide)) (fun _ => ?_)
    refine z_iconst CX (v := 0) dX5_endsIn_11 (by decide) ?_
    refine z_goto CX 16 dX5_endsIn_12 (by decide) ?_
    refine z_callS0 CX dX5_endsIn_16 cs_X5_42 g_thr0 rfl rfl (Nat.le_of_ble_eq_true rfl) ⟨Nat.le_of_ble_eq_true rfl, Nat.le_of_ble_eq_true rfl⟩ ⟨Nat.le_of_ble_eq_true rfl, Nat.le_of_ble_eq_true rfl⟩ ?_
    refine z_iload_n CX 2 dX5_endsIn_19 rfl rfl ?_
    refine z_if_eq CX 32 dX5_endsIn_20 (by decide) (fun _ => ?_) (fun q9 => absurd rfl q9)
    refine z_iconst CX (v := 0) dX5_endsIn_32 (by decide) ?_
    refine z_callS0 CX dX5_endsIn_33 cs_X5_42 g_thr0 rfl rfl (Nat.le_of_ble_eq_true rfl) ⟨Nat.le_of_ble_eq_true rfl, Nat.le_of_ble_eq_true rfl⟩ ⟨Nat.le_of_ble_eq_true rfl, Nat.le_of_ble_eq_true rfl⟩ ?_
    refine z_aload_n CX 0 dX5_endsIn_36 rfl rfl ?_
    refine z_get CX dX5_endsIn_37 fg_X5_19 gb_0 rfl ?_
    refine z_get CX dX5_endsIn_40 fg_X5_90 gb_n0 rfl ?_
    refine z_iload_n CX 1 dX5_endsIn_43 rfl rfl ?_
    refine z_iconst CX (v := 3) dX5_endsIn_44 (by decide) ?_
    refine z_callV1 CX dX5_endsIn_45 cv_X5_94 (Cn.gN (hB_o hO.1 hj (c := 3) (by omega) (by decide))) gb_n3 rfl rfl (Nat.le_of_ble_eq_true rfl) ⟨Nat.le_of_ble_eq_true rfl, Nat.le_of_ble_eq_true rfl⟩ ⟨Nat.le_of_ble_eq_true rfl, Nat.le_of_ble_eq_true rfl⟩ ?_
    refine z_iconst CX (v := 1) dX5_endsIn_48 (by decide) ?_
    refine z_icmp_eq CX 56 dX5_endsIn_49 (by decide) (fun q9 => absurd q9 hs1) (fun _ => ?_)
    refine z_iconst CX (v := 3) dX5_endsIn_52 (by decide) ?_
    refine z_goto CX 57 dX5_endsIn_53 (by decide) ?_
    exact z_callSx CX htb hN dX5_endsIn_57 cs_X5_42 (g_thr (i := 3) hl9 ⟨by omega, by omega⟩ rfl) rfl rfl (Nat.le_of_ble_eq_true rfl) ⟨Nat.le_of_ble_eq_true rfl, Nat.le_of_ble_eq_true rfl⟩ ⟨Nat.le_of_ble_eq_true rfl, Nat.le_of_ble_eq_true rfl⟩
  · subst i9
    refine Cx.of (d := mX5_endsIn) (by decide +kernel) (Nat.le_of_ble_eq_true rfl) ?_
    intro p e R s m args below meth c CX htb hN
    replace CX : Ctx p s m args meth c R w RX5 "endsIn" cX5_endsIn 5 (some .int) 7 118 1 6 := CX
    show ZW p l e R s m args below meth c w 5 _ _ 0 0 _ 0 [(0, .ref (wB w + k)), (1, .int _), (2, .int _)] []
    refine z_aload_n CX 0 dX5_endsIn_0 rfl rfl ?_
    refine z_get CX dX5_endsIn_1 fg_X5_19 gb_0 rfl ?_
    refine z_iload_n CX 1 dX5_endsIn_4 rfl rfl ?_
    refine z_callV1 CX dX5_endsIn_5 cv_X5_84 (Cn.gN (t_hasB (nI j))) gb_n0 rfl rfl (Nat.le_of_ble_eq_true rfl) ⟨Nat.le_of_ble_eq_true rfl, Nat.le_of_ble_eq_true rfl⟩ ⟨Nat.le_of_ble_eq_true rfl, Nat.le_of_ble_eq_true rfl⟩ ?_
    refine z_if_eq CX 15 dX5_endsIn_8 (by decide) (fun q9 => absurd q9 (by rw [bI_1 (show 0 ≤ nI j ∧ nI j < nI (bN f) from ⟨nI_pos' (by omega), nI_lt hj (by omega)⟩)]; decide)) (fun _ => ?_)
    refine z_iconst CX (v := 0) dX5_endsIn_11 (by decide) ?_
    refine z_goto CX 16 dX5_endsIn_12 (by decide) ?_
    refine z_callS0 CX dX5_endsIn_16 cs_X5_42 g_thr0 rfl rfl (Nat.le_of_ble_eq_true rfl) ⟨Nat.le_of_ble_eq_true rfl, Nat.le_of_ble_eq_true rfl⟩ ⟨Nat.le_of_ble_eq_true rfl, Nat.le_of_ble_eq_true rfl⟩ ?_
    refine z_iload_n CX 2 dX5_endsIn_19 rfl rfl ?_
    refine z_if_eq CX 32 dX5_endsIn_20 (by decide) (fun q9 => absurd q9 (by decide)) (fun _ => ?_)
    refine z_iload_n CX 2 dX5_endsIn_23 rfl rfl ?_
    refine z_iconst CX (v := 1) dX5_endsIn_24 (by decide) ?_
    refine z_icmp_eq CX 32 dX5_endsIn_25 (by decide) (fun _ => ?_) (fun q9 => absurd rfl q9)
    refine z_iconst CX (v := 0) dX5_endsIn_32 (by decide) ?_
    refine z_callS0 CX dX5_endsIn_33 cs_X5_42 g_thr0 rfl rfl (Nat.le_of_ble_eq_true rfl) ⟨Nat.le_of_ble_eq_true rfl, Nat.le_of_ble_eq_true rfl⟩ ⟨Nat.le_of_ble_eq_true rfl, Nat.le_of_ble_eq_true rfl⟩ ?_
    refine z_aload_n CX 0 dX5_endsIn_36 rfl rfl ?_
    refine z_get CX dX5_endsIn_37 fg_X5_19 gb_0 rfl ?_
    refine z_get CX dX5_endsIn_40 fg_X5_90 gb_n0 rfl ?_
    refine z_iload_n CX 1 dX5_endsIn_43 rfl rfl ?_
    refine z_iconst CX (v := 3) dX5_endsIn_44 (by decide) ?_
    refine z_callV1 CX dX5_endsIn_45 cv_X5_94 (Cn.gN (hB_o hO.1 hj (c := 3) (by omega) (by decide))) gb_n3 rfl rfl (Nat.le_of_ble_eq_true rfl) ⟨Nat.le_of_ble_eq_true rfl, Nat.le_of_ble_eq_true rfl⟩ ⟨Nat.le_of_ble_eq_true rfl, Nat.le_of_ble_eq_true rfl⟩ ?_
    refine z_iconst CX (v := 1) dX5_endsIn_48 (by decide) ?_
    refine z_icmp_eq CX 56 dX5_endsIn_49 (by decide) (fun q9 => absurd q9 hs1) (fun _ => ?_)
    refine z_iconst CX (v := 3) dX5_endsIn_52 (by decide) ?_
    refine z_goto CX 57 dX5_endsIn_53 (by decide) ?_
    exact z_callSx CX htb hN dX5_endsIn_57 cs_X5_42 (g_thr (i := 3) hl9 ⟨by omega, by omega⟩ rfl) rfl rfl (Nat.le_of_ble_eq_true rfl) ⟨Nat.le_of_ble_eq_true rfl, Nat.le_of_ble_eq_true rfl⟩ ⟨Nat.le_of_ble_eq_true rfl, Nat.le_of_ble_eq_true rfl⟩
set_option maxHeartbeats 4000000 in
set_option maxRecDepth 100000 in
theorem g_winner {l : Launch} {w : Wt} {hs : Hs} {n : Option Nat} {k : Nat} {T : TXs} {C : TTs} {Y : HIs} {S : SHs} {f : Nat → Int32} {x : Int32} {z : Nat → Nat → Int32} (hO : OKr f) : Cn l w mX5_winner 0 0 [.ref (wB w + k)] (GB w hs k T (nT f x z) C Y S) n (GB w hs k T (nT f x z) (nT (lhe (bN f) 94 f) x z) Y S) n (some (.int (wnR f (lhe (bN f) 94 f) (bN f) 0))) := by
  have h6 := hO.1.1.2.1
  have h9 := hO.2.2
  have hT := (lhe_94 hO.1 hO.2.1).2
  have hR2 : RIs (lhe (bN f) 94 f) := RIs.of hT
  have eb : bN (lhe (bN f) 94 f) = bN f := hT.bN
  obtain ⟨V9, hV⟩ : ∃ V9, wnR f (lhe (bN f) 94 f) (bN f) 0 = V9 := ⟨_, rfl⟩
  rw [hV]
  refine Cn.of (d := mX5_winner) (by decide +kernel) (Nat.le_of_ble_eq_true rfl) ?_
  intro p e R s m args below meth c CX
  replace CX : Ctx p s m args meth c R w RX5 "winner" cX5_winner 2 (some .int) 5 117 0 0 := CX
  show ZW p l e R s m args below meth c w 2 _ _ 0 0 (MQ below (Qn w _ _ _) args s 0 0 (wA w)) 0 [(0, .ref (wB w + k))] []
  have LP : ∀ (j i : Nat), i + j = bN f → wnR f (lhe (bN f) 94 f) j i = V9 → ZW p l e R s m args below meth c w 2 (GB w hs k T (nT f x z) (nT (lhe (bN f) 94 f) x z) Y S) n 0 0 (MQ below (Qn w (GB w hs k T (nT f x z) (nT (lhe (bN f) 94 f) x z) Y S) n (some (.int V9))) args s 0 0 (wA w)) 20 [(0, .ref (wB w + k)), (1, .int (nI i))] [] := by
    intro j
    induction j with
    | zero =>
      intro i hi e1
      refine z_iload_n CX 1 dX5_winner_20 rfl rfl ?_
      refine z_aload_n CX 0 dX5_winner_21 rfl rfl ?_
      refine z_get CX dX5_winner_22 fg_X5_19 gb_0 rfl ?_
      refine z_get CX dX5_winner_25 fg_X5_90 gb_n0 rfl ?_
      refine z_get CX dX5_winner_28 fg_X5_192 gb_n3 rfl ?_
      refine z_icmp_ge CX 71 dX5_winner_31 (by decide) (fun _ => ?_) (fun q9 => absurd (show nI (bN f) ≤ nI i from nI_le (by omega) (by omega)) q9)
      refine z_iconst CX (v := (-1 : Int32)) dX5_winner_71 (by decide) ?_
      exact z_iret CX dX5_winner_72 rfl (congrArg Value.int (show V9 = -1 from e1.symm)) rfl (Or.inl rfl)
    | succ j ih =>
      intro i hi e1
      refine z_iload_n CX 1 dX5_winner_20 rfl rfl ?_
      refine z_aload_n CX 0 dX5_winner_21 rfl rfl ?_
      refine z_get CX dX5_winner_22 fg_X5_19 gb_0 rfl ?_
      refine z_get CX dX5_winner_25 fg_X5_90 gb_n0 rfl ?_
      refine z_get CX dX5_winner_28 fg_X5_192 gb_n3 rfl ?_
      refine z_icmp_ge CX 71 dX5_winner_31 (by decide) (fun q9 => absurd q9 (show ¬ nI (bN f) ≤ nI i from nI_ge (by omega) (by omega))) (fun _ => ?_)
      refine z_aload_n CX 0 dX5_winner_34 rfl rfl ?_
      refine z_get CX dX5_winner_35 fg_X5_23 gb_0 rfl ?_
      refine z_get CX dX5_winner_38 fg_X5_90 gb_c0 rfl ?_
      refine z_iload_n CX 1 dX5_winner_41 rfl rfl ?_
      refine z_bipush CX (v := 8) dX5_winner_42 (by decide) ?_
      refine z_callV1 CX dX5_winner_44 cv_X5_94 (Cn.gC (hB_o hR2 (b := i) (c := 8) (by omega) (by omega) (by decide))) gb_c3 rfl rfl (Nat.le_of_ble_eq_true rfl) ⟨Nat.le_of_ble_eq_true rfl, Nat.le_of_ble_eq_true rfl⟩ ⟨Nat.le_refl _, Nat.le_refl _⟩ ?_
      refine z_aload_n CX 0 dX5_winner_47 rfl rfl ?_
      refine z_get CX dX5_winner_48 fg_X5_19 gb_0 rfl ?_
      refine z_get CX dX5_winner_51 fg_X5_90 gb_n0 rfl ?_
      refine z_iload_n CX 1 dX5_winner_54 rfl rfl ?_
      refine z_bipush CX (v := 8) dX5_winner_55 (by decide) ?_
      refine z_callV1 CX dX5_winner_57 cv_X5_94 (Cn.gN (hB_o hO.1 (b := i) (c := 8) (by omega) (by omega) (by decide))) gb_n3 rfl rfl (Nat.le_of_ble_eq_true rfl) ⟨Nat.le_of_ble_eq_true rfl, Nat.le_of_ble_eq_true rfl⟩ ⟨Nat.le_refl _, Nat.le_refl _⟩ ?_
      refine z_icmp_le CX 65 dX5_winner_60 (by decide) (fun c_60 => ?_) (fun c_60 => ?_)
      · skip
        refine z_iinc CX (v := nI (i + 1)) dX5_winner_65 rfl (nI_1 i) (by decide) ?_
        refine z_goto CX 20 dX5_winner_68 (by decide) ?_
        refine z_loc [(0, .ref (wB w + k)), (1, .int (nI (i + 1)))] ⟨rfl, rfl, trivial⟩ ?_
        exact ih (i + 1) (by omega) (by rw [← e1, wnR, if_pos c_60])
      · skip
        refine z_iload_n CX 1 dX5_winner_63 rfl rfl ?_
        exact z_iret CX dX5_winner_64 rfl (congrArg Value.int (show V9 = nI i from e1.symm.trans (by rw [wnR, if_neg c_60]))) rfl (Or.inl rfl)
  refine z_aload_n CX 0 dX5_winner_0 rfl rfl ?_
  refine z_get CX dX5_winner_1 fg_X5_23 gb_0 rfl ?_
  refine z_aload_n CX 0 dX5_winner_4 rfl rfl ?_
  refine z_get CX dX5_winner_5 fg_X5_19 gb_0 rfl ?_
  refine z_callV0 CX dX5_winner_8 cv_X5_183 (g_cp hO.2.1.u01.symm) gb_c0 rfl rfl (Nat.le_of_ble_eq_true rfl) ⟨Nat.le_of_ble_eq_true rfl, Nat.le_of_ble_eq_true rfl⟩ ⟨Nat.le_refl _, Nat.le_refl _⟩ ?_
  refine z_aload_n CX 0 dX5_winner_11 rfl rfl ?_
  refine z_get CX dX5_winner_12 fg_X5_23 gb_0 rfl ?_
  refine z_callV0 CX dX5_winner_15 cv_X5_189 (Cn.gC (t_let hO.1 hO.2.1)) gb_c0 rfl rfl (Nat.le_of_ble_eq_true rfl) ⟨Nat.le_of_ble_eq_true rfl, Nat.le_of_ble_eq_true rfl⟩ ⟨Nat.le_refl _, Nat.le_refl _⟩ ?_
  refine z_iconst CX (v := 0) dX5_winner_18 (by decide) ?_
  refine z_istore_n CX 1 dX5_winner_19 rfl (by decide) ?_
  refine z_loc [(0, .ref (wB w + k)), (1, .int (nI 0))] ⟨rfl, rfl, trivial⟩ ?_
  exact LP (bN f) 0 (by omega) hV
set_option maxHeartbeats 4000000 in
set_option maxRecDepth 100000 in
theorem g_leastFolds {l : Launch} {w : Wt} {hs : Hs} {n : Option Nat} {k : Nat} {T : TXs} {C : TTs} {Y : HIs} {S : SHs} {f : Nat → Int32} {x : Int32} {z : Nat → Nat → Int32} (hO : OKr f) {j9 : Nat} {y : Int32} (hj : j9 < gN f) (hy : 0 ≤ y ∧ y ≤ 3) : ∃ C9 : TTs, Cn l w mX5_leastFolds 0 0 [.ref (wB w + k), .int (nI j9), .int y] (GB w hs k T (nT f x z) C Y S) n (GB w hs k T (nT f x z) C9 Y S) n (some (.int (lfR f j9 y 9 1 f).1)) := by
  have h6 := hO.1.1.2.1
  have h9 := hO.2.2
  obtain ⟨V9, F9, hF⟩ : ∃ V9 F9, lfR f j9 y 9 1 f = (V9, F9) := ⟨_, _, rfl⟩
  refine ⟨nT F9 x z, ?_⟩
  rw [hF]
  refine Cn.of (d := mX5_leastFolds) (by decide +kernel) (Nat.le_of_ble_eq_true rfl) ?_
  intro p e R s m args below meth c CX
  replace CX : Ctx p s m args meth c R w RX5 "leastFolds" cX5_leastFolds 5 (some .int) 7 118 0 0 := CX
  show ZW p l e R s m args below meth c w 5 _ _ 0 0 (MQ below (Qn w _ _ _) args s 0 0 (wA w)) 0 [(0, .ref (wB w + k)), (1, .int _), (2, .int _)] []
  have LP : ∀ (j i : Nat) (C : TTs) (tr : Nat → Int32), i + j = 10 → 1 ≤ i → lfR f j9 y j i tr = (V9, F9) → (j = 0 → C = nT tr x z) → ZW p l e R s m args below meth c w 5 (GB w hs k T (nT f x z) C Y S) n 0 0 (MQ below (Qn w (GB w hs k T (nT f x z) (nT F9 x z) Y S) n (some (.int V9))) args s 0 0 (wA w)) 38 [(0, .ref (wB w + k)), (1, .int (nI j9)), (2, .int y), (3, .int (nI i))] [] := by
    intro j
    induction j with
    | zero =>
      intro i C tr hi h1i e1 hC
      have hi9 : i = 10 := by omega
      subst hi9
      have e3 : V9 = -1 := (congrArg Prod.fst e1).symm
      have e4 : F9 = tr := (congrArg Prod.snd e1).symm
      rw [hC rfl]
      subst e3
      subst e4
      refine z_iload_n CX 3 dX5_leastFolds_38 rfl rfl ?_
      refine z_bipush CX (v := 9) dX5_leastFolds_39 (by decide) ?_
      refine z_icmp_gt CX 113 dX5_leastFolds_41 (by decide) (fun _ => ?_) (fun q9 => absurd (by decide) q9)
      refine z_iconst CX (v := (-1 : Int32)) dX5_leastFolds_113 (by decide) ?_
      exact z_iret CX dX5_leastFolds_114 rfl rfl rfl (Or.inl rfl)
    | succ j ih =>
      intro i C tr hi h1i e1 hC
      have q1 : RI (adbF f (bN f) (nI i) y 0) (gN f) (bN f + 1) := RI_adb hO.1 (by omega) ⟨nI_le (a := 1) h1i (by omega), nI_le (b := 9) (by omega) (by omega)⟩ hy ⟨by decide, by decide⟩
      have q2 : UD (adbF f (bN f) (nI i) y 0) (bN f + 1) := UD_adb (by omega) hO.2.1
      have q3 : (adbF f (bN f) (nI i) y 0) (24 + 10 * bN f + 3) = 0 := adbF_c (by omega) (by omega) (by omega)
      have q4 : RI (lnF (adbF f (bN f) (nI i) y 0) (bN f + 1) (bN f) (nI j9)) (gN f) (bN f + 1) := RI_lnF q1 (by omega) hj q3
      have q5 : UD (lnF (adbF f (bN f) (nI i) y 0) (bN f + 1) (bN f) (nI j9)) (bN f + 1) := UD_lnF (by omega) q2 (by omega) q3
      have e1b : bN (adbF f (bN f) (nI i) y 0) = bN f + 1 := q1.bN
      have e1g : gN (adbF f (bN f) (nI i) y 0) = gN f := q1.gN
      have e2b : bN (lnF (adbF f (bN f) (nI i) y 0) (bN f + 1) (bN f) (nI j9)) = bN f + 1 := q4.bN
      have q6 := (gtl_94 q4 (show bN f < bN f + 1 by omega)).2
      have q7 : RIs (lfT f j9 y i).2 := RIs.of q6
      have e3b : bN (lfT f j9 y i).2 = bN f + 1 := q6.bN
      refine z_iload_n CX 3 dX5_leastFolds_38 rfl rfl ?_
      refine z_bipush CX (v := 9) dX5_leastFolds_39 (by decide) ?_
      refine z_icmp_gt CX 113 dX5_leastFolds_41 (by decide) (fun q9 => absurd q9 (fun q => absurd (Int32.not_lt.mpr (nI_le (b := 9) (by omega) (by omega))) (fun h9 => h9 q))) (fun _ => ?_)
      refine z_aload_n CX 0 dX5_leastFolds_44 rfl rfl ?_
      refine z_get CX dX5_leastFolds_45 fg_X5_23 gb_0 rfl ?_
      refine z_aload_n CX 0 dX5_leastFolds_48 rfl rfl ?_
      refine z_get CX dX5_leastFolds_49 fg_X5_19 gb_0 rfl ?_
      refine z_callV0 CX dX5_leastFolds_52 cv_X5_183 (g_cp hO.2.1.u01.symm) gb_c0 rfl rfl (Nat.le_of_ble_eq_true rfl) ⟨Nat.le_of_ble_eq_true rfl, Nat.le_of_ble_eq_true rfl⟩ ⟨Nat.le_refl _, Nat.le_refl _⟩ ?_
      refine z_aload_n CX 0 dX5_leastFolds_55 rfl rfl ?_
      refine z_get CX dX5_leastFolds_56 fg_X5_23 gb_0 rfl ?_
      refine z_iload_n CX 3 dX5_leastFolds_59 rfl rfl ?_
      refine z_iload_n CX 2 dX5_leastFolds_60 rfl rfl ?_
      refine z_iconst CX (v := 0) dX5_leastFolds_61 (by decide) ?_
      refine z_callV1 CX dX5_leastFolds_62 cv_X5_133 (Cn.gC (t_addB hO.1 (by omega) (nI i) y 0)) gb_c0 rfl rfl (Nat.le_of_ble_eq_true rfl) ⟨Nat.le_of_ble_eq_true rfl, Nat.le_of_ble_eq_true rfl⟩ ⟨Nat.le_refl _, Nat.le_refl _⟩ ?_
      refine z_istore CX dX5_leastFolds_65 (by decide) ?_
      refine z_aload_n CX 0 dX5_leastFolds_67 rfl rfl ?_
      refine z_get CX dX5_leastFolds_68 fg_X5_23 gb_0 rfl ?_
      refine z_iload CX dX5_leastFolds_71 rfl ?_
      refine z_iload_n CX 1 dX5_leastFolds_73 rfl rfl ?_
      refine z_callV1 CX dX5_leastFolds_74 cv_X5_139 (Cn.gC (t_launch (RIs.of q1) (b := bN f) (g := j9) (by rw [e1b]; omega) (by rw [e1g]; exact hj) q3)) gb_c0 rfl rfl (Nat.le_of_ble_eq_true rfl) ⟨Nat.le_of_ble_eq_true rfl, Nat.le_of_ble_eq_true rfl⟩ ⟨Nat.le_refl _, Nat.le_refl _⟩ ?_
      rw [e1b]
      refine z_pop CX dX5_leastFolds_77 rfl ?_
      refine z_aload_n CX 0 dX5_leastFolds_78 rfl rfl ?_
      refine z_get CX dX5_leastFolds_79 fg_X5_23 gb_0 rfl ?_
      refine z_iload CX dX5_leastFolds_82 rfl ?_
      refine z_callV1 CX dX5_leastFolds_84 cv_X5_186 (Cn.gC (t_until (RIs.of q4) (by rw [e2b]; exact q5) (b := bN f) (by rw [e2b]; omega))) gb_c0 rfl rfl (Nat.le_of_ble_eq_true rfl) ⟨Nat.le_of_ble_eq_true rfl, Nat.le_of_ble_eq_true rfl⟩ ⟨Nat.le_refl _, Nat.le_refl _⟩ ?_
      rw [e2b]
      refine z_pop CX dX5_leastFolds_87 rfl ?_
      refine z_aload_n CX 0 dX5_leastFolds_88 rfl rfl ?_
      refine z_get CX dX5_leastFolds_89 fg_X5_23 gb_0 rfl ?_
      refine z_get CX dX5_leastFolds_92 fg_X5_90 gb_c0 rfl ?_
      refine z_iload CX dX5_leastFolds_95 rfl ?_
      refine z_iconst CX (v := 3) dX5_leastFolds_97 (by decide) ?_
      refine z_callV1 CX dX5_leastFolds_98 cv_X5_94 (Cn.gC (hB_o (f := (lfT f j9 y i).2) q7 (b := bN f) (c := 3) (by rw [e3b]; omega) (by omega) (by decide))) gb_c3 rfl rfl (Nat.le_of_ble_eq_true rfl) ⟨Nat.le_of_ble_eq_true rfl, Nat.le_of_ble_eq_true rfl⟩ ⟨Nat.le_refl _, Nat.le_refl _⟩ ?_
      refine z_iconst CX (v := 3) dX5_leastFolds_101 (by decide) ?_
      refine z_icmp_eq CX 107 dX5_leastFolds_102 (by decide) (fun c_102 => ?_) (fun c_102 => ?_)
      · skip
        refine z_iinc CX (v := nI (i + 1)) dX5_leastFolds_107 rfl (nI_1 i) (by decide) ?_
        refine z_goto CX 38 dX5_leastFolds_110 (by decide) ?_
        refine z_loc [(0, .ref (wB w + k)), (1, .int (nI j9)), (2, .int y), (3, .int (nI (i + 1)))] ⟨rfl, rfl, rfl, rfl, trivial⟩ ?_
        exact ih (i + 1) _ (lfT f j9 y i).2 (by omega) (by omega) (by rw [← e1, lfR, if_pos c_102]) (fun _ => rfl)
      · skip
        refine z_iload_n CX 3 dX5_leastFolds_105 rfl rfl ?_
        exact z_iret CX dX5_leastFolds_106 rfl (congrArg Value.int (show V9 = nI i from (congrArg Prod.fst (e1.symm.trans (by rw [lfR, if_neg c_102]))))) (by rw [show F9 = (lfT f j9 y i).2 from congrArg Prod.snd (e1.symm.trans (by rw [lfR, if_neg c_102]))]) (Or.inl rfl)
  refine z_aload_n CX 0 dX5_leastFolds_0 rfl rfl ?_
  refine z_get CX dX5_leastFolds_1 fg_X5_19 gb_0 rfl ?_
  refine z_iload_n CX 1 dX5_leastFolds_4 rfl rfl ?_
  refine z_callV1 CX dX5_leastFolds_5 cv_X5_76 (Cn.gN (t_hasG (nI j9))) gb_n0 rfl rfl (Nat.le_of_ble_eq_true rfl) ⟨Nat.le_of_ble_eq_true rfl, Nat.le_of_ble_eq_true rfl⟩ ⟨Nat.le_refl _, Nat.le_refl _⟩ ?_
  refine z_if_eq CX 15 dX5_leastFolds_8 (by decide) (fun q9 => absurd q9 (by rw [bI_1 (show 0 ≤ nI j9 ∧ nI j9 < nI (gN f) from ⟨nI_pos' (by omega), nI_lt hj (by omega)⟩)]; decide)) (fun _ => ?_)
  refine z_iconst CX (v := 0) dX5_leastFolds_11 (by decide) ?_
  refine z_goto CX 16 dX5_leastFolds_12 (by decide) ?_
  refine z_callS0 CX dX5_leastFolds_16 cs_X5_42 g_thr0 rfl rfl (Nat.le_of_ble_eq_true rfl) ⟨Nat.le_of_ble_eq_true rfl, Nat.le_of_ble_eq_true rfl⟩ ⟨Nat.le_refl _, Nat.le_refl _⟩ ?_
  refine z_iload_n CX 2 dX5_leastFolds_19 rfl rfl ?_
  refine z_if_lt CX 28 dX5_leastFolds_20 (by decide) (fun q9 => absurd q9 (Int32.not_lt.mpr hy.1)) (fun _ => ?_)
  refine z_iload_n CX 2 dX5_leastFolds_23 rfl rfl ?_
  refine z_iconst CX (v := 3) dX5_leastFolds_24 (by decide) ?_
  refine z_icmp_le CX 32 dX5_leastFolds_25 (by decide) (fun _ => ?_) (fun q9 => absurd hy.2 q9)
  refine z_iconst CX (v := 0) dX5_leastFolds_32 (by decide) ?_
  refine z_callS0 CX dX5_leastFolds_33 cs_X5_42 g_thr0 rfl rfl (Nat.le_of_ble_eq_true rfl) ⟨Nat.le_of_ble_eq_true rfl, Nat.le_of_ble_eq_true rfl⟩ ⟨Nat.le_refl _, Nat.le_refl _⟩ ?_
  refine z_iconst CX (v := 1) dX5_leastFolds_36 (by decide) ?_
  refine z_istore_n CX 3 dX5_leastFolds_37 rfl (by decide) ?_
  refine z_loc [(0, .ref (wB w + k)), (1, .int (nI j9)), (2, .int y), (3, .int (nI 1))] ⟨rfl, rfl, rfl, rfl, trivial⟩ ?_
  exact LP 9 1 _ f (by omega) (by omega) hF (fun q => absurd q (by omega))
set_option maxHeartbeats 4000000 in
set_option maxRecDepth 100000 in
theorem gx_leastFolds1 {l : Launch} {w : Wt} {hs : Hs} {n : Option Nat} {k : Nat} {T : TXs} {C : TTs} {Y : HIs} {S : SHs} {f : Nat → Int32} {x : Int32} {z : Nat → Nat → Int32} {a b : Int32} (h : ¬ (0 ≤ a ∧ a < nI (gN f))) (hl9 : l.stackTraces = false) : Cx l w mX5_leastFolds 1 6 [.ref (wB w + k), .int a, .int b] (GB w hs k T (nT f x z) C Y S) n (GB w hs k T (nT f x z) C Y S) (exN 1) := by
  refine Cx.of (d := mX5_leastFolds) (by decide +kernel) (Nat.le_of_ble_eq_true rfl) ?_
  intro p e R s m args below meth c CX htb hN
  replace CX : Ctx p s m args meth c R w RX5 "leastFolds" cX5_leastFolds 5 (some .int) 7 118 1 6 := CX
  show ZW p l e R s m args below meth c w 5 _ _ 0 0 _ 0 [(0, .ref (wB w + k)), (1, .int _), (2, .int _)] []
  refine z_aload_n CX 0 dX5_leastFolds_0 rfl rfl ?_
  refine z_get CX dX5_leastFolds_1 fg_X5_19 gb_0 rfl ?_
  refine z_iload_n CX 1 dX5_leastFolds_4 rfl rfl ?_
  refine z_callV1 CX dX5_leastFolds_5 cv_X5_76 (Cn.gN (t_hasG (a))) gb_n0 rfl rfl (Nat.le_of_ble_eq_true rfl) ⟨Nat.le_of_ble_eq_true rfl, Nat.le_of_ble_eq_true rfl⟩ ⟨Nat.le_of_ble_eq_true rfl, Nat.le_of_ble_eq_true rfl⟩ ?_
  refine z_if_eq CX 15 dX5_leastFolds_8 (by decide) (fun _ => ?_) (fun q9 => absurd (bI_0 h) q9)
  refine z_iconst CX (v := 1) dX5_leastFolds_15 (by decide) ?_
  exact z_callSx CX htb hN dX5_leastFolds_16 cs_X5_42 (g_thr (i := 1) hl9 ⟨by omega, by omega⟩ rfl) rfl rfl (Nat.le_of_ble_eq_true rfl) ⟨Nat.le_of_ble_eq_true rfl, Nat.le_of_ble_eq_true rfl⟩ ⟨Nat.le_of_ble_eq_true rfl, Nat.le_of_ble_eq_true rfl⟩
set_option maxHeartbeats 4000000 in
set_option maxRecDepth 100000 in
theorem gx_leastFolds2 {l : Launch} {w : Wt} {hs : Hs} {n : Option Nat} {k : Nat} {T : TXs} {C : TTs} {Y : HIs} {S : SHs} {f : Nat → Int32} {x : Int32} {z : Nat → Nat → Int32} {a b : Int32} (hj : 0 ≤ a ∧ a < nI (gN f)) (h : ¬ (0 ≤ b ∧ b ≤ 3)) (hl9 : l.stackTraces = false) : Cx l w mX5_leastFolds 1 6 [.ref (wB w + k), .int a, .int b] (GB w hs k T (nT f x z) C Y S) n (GB w hs k T (nT f x z) C Y S) (exN 2) := by
  refine Cx.of (d := mX5_leastFolds) (by decide +kernel) (Nat.le_of_ble_eq_true rfl) ?_
  intro p e R s m args below meth c CX htb hN
  replace CX : Ctx p s m args meth c R w RX5 "leastFolds" cX5_leastFolds 5 (some .int) 7 118 1 6 := CX
  show ZW p l e R s m args below meth c w 5 _ _ 0 0 _ 0 [(0, .ref (wB w + k)), (1, .int _), (2, .int _)] []
  refine z_aload_n CX 0 dX5_leastFolds_0 rfl rfl ?_
  refine z_get CX dX5_leastFolds_1 fg_X5_19 gb_0 rfl ?_
  refine z_iload_n CX 1 dX5_leastFolds_4 rfl rfl ?_
  refine z_callV1 CX dX5_leastFolds_5 cv_X5_76 (Cn.gN (t_hasG (a))) gb_n0 rfl rfl (Nat.le_of_ble_eq_true rfl) ⟨Nat.le_of_ble_eq_true rfl, Nat.le_of_ble_eq_true rfl⟩ ⟨Nat.le_of_ble_eq_true rfl, Nat.le_of_ble_eq_true rfl⟩ ?_
  refine z_if_eq CX 15 dX5_leastFolds_8 (by decide) (fun q9 => absurd q9 (by rw [bI_1 hj]; decide)) (fun _ => ?_)
  refine z_iconst CX (v := 0) dX5_leastFolds_11 (by decide) ?_
  refine z_goto CX 16 dX5_leastFolds_12 (by decide) ?_
  refine z_callS0 CX dX5_leastFolds_16 cs_X5_42 g_thr0 rfl rfl (Nat.le_of_ble_eq_true rfl) ⟨Nat.le_of_ble_eq_true rfl, Nat.le_of_ble_eq_true rfl⟩ ⟨Nat.le_of_ble_eq_true rfl, Nat.le_of_ble_eq_true rfl⟩ ?_
  refine z_iload_n CX 2 dX5_leastFolds_19 rfl rfl ?_
  refine z_if_lt CX 28 dX5_leastFolds_20 (by decide) (fun c_20 => ?_) (fun c_20 => ?_)
  · skip
    refine z_iconst CX (v := 2) dX5_leastFolds_28 (by decide) ?_
    refine z_goto CX 33 dX5_leastFolds_29 (by decide) ?_
    exact z_callSx CX htb hN dX5_leastFolds_33 cs_X5_42 (g_thr (i := 2) hl9 ⟨by omega, by omega⟩ rfl) rfl rfl (Nat.le_of_ble_eq_true rfl) ⟨Nat.le_of_ble_eq_true rfl, Nat.le_of_ble_eq_true rfl⟩ ⟨Nat.le_of_ble_eq_true rfl, Nat.le_of_ble_eq_true rfl⟩
  · skip
    refine z_iload_n CX 2 dX5_leastFolds_23 rfl rfl ?_
    refine z_iconst CX (v := 3) dX5_leastFolds_24 (by decide) ?_
    refine z_icmp_le CX 32 dX5_leastFolds_25 (by decide) (fun q9 => absurd q9 (fun q => h ⟨Int32.not_lt.mp c_20, q⟩)) (fun _ => ?_)
    refine z_iconst CX (v := 2) dX5_leastFolds_28 (by decide) ?_
    refine z_goto CX 33 dX5_leastFolds_29 (by decide) ?_
    exact z_callSx CX htb hN dX5_leastFolds_33 cs_X5_42 (g_thr (i := 2) hl9 ⟨by omega, by omega⟩ rfl) rfl rfl (Nat.le_of_ble_eq_true rfl) ⟨Nat.le_of_ble_eq_true rfl, Nat.le_of_ble_eq_true rfl⟩ ⟨Nat.le_of_ble_eq_true rfl, Nat.le_of_ble_eq_true rfl⟩
theorem lw10 {S m : Nat} : lwN S m = S / 10 ^ (5 * m) := by rw [lwN_e, Nat.pow_mul]
theorem lw_g {S m : Nat} (hS : S < 2 ^ 63) : (lN (lwN S m) - lN (lwN S m) / 100000 * 100000).toInt32 = nI (S / 10 ^ (5 * m) % 100000) := by
  rw [show (100000 : Int64) = lN 100000 from rfl, pk_lRem (Nat.lt_of_le_of_lt (lwN_le m) hS) (by omega) (by omega), lN_i, lw10]
theorem lw_0 {S N : Nat} (hS : S < 2 ^ 63) (hN : N ≤ 3) : (lN (lwN S N) = 0) ↔ lN S ≤ tnF (5 * N) - 1 := by
  have e : tnF (5 * N) - 1 = lN (10 ^ (5 * N) - 1) := by
    rw [tnF_e, show (1 : Int64) = lN 1 from rfl, lN_sub (Nat.pow_pos (by omega))]
  have h1 : 10 ^ (5 * N) ≤ 10 ^ 15 := Nat.pow_le_pow_right (by omega) (by omega)
  have h2 : 0 < 10 ^ (5 * N) := Nat.pow_pos (by omega)
  rw [e, pk_lLE hS (by omega), show (0 : Int64) = lN 0 from rfl, pk_lEQ (Nat.lt_of_le_of_lt (lwN_le N) hS) (by omega), lw10, Nat.div_eq_zero_iff]
  omega
set_option maxHeartbeats 4000000 in
set_option maxRecDepth 100000 in
theorem g_runScript {l : Launch} {w : Wt} {hs : Hs} {n : Option Nat} {k : Nat} {T : TXs} {C : TTs} {Y : HIs} {S : SHs} {f : Nat → Int32} {x : Int32} {z : Nat → Nat → Int32} (hO : OKr f) {N9 S9 : Nat} (hN : 1 ≤ N9 ∧ N9 ≤ 3) (hS : S9 < 2 ^ 63) (hz : lN S9 ≤ tnF (5 * N9) - 1) : ∃ C9 : TTs, Cn l w mX5_runScript 0 0 [.ref (wB w + k), .int (nI N9), .long (lN S9)] (GB w hs k T (nT f x z) C Y S) n (GB w hs k T (nT f x z) C9 Y S) n (some (.int (scR S9 N9 N9 0 f).1)) := by
  have h6 := hO.1.1.2.1
  have h9 := hO.2.2
  obtain ⟨V9, F9, hF⟩ : ∃ V9 F9, scR S9 N9 N9 0 f = (V9, F9) := ⟨_, _, rfl⟩
  refine ⟨nT F9 x z, ?_⟩
  rw [hF]
  refine Cn.of (d := mX5_runScript) (by decide +kernel) (Nat.le_of_ble_eq_true rfl) ?_
  intro p e R s m args below meth c CX
  replace CX : Ctx p s m args meth c R w RX5 "runScript" cX5_runScript 5 (some .int) 7 147 0 0 := CX
  show ZW p l e R s m args below meth c w 5 _ _ 0 0 (MQ below (Qn w _ _ _) args s 0 0 (wA w)) 0 [(0, .ref (wB w + k)), (1, .int _), (2, .long _)] []
  have LP : ∀ (j i : Nat) (tr : Nat → Int32), i + j = N9 → OKr tr → scR S9 N9 j i tr = (V9, F9) → ZW p l e R s m args below meth c w 5 (GB w hs k T (nT f x z) (nT tr x z) Y S) n 0 0 (MQ below (Qn w (GB w hs k T (nT f x z) (nT F9 x z) Y S) n (some (.int V9))) args s 0 0 (wA w)) 56 [(0, .ref (wB w + k)), (1, .int (nI N9)), (2, .long (lN S9)), (4, .int (nI i))] [] := by
    intro j
    induction j with
    | zero =>
      intro i tr hi hT e1
      refine z_iload CX dX5_runScript_56 rfl ?_
      refine z_iload_n CX 1 dX5_runScript_58 rfl rfl ?_
      refine z_icmp_ge CX 93 dX5_runScript_59 (by decide) (fun _ => ?_) (fun q9 => absurd (nI_le (by omega) (by omega)) q9)
      refine z_iconst CX (v := (-1 : Int32)) dX5_runScript_93 (by decide) ?_
      exact z_iret CX dX5_runScript_94 rfl (congrArg Value.int (show V9 = -1 from (congrArg Prod.fst e1).symm)) (by rw [show F9 = tr from (congrArg Prod.snd e1).symm]) (Or.inl rfl)
    | succ j ih =>
      intro i tr hi hT e1
      refine z_iload CX dX5_runScript_56 rfl ?_
      refine z_iload_n CX 1 dX5_runScript_58 rfl rfl ?_
      refine z_icmp_ge CX 93 dX5_runScript_59 (by decide) (fun q9 => absurd q9 (nI_ge (by omega) (by omega))) (fun _ => ?_)
      refine z_aload_n CX 0 dX5_runScript_62 rfl rfl ?_
      refine z_lload_n CX 2 dX5_runScript_63 rfl rfl ?_
      refine z_iload_n CX 1 dX5_runScript_64 rfl rfl ?_
      refine z_iconst CX (v := 1) dX5_runScript_65 (by decide) ?_
      refine z_isub CX dX5_runScript_66 ?_
      refine z_iload CX dX5_runScript_67 rfl ?_
      refine z_isub CX dX5_runScript_69 ?_
      rw [show nI N9 - 1 - nI i = nI (N9 - 1 - i) by rw [show nI N9 - 1 = nI (N9 - 1) from pk_sub (b := 1) (by omega), pk_sub (by omega)]]
      refine z_callS1 CX dX5_runScript_70 cs_X5_195 (g_low (N9 := N9 - 1 - i) hS (by omega)) rfl rfl (Nat.le_of_ble_eq_true rfl) ⟨Nat.le_of_ble_eq_true rfl, Nat.le_of_ble_eq_true rfl⟩ ⟨Nat.le_refl _, Nat.le_refl _⟩ ?_
      refine z_ldc2 CX (v := 100000) dX5_runScript_73 (wa_mem 734 (by decide +kernel) rfl) ?_
      refine z_lrem CX dX5_runScript_76 (by decide) ?_
      refine z_l2i CX dX5_runScript_77 rfl ?_
      rw [lw_g hS]
      refine z_callV1 CX dX5_runScript_78 cv_X5_201 (g_suc hT (G := (S9 / 10 ^ (5 * (N9 - 1 - i)) % 100000)) (Nat.mod_lt _ (by omega))) gb_0 rfl rfl (Nat.le_of_ble_eq_true rfl) ⟨Nat.le_of_ble_eq_true rfl, Nat.le_of_ble_eq_true rfl⟩ ⟨Nat.le_refl _, Nat.le_refl _⟩ ?_
      refine z_if_ne CX 87 dX5_runScript_81 (by decide) (fun c_81 => ?_) (fun c_81 => ?_)
      · skip
        refine z_iinc CX (v := nI (i + 1)) dX5_runScript_87 rfl (nI_1 i) (by decide) ?_
        refine z_goto CX 56 dX5_runScript_90 (by decide) ?_
        refine z_loc [(0, .ref (wB w + k)), (1, .int (nI N9)), (2, .long (lN S9)), (4, .int (nI (i + 1)))] ⟨rfl, rfl, rfl, rfl, trivial⟩ ?_
        exact ih (i + 1) _ (by omega) (cmdF_ok hT) (by rw [← e1, scR, if_pos (bI_t (b := (cmdF tr (S9 / 10 ^ (5 * (N9 - 1 - i)) % 100000)).1) c_81)])
      · skip
        refine z_iload CX dX5_runScript_84 rfl ?_
        exact z_iret CX dX5_runScript_86 rfl (congrArg Value.int (show V9 = nI i from (congrArg Prod.fst (e1.symm.trans (by rw [scR, if_neg (show ¬ (cmdF tr (S9 / 10 ^ (5 * (N9 - 1 - i)) % 100000)).1 = true from fun z => absurd ((congrArg bI z).symm.trans c_81) (by decide))]))))) (by rw [show F9 = (cmdF tr (S9 / 10 ^ (5 * (N9 - 1 - i)) % 100000)).2 from congrArg Prod.snd (e1.symm.trans (by rw [scR, if_neg (show ¬ (cmdF tr (S9 / 10 ^ (5 * (N9 - 1 - i)) % 100000)).1 = true from fun z => absurd ((congrArg bI z).symm.trans c_81) (by decide))]))]) (Or.inl rfl)
  refine z_iload_n CX 1 dX5_runScript_0 rfl rfl ?_
  refine z_iconst CX (v := 1) dX5_runScript_1 (by decide) ?_
  refine z_icmp_lt CX 10 dX5_runScript_2 (by decide) (fun q9 => absurd q9 (Int32.not_lt.mpr (nI_le (a := 1) hN.1 (by omega)))) (fun _ => ?_)
  refine z_iload_n CX 1 dX5_runScript_5 rfl rfl ?_
  refine z_iconst CX (v := 3) dX5_runScript_6 (by decide) ?_
  refine z_icmp_le CX 14 dX5_runScript_7 (by decide) (fun _ => ?_) (fun q9 => absurd (nI_le (b := 3) hN.2 (by omega)) q9)
  refine z_iconst CX (v := 0) dX5_runScript_14 (by decide) ?_
  refine z_callS0 CX dX5_runScript_15 cs_X5_42 g_thr0 rfl rfl (Nat.le_of_ble_eq_true rfl) ⟨Nat.le_of_ble_eq_true rfl, Nat.le_of_ble_eq_true rfl⟩ ⟨Nat.le_refl _, Nat.le_refl _⟩ ?_
  refine z_lload_n CX 2 dX5_runScript_18 rfl rfl ?_
  refine z_lconst CX (v := 0) dX5_runScript_19 (by decide) ?_
  refine z_lcmp CX dX5_runScript_20 ?_
  refine z_if_lt CX 34 dX5_runScript_21 (by decide) (fun q9 => absurd q9 (fun q => absurd ((lg_cmp_lt _ _).mp q) (Int64.not_lt.mpr (by rw [show (0 : Int64) = lN 0 from rfl, pk_lLE (by omega) hS]; omega)))) (fun _ => ?_)
  refine z_lload_n CX 2 dX5_runScript_24 rfl rfl ?_
  refine z_iload_n CX 1 dX5_runScript_25 rfl rfl ?_
  refine z_callS1 CX dX5_runScript_26 cs_X5_195 (g_low hS (by omega)) rfl rfl (Nat.le_of_ble_eq_true rfl) ⟨Nat.le_of_ble_eq_true rfl, Nat.le_of_ble_eq_true rfl⟩ ⟨Nat.le_refl _, Nat.le_refl _⟩ ?_
  refine z_lconst CX (v := 0) dX5_runScript_29 (by decide) ?_
  refine z_lcmp CX dX5_runScript_30 ?_
  refine z_if_eq CX 38 dX5_runScript_31 (by decide) (fun _ => ?_) (fun q9 => absurd ((lg_cmp_eq _ _).mpr ((lw_0 hS hN.2).mpr hz)) q9)
  refine z_iconst CX (v := 0) dX5_runScript_38 (by decide) ?_
  refine z_callS0 CX dX5_runScript_39 cs_X5_42 g_thr0 rfl rfl (Nat.le_of_ble_eq_true rfl) ⟨Nat.le_of_ble_eq_true rfl, Nat.le_of_ble_eq_true rfl⟩ ⟨Nat.le_refl _, Nat.le_refl _⟩ ?_
  refine z_aload_n CX 0 dX5_runScript_42 rfl rfl ?_
  refine z_get CX dX5_runScript_43 fg_X5_23 gb_0 rfl ?_
  refine z_aload_n CX 0 dX5_runScript_46 rfl rfl ?_
  refine z_get CX dX5_runScript_47 fg_X5_19 gb_0 rfl ?_
  refine z_callV0 CX dX5_runScript_50 cv_X5_183 (g_cp hO.2.1.u01.symm) gb_c0 rfl rfl (Nat.le_of_ble_eq_true rfl) ⟨Nat.le_of_ble_eq_true rfl, Nat.le_of_ble_eq_true rfl⟩ ⟨Nat.le_refl _, Nat.le_refl _⟩ ?_
  refine z_iconst CX (v := 0) dX5_runScript_53 (by decide) ?_
  refine z_istore CX dX5_runScript_54 (by decide) ?_
  refine z_loc [(0, .ref (wB w + k)), (1, .int (nI N9)), (2, .long (lN S9)), (4, .int (nI 0))] ⟨rfl, rfl, rfl, rfl, trivial⟩ ?_
  exact LP N9 0 f (by omega) hO hF
set_option maxHeartbeats 4000000 in
set_option maxRecDepth 100000 in
theorem gx_runScript2a {l : Launch} {w : Wt} {hs : Hs} {n : Option Nat} {k : Nat} {T : TXs} {C : TTs} {Y : HIs} {S : SHs} {f : Nat → Int32} {x : Int32} {z : Nat → Nat → Int32} {a : Int32} {b : Int64} (h : ¬ (1 ≤ a ∧ a ≤ 3)) (hl9 : l.stackTraces = false) : Cx l w mX5_runScript 1 6 [.ref (wB w + k), .int a, .long b] (GB w hs k T (nT f x z) C Y S) n (GB w hs k T (nT f x z) C Y S) (exN 2) := by
  refine Cx.of (d := mX5_runScript) (by decide +kernel) (Nat.le_of_ble_eq_true rfl) ?_
  intro p e R s m args below meth c CX htb hN
  replace CX : Ctx p s m args meth c R w RX5 "runScript" cX5_runScript 5 (some .int) 7 147 1 6 := CX
  show ZW p l e R s m args below meth c w 5 _ _ 0 0 _ 0 [(0, .ref (wB w + k)), (1, .int _), (2, .long _)] []
  refine z_iload_n CX 1 dX5_runScript_0 rfl rfl ?_
  refine z_iconst CX (v := 1) dX5_runScript_1 (by decide) ?_
  refine z_icmp_lt CX 10 dX5_runScript_2 (by decide) (fun c_2 => ?_) (fun c_2 => ?_)
  · skip
    refine z_iconst CX (v := 2) dX5_runScript_10 (by decide) ?_
    refine z_goto CX 15 dX5_runScript_11 (by decide) ?_
    exact z_callSx CX htb hN dX5_runScript_15 cs_X5_42 (g_thr (i := 2) hl9 ⟨by omega, by omega⟩ rfl) rfl rfl (Nat.le_of_ble_eq_true rfl) ⟨Nat.le_of_ble_eq_true rfl, Nat.le_of_ble_eq_true rfl⟩ ⟨Nat.le_of_ble_eq_true rfl, Nat.le_of_ble_eq_true rfl⟩
  · skip
    refine z_iload_n CX 1 dX5_runScript_5 rfl rfl ?_
    refine z_iconst CX (v := 3) dX5_runScript_6 (by decide) ?_
    refine z_icmp_le CX 14 dX5_runScript_7 (by decide) (fun q9 => absurd q9 (fun q => h ⟨Int32.not_lt.mp c_2, q⟩)) (fun _ => ?_)
    refine z_iconst CX (v := 2) dX5_runScript_10 (by decide) ?_
    refine z_goto CX 15 dX5_runScript_11 (by decide) ?_
    exact z_callSx CX htb hN dX5_runScript_15 cs_X5_42 (g_thr (i := 2) hl9 ⟨by omega, by omega⟩ rfl) rfl rfl (Nat.le_of_ble_eq_true rfl) ⟨Nat.le_of_ble_eq_true rfl, Nat.le_of_ble_eq_true rfl⟩ ⟨Nat.le_of_ble_eq_true rfl, Nat.le_of_ble_eq_true rfl⟩
set_option maxHeartbeats 4000000 in
set_option maxRecDepth 100000 in
theorem gx_runScript2b {l : Launch} {w : Wt} {hs : Hs} {n : Option Nat} {k : Nat} {T : TXs} {C : TTs} {Y : HIs} {S : SHs} {f : Nat → Int32} {x : Int32} {z : Nat → Nat → Int32} {a : Int32} {b : Int64} (h : 1 ≤ a ∧ a ≤ 3) (hb : b < 0) (hl9 : l.stackTraces = false) : Cx l w mX5_runScript 1 6 [.ref (wB w + k), .int a, .long b] (GB w hs k T (nT f x z) C Y S) n (GB w hs k T (nT f x z) C Y S) (exN 2) := by
  refine Cx.of (d := mX5_runScript) (by decide +kernel) (Nat.le_of_ble_eq_true rfl) ?_
  intro p e R s m args below meth c CX htb hN
  replace CX : Ctx p s m args meth c R w RX5 "runScript" cX5_runScript 5 (some .int) 7 147 1 6 := CX
  show ZW p l e R s m args below meth c w 5 _ _ 0 0 _ 0 [(0, .ref (wB w + k)), (1, .int _), (2, .long _)] []
  refine z_iload_n CX 1 dX5_runScript_0 rfl rfl ?_
  refine z_iconst CX (v := 1) dX5_runScript_1 (by decide) ?_
  refine z_icmp_lt CX 10 dX5_runScript_2 (by decide) (fun q9 => absurd q9 (Int32.not_lt.mpr h.1)) (fun _ => ?_)
  refine z_iload_n CX 1 dX5_runScript_5 rfl rfl ?_
  refine z_iconst CX (v := 3) dX5_runScript_6 (by decide) ?_
  refine z_icmp_le CX 14 dX5_runScript_7 (by decide) (fun _ => ?_) (fun q9 => absurd h.2 q9)
  refine z_iconst CX (v := 0) dX5_runScript_14 (by decide) ?_
  refine z_callS0 CX dX5_runScript_15 cs_X5_42 g_thr0 rfl rfl (Nat.le_of_ble_eq_true rfl) ⟨Nat.le_of_ble_eq_true rfl, Nat.le_of_ble_eq_true rfl⟩ ⟨Nat.le_of_ble_eq_true rfl, Nat.le_of_ble_eq_true rfl⟩ ?_
  refine z_lload_n CX 2 dX5_runScript_18 rfl rfl ?_
  refine z_lconst CX (v := 0) dX5_runScript_19 (by decide) ?_
  refine z_lcmp CX dX5_runScript_20 ?_
  refine z_if_lt CX 34 dX5_runScript_21 (by decide) (fun _ => ?_) (fun q9 => absurd ((lg_cmp_lt _ _).mpr hb) q9)
  refine z_iconst CX (v := 2) dX5_runScript_34 (by decide) ?_
  refine z_goto CX 39 dX5_runScript_35 (by decide) ?_
  exact z_callSx CX htb hN dX5_runScript_39 cs_X5_42 (g_thr (i := 2) hl9 ⟨by omega, by omega⟩ rfl) rfl rfl (Nat.le_of_ble_eq_true rfl) ⟨Nat.le_of_ble_eq_true rfl, Nat.le_of_ble_eq_true rfl⟩ ⟨Nat.le_of_ble_eq_true rfl, Nat.le_of_ble_eq_true rfl⟩
set_option maxHeartbeats 4000000 in
set_option maxRecDepth 100000 in
theorem gx_runScript2c {l : Launch} {w : Wt} {hs : Hs} {n : Option Nat} {k : Nat} {T : TXs} {C : TTs} {Y : HIs} {S : SHs} {f : Nat → Int32} {x : Int32} {z : Nat → Nat → Int32} {N9 S9 : Nat} (hN9 : 1 ≤ N9 ∧ N9 ≤ 3) (hS : S9 < 2 ^ 63) (hz : ¬ lN S9 ≤ tnF (5 * N9) - 1) (hl9 : l.stackTraces = false) : Cx l w mX5_runScript 1 6 [.ref (wB w + k), .int (nI N9), .long (lN S9)] (GB w hs k T (nT f x z) C Y S) n (GB w hs k T (nT f x z) C Y S) (exN 2) := by
  refine Cx.of (d := mX5_runScript) (by decide +kernel) (Nat.le_of_ble_eq_true rfl) ?_
  intro p e R s m args below meth c CX htb hN
  replace CX : Ctx p s m args meth c R w RX5 "runScript" cX5_runScript 5 (some .int) 7 147 1 6 := CX
  show ZW p l e R s m args below meth c w 5 _ _ 0 0 _ 0 [(0, .ref (wB w + k)), (1, .int _), (2, .long _)] []
  refine z_iload_n CX 1 dX5_runScript_0 rfl rfl ?_
  refine z_iconst CX (v := 1) dX5_runScript_1 (by decide) ?_
  refine z_icmp_lt CX 10 dX5_runScript_2 (by decide) (fun q9 => absurd q9 (Int32.not_lt.mpr (nI_le (a := 1) hN9.1 (by omega)))) (fun _ => ?_)
  refine z_iload_n CX 1 dX5_runScript_5 rfl rfl ?_
  refine z_iconst CX (v := 3) dX5_runScript_6 (by decide) ?_
  refine z_icmp_le CX 14 dX5_runScript_7 (by decide) (fun _ => ?_) (fun q9 => absurd (nI_le (b := 3) hN9.2 (by omega)) q9)
  refine z_iconst CX (v := 0) dX5_runScript_14 (by decide) ?_
  refine z_callS0 CX dX5_runScript_15 cs_X5_42 g_thr0 rfl rfl (Nat.le_of_ble_eq_true rfl) ⟨Nat.le_of_ble_eq_true rfl, Nat.le_of_ble_eq_true rfl⟩ ⟨Nat.le_of_ble_eq_true rfl, Nat.le_of_ble_eq_true rfl⟩ ?_
  refine z_lload_n CX 2 dX5_runScript_18 rfl rfl ?_
  refine z_lconst CX (v := 0) dX5_runScript_19 (by decide) ?_
  refine z_lcmp CX dX5_runScript_20 ?_
  refine z_if_lt CX 34 dX5_runScript_21 (by decide) (fun q9 => absurd q9 (fun q => absurd ((lg_cmp_lt _ _).mp q) (Int64.not_lt.mpr (by rw [show (0 : Int64) = lN 0 from rfl, pk_lLE (by omega) hS]; omega)))) (fun _ => ?_)
  refine z_lload_n CX 2 dX5_runScript_24 rfl rfl ?_
  refine z_iload_n CX 1 dX5_runScript_25 rfl rfl ?_
  refine z_callS1 CX dX5_runScript_26 cs_X5_195 (g_low hS (by omega)) rfl rfl (Nat.le_of_ble_eq_true rfl) ⟨Nat.le_of_ble_eq_true rfl, Nat.le_of_ble_eq_true rfl⟩ ⟨Nat.le_of_ble_eq_true rfl, Nat.le_of_ble_eq_true rfl⟩ ?_
  refine z_lconst CX (v := 0) dX5_runScript_29 (by decide) ?_
  refine z_lcmp CX dX5_runScript_30 ?_
  refine z_if_eq CX 38 dX5_runScript_31 (by decide) (fun q9 => absurd q9 (fun q => hz ((lw_0 hS hN9.2).mp ((lg_cmp_eq _ _).mp q)))) (fun _ => ?_)
  refine z_iconst CX (v := 2) dX5_runScript_34 (by decide) ?_
  refine z_goto CX 39 dX5_runScript_35 (by decide) ?_
  exact z_callSx CX htb hN dX5_runScript_39 cs_X5_42 (g_thr (i := 2) hl9 ⟨by omega, by omega⟩ rfl) rfl rfl (Nat.le_of_ble_eq_true rfl) ⟨Nat.le_of_ble_eq_true rfl, Nat.le_of_ble_eq_true rfl⟩ ⟨Nat.le_of_ble_eq_true rfl, Nat.le_of_ble_eq_true rfl⟩
set_option maxHeartbeats 4000000 in
set_option maxRecDepth 100000 in
theorem g_sim0 {l : Launch} {w : Wt} {hs : Hs} {n : Option Nat} {k : Nat} {T : TXs} {C : TTs} {Y : HIs} {S : SHs} {f : Nat → Int32} {x : Int32} {z : Nat → Nat → Int32} (hO : OKr f) {N9 : Nat} (hN : 1 ≤ N9 ∧ N9 ≤ 60) (nx : Int64 → Int64) (sx : Int64 → Int32) (hnx : ∀ x : Int64, x * 6364136223846793005 + 1442695040888963407 = nx x) (hsx : ∀ x : Int64, ((x.toUInt64 >>> ((33 : Int32).toInt64.toUInt64 &&& Int64.toUInt64 63)).toInt64).toInt32 = sx x) (z9 : Int64) : ∃ C9 : TTs, Cn l w mX5_simulate 0 0 [.ref (wB w + k), .long z9, .int (nI N9)] (GB w hs k T (nT f x z) C Y S) n (GB w hs k T (nT f x z) C9 Y S) n (some (.int (smV f (itR nx sx N9 z9 f)))) := by
  have h6 := hO.1.1.2.1
  have h9 := hO.2.2
  obtain ⟨F9, hF⟩ : ∃ F9, itR nx sx N9 z9 f = F9 := ⟨_, rfl⟩
  have hT : OKr F9 := hF ▸ itR_ok N9 z9 f hO
  refine ⟨nT F9 x z, ?_⟩
  rw [hF]
  refine Cn.of (d := mX5_simulate) (by decide +kernel) (Nat.le_of_ble_eq_true rfl) ?_
  intro p e R s m args below meth c CX
  replace CX : Ctx p s m args meth c R w RX5 "simulate" cX5_simulate 7 (some .int) 7 143 0 0 := CX
  show ZW p l e R s m args below meth c w 7 _ _ 0 0 (MQ below (Qn w _ _ _) args s 0 0 (wA w)) 0 [(0, .ref (wB w + k)), (1, .long _), (3, .int _)] []
  have LP : ∀ (j i : Nat) (y : Int64) (tr : Nat → Int32), i + j = N9 → OKr tr → itR nx sx j y tr = F9 → ZW p l e R s m args below meth c w 7 (GB w hs k T (nT f x z) (nT tr x z) Y S) n 0 0 (MQ below (Qn w (GB w hs k T (nT f x z) (nT F9 x z) Y S) n (some (.int (smV f F9)))) args s 0 0 (wA w)) 36 [(0, .ref (wB w + k)), (1, .long z9), (3, .int (nI N9)), (4, .long y), (6, .int (nI i))] [] := by
    intro j
    induction j with
    | zero =>
      intro i y tr hi hT9 e1
      have e2 : tr = F9 := e1
      subst e2
      refine z_iload CX dX5_simulate_36 rfl ?_
      refine z_iload_n CX 3 dX5_simulate_38 rfl rfl ?_
      refine z_icmp_ge CX 70 dX5_simulate_39 (by decide) (fun _ => ?_) (fun q9 => absurd (nI_le (by omega) (by omega)) q9)
      refine z_sipush CX (v := 10000) dX5_simulate_70 (by decide) ?_
      refine z_aload_n CX 0 dX5_simulate_73 rfl rfl ?_
      refine z_get CX dX5_simulate_74 fg_X5_23 gb_0 rfl ?_
      refine z_get CX dX5_simulate_77 fg_X5_211 gb_c0 rfl ?_
      refine z_aload_n CX 0 dX5_simulate_80 rfl rfl ?_
      refine z_get CX dX5_simulate_81 fg_X5_19 gb_0 rfl ?_
      refine z_get CX dX5_simulate_84 fg_X5_211 gb_n0 rfl ?_
      refine z_isub CX dX5_simulate_87 ?_
      refine z_imul CX dX5_simulate_88 ?_
      refine z_bipush CX (v := 100) dX5_simulate_89 (by decide) ?_
      refine z_aload_n CX 0 dX5_simulate_91 rfl rfl ?_
      refine z_get CX dX5_simulate_92 fg_X5_23 gb_0 rfl ?_
      refine z_get CX dX5_simulate_95 fg_X5_214 gb_c0 rfl ?_
      refine z_iconst CX (v := 0) dX5_simulate_98 (by decide) ?_
      refine z_callV1 CX dX5_simulate_99 cv_X5_217 (Cn.gC hO_sum) gb_c5 rfl rfl (Nat.le_of_ble_eq_true rfl) ⟨Nat.le_of_ble_eq_true rfl, Nat.le_of_ble_eq_true rfl⟩ ⟨Nat.le_refl _, Nat.le_refl _⟩ ?_
      refine z_bipush CX (v := 100) dX5_simulate_102 (by decide) ?_
      refine z_irem CX dX5_simulate_104 (by decide) ?_
      refine z_imul CX dX5_simulate_105 ?_
      refine z_iadd CX dX5_simulate_106 ?_
      refine z_aload_n CX 0 dX5_simulate_107 rfl rfl ?_
      refine z_get CX dX5_simulate_108 fg_X5_23 gb_0 rfl ?_
      refine z_get CX dX5_simulate_111 fg_X5_90 gb_c0 rfl ?_
      refine z_iconst CX (v := 3) dX5_simulate_114 (by decide) ?_
      refine z_iconst CX (v := 3) dX5_simulate_115 (by decide) ?_
      refine z_callV1 CX dX5_simulate_116 cv_X5_220 (Cn.gC (hB_cnt hT9.1 (c := 3) (by omega) (by decide) 3)) gb_c3 rfl rfl (Nat.le_of_ble_eq_true rfl) ⟨Nat.le_of_ble_eq_true rfl, Nat.le_of_ble_eq_true rfl⟩ ⟨Nat.le_refl _, Nat.le_refl _⟩ ?_
      refine z_iadd CX dX5_simulate_119 ?_
      exact z_iret CX dX5_simulate_120 rfl rfl rfl (Or.inl rfl)
    | succ j ih =>
      intro i y tr hi hT9 e1
      refine z_iload CX dX5_simulate_36 rfl ?_
      refine z_iload_n CX 3 dX5_simulate_38 rfl rfl ?_
      refine z_icmp_ge CX 70 dX5_simulate_39 (by decide) (fun q9 => absurd q9 (nI_ge (by omega) (by omega))) (fun _ => ?_)
      refine z_lload CX dX5_simulate_42 rfl ?_
      refine z_ldc2 CX (v := 6364136223846793005) dX5_simulate_44 (wa_mem 748 (by decide +kernel) rfl) ?_
      refine z_lmul CX dX5_simulate_47 ?_
      refine z_ldc2 CX (v := 1442695040888963407) dX5_simulate_48 (wa_mem 749 (by decide +kernel) rfl) ?_
      refine z_ladd CX dX5_simulate_51 ?_
      rw [hnx y]
      refine z_lstore CX dX5_simulate_52 (by decide) ?_
      refine z_aload_n CX 0 dX5_simulate_54 rfl rfl ?_
      refine z_lload CX dX5_simulate_55 rfl ?_
      refine z_bipush CX (v := 33) dX5_simulate_57 (by decide) ?_
      refine z_lushr CX dX5_simulate_59 rfl ?_
      refine z_l2i CX dX5_simulate_60 rfl ?_
      refine z_stk (congrArg (fun z => [Value.int z, Value.ref (wB w + k)]) (hsx (nx y))) ?_
      refine z_callV0 CX dX5_simulate_61 cv_X5_208 (g_turn hT9 _) gb_0 rfl rfl (Nat.le_of_ble_eq_true rfl) ⟨Nat.le_of_ble_eq_true rfl, Nat.le_of_ble_eq_true rfl⟩ ⟨Nat.le_refl _, Nat.le_refl _⟩ ?_
      refine z_iinc CX (v := nI (i + 1)) dX5_simulate_64 rfl (nI_1 i) (by decide) ?_
      refine z_goto CX 36 dX5_simulate_67 (by decide) ?_
      refine z_loc [(0, .ref (wB w + k)), (1, .long z9), (3, .int (nI N9)), (4, .long (nx y)), (6, .int (nI (i + 1)))] ⟨rfl, rfl, rfl, rfl, rfl, trivial⟩ ?_
      exact ih (i + 1) _ _ (by omega) (stF_ok hT9) (by rw [← itR_s]; exact e1)
  refine z_iload_n CX 3 dX5_simulate_0 rfl rfl ?_
  refine z_iconst CX (v := 1) dX5_simulate_1 (by decide) ?_
  refine z_icmp_lt CX 11 dX5_simulate_2 (by decide) (fun q9 => absurd q9 (Int32.not_lt.mpr (nI_le (a := 1) hN.1 (by omega)))) (fun _ => ?_)
  refine z_iload_n CX 3 dX5_simulate_5 rfl rfl ?_
  refine z_bipush CX (v := 60) dX5_simulate_6 (by decide) ?_
  refine z_icmp_le CX 15 dX5_simulate_8 (by decide) (fun _ => ?_) (fun q9 => absurd (nI_le (b := 60) hN.2 (by omega)) q9)
  refine z_iconst CX (v := 0) dX5_simulate_15 (by decide) ?_
  refine z_callS0 CX dX5_simulate_16 cs_X5_42 g_thr0 rfl rfl (Nat.le_of_ble_eq_true rfl) ⟨Nat.le_of_ble_eq_true rfl, Nat.le_of_ble_eq_true rfl⟩ ⟨Nat.le_refl _, Nat.le_refl _⟩ ?_
  refine z_aload_n CX 0 dX5_simulate_19 rfl rfl ?_
  refine z_get CX dX5_simulate_20 fg_X5_23 gb_0 rfl ?_
  refine z_aload_n CX 0 dX5_simulate_23 rfl rfl ?_
  refine z_get CX dX5_simulate_24 fg_X5_19 gb_0 rfl ?_
  refine z_callV0 CX dX5_simulate_27 cv_X5_183 (g_cp hO.2.1.u01.symm) gb_c0 rfl rfl (Nat.le_of_ble_eq_true rfl) ⟨Nat.le_of_ble_eq_true rfl, Nat.le_of_ble_eq_true rfl⟩ ⟨Nat.le_refl _, Nat.le_refl _⟩ ?_
  refine z_lload_n CX 1 dX5_simulate_30 rfl rfl ?_
  refine z_lstore CX dX5_simulate_31 (by decide) ?_
  refine z_iconst CX (v := 0) dX5_simulate_33 (by decide) ?_
  refine z_istore CX dX5_simulate_34 (by decide) ?_
  refine z_loc [(0, .ref (wB w + k)), (1, .long z9), (3, .int (nI N9)), (4, .long z9), (6, .int (nI 0))] ⟨rfl, rfl, rfl, rfl, rfl, trivial⟩ ?_
  exact LP N9 0 z9 f (by omega) hO hF
theorem g_simulate {l : Launch} {w : Wt} {hs : Hs} {n : Option Nat} {k : Nat} {T : TXs} {C : TTs} {Y : HIs} {S : SHs} {f : Nat → Int32} {x : Int32} {z : Nat → Nat → Int32} (hO : OKr f) {N9 : Nat} (hN : 1 ≤ N9 ∧ N9 ≤ 60) (z9 : Int64) : ∃ C9 : TTs, Cn l w mX5_simulate 0 0 [.ref (wB w + k), .long z9, .int (nI N9)] (GB w hs k T (nT f x z) C Y S) n (GB w hs k T (nT f x z) C9 Y S) n (some (.int (smV f (itR nxF sxF N9 z9 f)))) := g_sim0 hO hN nxF sxF (fun _ => rfl) (fun _ => rfl) z9
set_option maxHeartbeats 4000000 in
set_option maxRecDepth 100000 in
theorem gx_simulate2 {l : Launch} {w : Wt} {hs : Hs} {n : Option Nat} {k : Nat} {T : TXs} {C : TTs} {Y : HIs} {S : SHs} {f : Nat → Int32} {x : Int32} {z : Nat → Nat → Int32} {a : Int64} {b : Int32} (h : ¬ (1 ≤ b ∧ b ≤ 60)) (hl9 : l.stackTraces = false) : Cx l w mX5_simulate 1 6 [.ref (wB w + k), .long a, .int b] (GB w hs k T (nT f x z) C Y S) n (GB w hs k T (nT f x z) C Y S) (exN 2) := by
  refine Cx.of (d := mX5_simulate) (by decide +kernel) (Nat.le_of_ble_eq_true rfl) ?_
  intro p e R s m args below meth c CX htb hN
  replace CX : Ctx p s m args meth c R w RX5 "simulate" cX5_simulate 7 (some .int) 7 143 1 6 := CX
  show ZW p l e R s m args below meth c w 7 _ _ 0 0 _ 0 [(0, .ref (wB w + k)), (1, .long _), (3, .int _)] []
  refine z_iload_n CX 3 dX5_simulate_0 rfl rfl ?_
  refine z_iconst CX (v := 1) dX5_simulate_1 (by decide) ?_
  refine z_icmp_lt CX 11 dX5_simulate_2 (by decide) (fun c_2 => ?_) (fun c_2 => ?_)
  · skip
    refine z_iconst CX (v := 2) dX5_simulate_11 (by decide) ?_
    refine z_goto CX 16 dX5_simulate_12 (by decide) ?_
    exact z_callSx CX htb hN dX5_simulate_16 cs_X5_42 (g_thr (i := 2) hl9 ⟨by omega, by omega⟩ rfl) rfl rfl (Nat.le_of_ble_eq_true rfl) ⟨Nat.le_of_ble_eq_true rfl, Nat.le_of_ble_eq_true rfl⟩ ⟨Nat.le_of_ble_eq_true rfl, Nat.le_of_ble_eq_true rfl⟩
  · skip
    refine z_iload_n CX 3 dX5_simulate_5 rfl rfl ?_
    refine z_bipush CX (v := 60) dX5_simulate_6 (by decide) ?_
    refine z_icmp_le CX 15 dX5_simulate_8 (by decide) (fun q9 => absurd q9 (fun q => h ⟨Int32.not_lt.mp c_2, q⟩)) (fun _ => ?_)
    refine z_iconst CX (v := 2) dX5_simulate_11 (by decide) ?_
    refine z_goto CX 16 dX5_simulate_12 (by decide) ?_
    exact z_callSx CX htb hN dX5_simulate_16 cs_X5_42 (g_thr (i := 2) hl9 ⟨by omega, by omega⟩ rfl) rfl rfl (Nat.le_of_ble_eq_true rfl) ⟨Nat.le_of_ble_eq_true rfl, Nat.le_of_ble_eq_true rfl⟩ ⟨Nat.le_of_ble_eq_true rfl, Nat.le_of_ble_eq_true rfl⟩
