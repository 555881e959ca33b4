/-! the model: the end of a heat, minutes -/
set_option maxHeartbeats 4000000 in
set_option maxRecDepth 100000 in
theorem c_endH {l : Launch} {w : Wt} {hs : Hs} {n : Option Nat} {a : Nat} {f : Nat → Int32} {nb : Nat} (hf : f 147 = nI nb) (h9 : nb ≤ 11) (hO : ∀ b, b < nb → ∃ O, O ≤ 3 ∧ f (24 + 10 * b + 2) = nI O) : Cn l w mX6_endHeat 0 0 [.ref (wB w + a)] (rowH w hs a f) n (rowH w hs a (ehe f nb)) n (some (.int (eht f nb).1)) := by
  refine Cn.of (d := mX6_endHeat) (by decide +kernel) (Nat.le_of_ble_eq_true rfl) ?_
  intro p e R s m args below meth c CX
  replace CX : Ctx p s m args meth c R w RX6 "endHeat" cX6_endHeat 3 (some .int) 2 41 0 0 := CX
  show ZW p l e R s m args below meth c w 3 _ _ 0 0 (MQ below (Qn w _ _ _) args s 0 0 (wA w)) 0 [(0, .ref (wB w + a))] []
  have TL : ZW p l e R s m args below meth c w 3 (rowH w hs a (eht f nb).2) n 0 0 (MQ below (Qn w (rowH w hs a (ehe f nb)) n (some (.int (eht f nb).1))) args s 0 0 (wA w)) 56 [(0, .ref (wB w + a)), (1, .int (eht f nb).1)] [] := by
    rcases eht_1 (f := f) nb with ⟨e1, -⟩ | ⟨b9, hb9, e1, e3, e7⟩
    · rw [e1]
      refine z_iload_n CX 1 dX6_endHeat_56 rfl rfl ?_
      refine z_iconst CX (v := (-1 : Int32)) dX6_endHeat_57 (by decide) ?_
      refine z_icmp_eq CX 103 dX6_endHeat_58 (by decide) (fun _ => ?_) (fun q9 => absurd rfl q9)
      refine z_aload_n CX 0 dX6_endHeat_103 rfl rfl ?_
      refine z_sipush CX (v := 150) dX6_endHeat_104 (by decide) ?_
      refine z_iconst CX (v := 0) dX6_endHeat_107 (by decide) ?_
      refine z_is CX (j := 150) dX6_endHeat_108 row_0 rfl (by omega) (by decide) ?_
      refine z_heap row_u ?_
      refine z_aload_n CX 0 dX6_endHeat_109 rfl rfl ?_
      refine z_sipush CX (v := 153) dX6_endHeat_110 (by decide) ?_
      refine z_iconst CX (v := 0) dX6_endHeat_113 (by decide) ?_
      refine z_is CX (j := 153) dX6_endHeat_114 row_0 rfl (by omega) (by decide) ?_
      refine z_heap row_u ?_
      refine z_iload_n CX 1 dX6_endHeat_115 rfl rfl ?_
      exact z_iret CX dX6_endHeat_116 rfl rfl (by unfold ehe; rw [if_pos e1]) (Or.inl rfl)
    · rw [e1]
      obtain ⟨O, o1, o3⟩ := hO b9 hb9
      have o2 : (eht f nb).2 (24 + 10 * b9 + 2) = nI O := (eht_n nb (fun b hb => by omega)).trans o3
      refine z_iload_n CX 1 dX6_endHeat_56 rfl rfl ?_
      refine z_iconst CX (v := (-1 : Int32)) dX6_endHeat_57 (by decide) ?_
      refine z_icmp_eq CX 103 dX6_endHeat_58 (by decide) (fun q9 => absurd q9 (nI_nm1 (by omega))) (fun _ => ?_)
      refine z_aload_n CX 0 dX6_endHeat_61 rfl rfl ?_
      refine z_sipush CX (v := 134) dX6_endHeat_62 (by decide) ?_
      refine z_iconst CX (v := 3) dX6_endHeat_65 (by decide) ?_
      refine z_aload_n CX 0 dX6_endHeat_66 rfl rfl ?_
      refine z_iload_n CX 1 dX6_endHeat_67 rfl rfl ?_
      refine z_callS1 CX dX6_endHeat_68 cs_X6_60 (c_spot b9) rfl rfl (Nat.le_of_ble_eq_true rfl) ⟨Nat.le_of_ble_eq_true rfl, Nat.le_of_ble_eq_true rfl⟩ ⟨Nat.le_refl _, Nat.le_refl _⟩ ?_
      refine z_iconst CX (v := 2) dX6_endHeat_71 (by decide) ?_
      refine z_iadd CX dX6_endHeat_72 ?_
      refine z_ia CX (j := ((24 + 10 * b9) + 2)) dX6_endHeat_73 row_0 (ix_add rfl rfl) (by omega) (by decide) ?_
      refine z_imul CX dX6_endHeat_74 ?_
      refine z_iadd CX dX6_endHeat_75 ?_
      refine z_dup2 CX dX6_endHeat_76 rfl rfl ?_
      refine z_ia CX (j := (134 + (3 * O))) dX6_endHeat_77 row_0 (ix_add rfl (ix_mul rfl o2)) (by omega) (by decide) ?_
      refine z_iconst CX (v := 3) dX6_endHeat_78 (by decide) ?_
      refine z_iadd CX dX6_endHeat_79 ?_
      refine z_is CX (j := (134 + (3 * O))) dX6_endHeat_80 row_0 (ix_add rfl (ix_mul rfl o2)) (by omega) (by decide) ?_
      refine z_heap row_u ?_
      refine z_aload_n CX 0 dX6_endHeat_81 rfl rfl ?_
      refine z_iload_n CX 1 dX6_endHeat_82 rfl rfl ?_
      refine z_callS1 CX dX6_endHeat_83 cs_X6_60 (c_spot b9) rfl rfl (Nat.le_of_ble_eq_true rfl) ⟨Nat.le_of_ble_eq_true rfl, Nat.le_of_ble_eq_true rfl⟩ ⟨Nat.le_refl _, Nat.le_refl _⟩ ?_
      refine z_bipush CX (v := 8) dX6_endHeat_86 (by decide) ?_
      refine z_iadd CX dX6_endHeat_88 ?_
      refine z_dup2 CX dX6_endHeat_89 rfl rfl ?_
      refine z_ia CX (j := ((24 + 10 * b9) + 8)) dX6_endHeat_90 row_0 (ix_add rfl rfl) (by omega) (by decide) ?_
      refine z_iconst CX (v := 1) dX6_endHeat_91 (by decide) ?_
      refine z_iadd CX dX6_endHeat_92 ?_
      refine z_is CX (j := ((24 + 10 * b9) + 8)) dX6_endHeat_93 row_0 (ix_add rfl rfl) (by omega) (by decide) ?_
      refine z_heap row_u ?_
      refine z_aload_n CX 0 dX6_endHeat_94 rfl rfl ?_
      refine z_sipush CX (v := 151) dX6_endHeat_95 (by decide) ?_
      refine z_dup2 CX dX6_endHeat_98 rfl rfl ?_
      refine z_ia CX (j := 151) dX6_endHeat_99 row_0 rfl (by omega) (by decide) ?_
      refine z_iconst CX (v := 1) dX6_endHeat_100 (by decide) ?_
      refine z_iadd CX dX6_endHeat_101 ?_
      refine z_is CX (j := 151) dX6_endHeat_102 row_0 rfl (by omega) (by decide) ?_
      refine z_heap row_u ?_
      refine z_aload_n CX 0 dX6_endHeat_103 rfl rfl ?_
      refine z_sipush CX (v := 150) dX6_endHeat_104 (by decide) ?_
      refine z_iconst CX (v := 0) dX6_endHeat_107 (by decide) ?_
      refine z_is CX (j := 150) dX6_endHeat_108 row_0 rfl (by omega) (by decide) ?_
      refine z_heap row_u ?_
      refine z_aload_n CX 0 dX6_endHeat_109 rfl rfl ?_
      refine z_sipush CX (v := 153) dX6_endHeat_110 (by decide) ?_
      refine z_iconst CX (v := 0) dX6_endHeat_113 (by decide) ?_
      refine z_is CX (j := 153) dX6_endHeat_114 row_0 rfl (by omega) (by decide) ?_
      refine z_heap row_u ?_
      refine z_iload_n CX 1 dX6_endHeat_115 rfl rfl ?_
      exact z_iret CX dX6_endHeat_116 rfl rfl (by unfold ehe; rw [if_neg (show ¬ (eht f nb).1 = -1 by rw [e1]; exact nI_nm1 (by omega)), e1, nI_clamp (by omega)]; unfold ehw; rw [o2, nI_clamp (by omega)]; simp only [pk_us, pk_un (show 24 + 10 * b9 + 8 ≠ 134 + 3 * O by omega), pk_un (show 151 ≠ 24 + 10 * b9 + 8 by omega), pk_un (show 151 ≠ 134 + 3 * O by omega)]) (Or.inl rfl)
  have LP : ∀ (j i : Nat), i + j = nb → ZW p l e R s m args below meth c w 3 (rowH w hs a (eht f i).2) n 0 0 (MQ below (Qn w (rowH w hs a (ehe f nb)) n (some (.int (eht f nb).1))) args s 0 0 (wA w)) 4 [(0, .ref (wB w + a)), (1, .int (eht f i).1), (2, .int (nI i))] [] := by
    intro j
    induction j with
    | zero =>
      intro i hi
      refine z_iload_n CX 2 dX6_endHeat_4 rfl rfl ?_
      refine z_aload_n CX 0 dX6_endHeat_5 rfl rfl ?_
      refine z_sipush CX (v := 147) dX6_endHeat_6 (by decide) ?_
      refine z_ia CX (j := 147) dX6_endHeat_9 row_0 rfl (by omega) (by decide) ?_
      rw [show (eht f i).2 147 = nI nb from (eht_n i (fun b hb => by omega)).trans hf]
      refine z_icmp_ge CX 56 dX6_endHeat_10 (by decide) (fun _ => ?_) (fun q9 => absurd (nI_le (by omega) (by omega)) q9)
      rw [show i = nb by omega]
      refine z_loc [(0, .ref (wB w + a)), (1, .int (eht f nb).1)] ⟨rfl, rfl, trivial⟩ ?_
      exact TL
    | succ j ih =>
      intro i hi
      refine z_iload_n CX 2 dX6_endHeat_4 rfl rfl ?_
      refine z_aload_n CX 0 dX6_endHeat_5 rfl rfl ?_
      refine z_sipush CX (v := 147) dX6_endHeat_6 (by decide) ?_
      refine z_ia CX (j := 147) dX6_endHeat_9 row_0 rfl (by omega) (by decide) ?_
      rw [show (eht f i).2 147 = nI nb from (eht_n i (fun b hb => by omega)).trans hf]
      refine z_icmp_ge CX 56 dX6_endHeat_10 (by decide) (fun q9 => absurd q9 (nI_ge (by omega) (by omega))) (fun _ => ?_)
      refine z_aload_n CX 0 dX6_endHeat_13 rfl rfl ?_
      refine z_iload_n CX 2 dX6_endHeat_14 rfl rfl ?_
      refine z_callS1 CX dX6_endHeat_15 cs_X6_64 (c_state (b := i) (by omega)) rfl rfl (Nat.le_of_ble_eq_true rfl) ⟨Nat.le_of_ble_eq_true rfl, Nat.le_of_ble_eq_true rfl⟩ ⟨Nat.le_refl _, Nat.le_refl _⟩ ?_
      refine z_iconst CX (v := 2) dX6_endHeat_18 (by decide) ?_
      refine z_icmp_ne CX 50 dX6_endHeat_19 (by decide) (fun c_19 => ?_) (fun c_19 => ?_)
      · skip
        refine z_iinc CX (v := nI (i + 1)) dX6_endHeat_50 rfl (nI_1 i) (by decide) ?_
        refine z_goto CX 4 dX6_endHeat_53 (by decide) ?_
        refine z_heap (congrArg (rowH w hs a) (by show _ = (eht f (i + 1)).2; rw [eht, if_neg c_19])) ?_
        refine z_loc [(0, .ref (wB w + a)), (1, .int (eht f (i + 1)).1), (2, .int (nI (i + 1)))] ⟨rfl, congrArg (fun z => some (Value.int z)) (by show _ = (eht f (i + 1)).1; rw [eht, if_neg c_19]), rfl, trivial⟩ ?_
        exact ih (i + 1) (by omega)
      · skip
        refine z_aload_n CX 0 dX6_endHeat_22 rfl rfl ?_
        refine z_iload_n CX 2 dX6_endHeat_23 rfl rfl ?_
        refine z_callS1 CX dX6_endHeat_24 cs_X6_60 (c_spot i) rfl rfl (Nat.le_of_ble_eq_true rfl) ⟨Nat.le_of_ble_eq_true rfl, Nat.le_of_ble_eq_true rfl⟩ ⟨Nat.le_refl _, Nat.le_refl _⟩ ?_
        refine z_bipush CX (v := 7) dX6_endHeat_27 (by decide) ?_
        refine z_iadd CX dX6_endHeat_29 ?_
        refine z_ia CX (j := ((24 + 10 * i) + 7)) dX6_endHeat_30 row_0 (ix_add rfl rfl) (by omega) (by decide) ?_
        refine z_iconst CX (v := 1) dX6_endHeat_31 (by decide) ?_
        refine z_icmp_ne CX 39 dX6_endHeat_32 (by decide) (fun c_32 => ?_) (fun c_32 => ?_)
        · skip
          refine z_iload_n CX 1 dX6_endHeat_39 rfl rfl ?_
          refine z_istore_n CX 1 dX6_endHeat_40 rfl (by decide) ?_
          refine z_aload_n CX 0 dX6_endHeat_41 rfl rfl ?_
          refine z_iload_n CX 2 dX6_endHeat_42 rfl rfl ?_
          refine z_callS1 CX dX6_endHeat_43 cs_X6_60 (c_spot i) rfl rfl (Nat.le_of_ble_eq_true rfl) ⟨Nat.le_of_ble_eq_true rfl, Nat.le_of_ble_eq_true rfl⟩ ⟨Nat.le_refl _, Nat.le_refl _⟩ ?_
          refine z_iconst CX (v := 3) dX6_endHeat_46 (by decide) ?_
          refine z_iadd CX dX6_endHeat_47 ?_
          refine z_iconst CX (v := 0) dX6_endHeat_48 (by decide) ?_
          refine z_is CX (j := ((24 + 10 * i) + 3)) dX6_endHeat_49 row_0 (ix_add rfl rfl) (by omega) (by decide) ?_
          refine z_heap row_u ?_
          refine z_iinc CX (v := nI (i + 1)) dX6_endHeat_50 rfl (nI_1 i) (by decide) ?_
          refine z_goto CX 4 dX6_endHeat_53 (by decide) ?_
          refine z_heap (congrArg (rowH w hs a) (by show _ = (eht f (i + 1)).2; rw [eht, if_pos c_19])) ?_
          refine z_loc [(0, .ref (wB w + a)), (1, .int (eht f (i + 1)).1), (2, .int (nI (i + 1)))] ⟨rfl, congrArg (fun z => some (Value.int z)) (by show _ = (eht f (i + 1)).1; rw [eht, if_pos c_19, if_neg c_32]), rfl, trivial⟩ ?_
          exact ih (i + 1) (by omega)
        · skip
          refine z_iload_n CX 2 dX6_endHeat_35 rfl rfl ?_
          refine z_goto CX 40 dX6_endHeat_36 (by decide) ?_
          refine z_istore_n CX 1 dX6_endHeat_40 rfl (by decide) ?_
          refine z_aload_n CX 0 dX6_endHeat_41 rfl rfl ?_
          refine z_iload_n CX 2 dX6_endHeat_42 rfl rfl ?_
          refine z_callS1 CX dX6_endHeat_43 cs_X6_60 (c_spot i) rfl rfl (Nat.le_of_ble_eq_true rfl) ⟨Nat.le_of_ble_eq_true rfl, Nat.le_of_ble_eq_true rfl⟩ ⟨Nat.le_refl _, Nat.le_refl _⟩ ?_
          refine z_iconst CX (v := 3) dX6_endHeat_46 (by decide) ?_
          refine z_iadd CX dX6_endHeat_47 ?_
          refine z_iconst CX (v := 0) dX6_endHeat_48 (by decide) ?_
          refine z_is CX (j := ((24 + 10 * i) + 3)) dX6_endHeat_49 row_0 (ix_add rfl rfl) (by omega) (by decide) ?_
          refine z_heap row_u ?_
          refine z_iinc CX (v := nI (i + 1)) dX6_endHeat_50 rfl (nI_1 i) (by decide) ?_
          refine z_goto CX 4 dX6_endHeat_53 (by decide) ?_
          refine z_heap (congrArg (rowH w hs a) (by show _ = (eht f (i + 1)).2; rw [eht, if_pos c_19])) ?_
          refine z_loc [(0, .ref (wB w + a)), (1, .int (eht f (i + 1)).1), (2, .int (nI (i + 1)))] ⟨rfl, congrArg (fun z => some (Value.int z)) (by unfold eht; rw [if_pos c_19, if_pos c_32]), rfl, trivial⟩ ?_
          exact ih (i + 1) (by omega)
  refine z_iconst CX (v := (-1 : Int32)) dX6_endHeat_0 (by decide) ?_
  refine z_istore_n CX 1 dX6_endHeat_1 rfl (by decide) ?_
  refine z_iconst CX (v := 0) dX6_endHeat_2 (by decide) ?_
  refine z_istore_n CX 2 dX6_endHeat_3 rfl (by decide) ?_
  refine z_loc [(0, .ref (wB w + a)), (1, .int (eht f 0).1), (2, .int (nI 0))] ⟨rfl, rfl, rfl, trivial⟩ ?_
  exact LP nb 0 (by omega)
theorem cnz {a b : Nat} (hb : a ≤ b) (h : nI a = 0) (h9 : b < 2 ^ 31 := by omega) : a = 0 := (nI_eq (by omega) (by omega)).mp h
set_option maxHeartbeats 4000000 in
set_option maxRecDepth 100000 in
theorem c_goM {l : Launch} {w : Wt} {hs : Hs} {n : Option Nat} {a : Nat} {f : Nat → Int32} {ng nb : Nat} (hR : RI f ng nb) : Cn l w mX6_goMinute 0 0 [.ref (wB w + a)] (rowH w hs a f) n (rowH w hs a (gmi f nb).2) n (some (.int (nI (gmi f nb).1))) := by
  refine Cn.of (d := mX6_goMinute) (by decide +kernel) (Nat.le_of_ble_eq_true rfl) ?_
  intro p e R s m args below meth c CX
  replace CX : Ctx p s m args meth c R w RX6 "goMinute" cX6_goMinute 3 (some .int) 5 114 0 0 := CX
  show ZW p l e R s m args below meth c w 3 _ _ 0 0 (MQ below (Qn w _ _ _) args s 0 0 (wA w)) 0 [(0, .ref (wB w + a))] []
  have h9 : nb ≤ 11 := hR.2.2.1
  have LP : ∀ (j i : Nat), i + j = nb → ZW p l e R s m args below meth c w 3 (rowH w hs a (gmb f nb i).2) n 0 0 (MQ below (Qn w (rowH w hs a (gmi f nb).2) n (some (.int (nI (gmi f nb).1)))) args s 0 0 (wA w)) 13 [(0, .ref (wB w + a)), (1, .int (nI (gmb f nb i).1)), (2, .int (nI i))] [] := by
    intro j
    induction j with
    | zero =>
      intro i hi
      have hR1 : RI (gmb f nb i).2 ng nb := RI_gmb hR i (by omega)
      have hi9 : i = nb := by omega
      refine z_iload_n CX 2 dX6_goMinute_13 rfl rfl ?_
      refine z_aload_n CX 0 dX6_goMinute_14 rfl rfl ?_
      refine z_sipush CX (v := 147) dX6_goMinute_15 (by decide) ?_
      refine z_ia CX (j := 147) dX6_goMinute_18 row_0 rfl (by omega) (by decide) ?_
      rw [show (gmb f nb i).2 147 = nI nb from hR1.2.1]
      refine z_icmp_ge CX 59 dX6_goMinute_19 (by decide) (fun _ => ?_) (fun q9 => absurd (nI_le (by omega) (by omega)) q9)
      subst hi9
      refine z_aload_n CX 0 dX6_goMinute_59 rfl rfl ?_
      refine z_sipush CX (v := 150) dX6_goMinute_60 (by decide) ?_
      refine z_ia CX (j := 150) dX6_goMinute_63 row_0 rfl (by omega) (by decide) ?_
      refine z_iconst CX (v := 1) dX6_goMinute_64 (by decide) ?_
      refine z_icmp_ne CX 81 dX6_goMinute_65 (by decide) (fun c_65 => ?_) (fun c_65 => ?_)
      · skip
        refine z_iload_n CX 1 dX6_goMinute_81 rfl rfl ?_
        exact z_iret CX dX6_goMinute_82 rfl rfl (congrArg (rowH w hs a) (by show _ = (if _ then _ else _); rw [if_neg (fun q => c_65 q.1)])) (Or.inl rfl)
      · skip
        refine z_aload_n CX 0 dX6_goMinute_68 rfl rfl ?_
        refine z_iconst CX (v := 1) dX6_goMinute_69 (by decide) ?_
        refine z_callS1 CX dX6_goMinute_70 cs_X6_82 (c_inSt hR1.2.1 (by omega) 1) rfl rfl (Nat.le_of_ble_eq_true rfl) ⟨Nat.le_of_ble_eq_true rfl, Nat.le_of_ble_eq_true rfl⟩ ⟨Nat.le_refl _, Nat.le_refl _⟩ ?_
        refine z_if_ne CX 81 dX6_goMinute_73 (by decide) (fun c_73 => ?_) (fun c_73 => ?_)
        · skip
          refine z_iload_n CX 1 dX6_goMinute_81 rfl rfl ?_
          exact z_iret CX dX6_goMinute_82 rfl rfl (congrArg (rowH w hs a) (by show _ = (if _ then _ else _); rw [if_neg (fun q => c_73 (by rw [q.2]; rfl))])) (Or.inl rfl)
        · skip
          refine z_aload_n CX 0 dX6_goMinute_76 rfl rfl ?_
          refine z_callS1 CX dX6_goMinute_77 cs_X6_85 (c_endH hR1.2.1 (by omega) hR1.own) rfl rfl (Nat.le_of_ble_eq_true rfl) ⟨Nat.le_of_ble_eq_true rfl, Nat.le_of_ble_eq_true rfl⟩ ⟨Nat.le_refl _, Nat.le_refl _⟩ ?_
          refine z_istore_n CX 2 dX6_goMinute_80 rfl (by decide) ?_
          refine z_iload_n CX 1 dX6_goMinute_81 rfl rfl ?_
          exact z_iret CX dX6_goMinute_82 rfl rfl (congrArg (rowH w hs a) (by show _ = (if _ then _ else _); rw [if_pos ⟨c_65, cnz (cntN_le _ _) c_73⟩])) (Or.inl rfl)
    | succ j ih =>
      intro i hi
      have hR1 : RI (gmb f nb i).2 ng nb := RI_gmb hR i (by omega)
      refine z_iload_n CX 2 dX6_goMinute_13 rfl rfl ?_
      refine z_aload_n CX 0 dX6_goMinute_14 rfl rfl ?_
      refine z_sipush CX (v := 147) dX6_goMinute_15 (by decide) ?_
      refine z_ia CX (j := 147) dX6_goMinute_18 row_0 rfl (by omega) (by decide) ?_
      rw [show (gmb f nb i).2 147 = nI nb from hR1.2.1]
      refine z_icmp_ge CX 59 dX6_goMinute_19 (by decide) (fun q9 => absurd q9 (nI_ge (by omega) (by omega))) (fun _ => ?_)
      refine z_aload_n CX 0 dX6_goMinute_22 rfl rfl ?_
      refine z_iload_n CX 2 dX6_goMinute_23 rfl rfl ?_
      refine z_callS1 CX dX6_goMinute_24 cs_X6_64 (c_state (b := i) (by omega)) rfl rfl (Nat.le_of_ble_eq_true rfl) ⟨Nat.le_of_ble_eq_true rfl, Nat.le_of_ble_eq_true rfl⟩ ⟨Nat.le_refl _, Nat.le_refl _⟩ ?_
      refine z_iconst CX (v := 1) dX6_goMinute_27 (by decide) ?_
      refine z_icmp_ne CX 53 dX6_goMinute_28 (by decide) (fun c_28 => ?_) (fun c_28 => ?_)
      · skip
        refine z_iinc CX (v := nI (i + 1)) dX6_goMinute_53 rfl (nI_1 i) (by decide) ?_
        refine z_goto CX 13 dX6_goMinute_56 (by decide) ?_
        refine z_heap (congrArg (rowH w hs a) (by show _ = (gmb f nb (i + 1)).2; rw [gmb, if_neg c_28])) ?_
        refine z_loc [(0, .ref (wB w + a)), (1, .int (nI (gmb f nb (i + 1)).1)), (2, .int (nI (i + 1)))] ⟨rfl, congrArg (fun z => some (Value.int z)) (by rw [gmb, if_neg c_28]), rfl, trivial⟩ ?_
        exact ih (i + 1) (by omega)
      · skip
        refine z_aload_n CX 0 dX6_goMinute_31 rfl rfl ?_
        refine z_iload_n CX 2 dX6_goMinute_32 rfl rfl ?_
        refine z_callS0 CX dX6_goMinute_33 cs_X6_78 (c_drift hR1.1 hR1.2.1 (by omega) (by omega) (hR1.inC (by omega) (Or.inl c_28))) rfl rfl (Nat.le_of_ble_eq_true rfl) ⟨Nat.le_of_ble_eq_true rfl, Nat.le_of_ble_eq_true rfl⟩ ⟨Nat.le_refl _, Nat.le_refl _⟩ ?_
        refine z_iload_n CX 1 dX6_goMinute_36 rfl rfl ?_
        refine z_aload_n CX 0 dX6_goMinute_37 rfl rfl ?_
        refine z_iload_n CX 2 dX6_goMinute_38 rfl rfl ?_
        refine z_callS1 CX dX6_goMinute_39 cs_X6_64 (c_state (b := i) (by omega)) rfl rfl (Nat.le_of_ble_eq_true rfl) ⟨Nat.le_of_ble_eq_true rfl, Nat.le_of_ble_eq_true rfl⟩ ⟨Nat.le_refl _, Nat.le_refl _⟩ ?_
        refine z_iconst CX (v := 2) dX6_goMinute_42 (by decide) ?_
        refine z_icmp_ne CX 50 dX6_goMinute_43 (by decide) (fun c_43 => ?_) (fun c_43 => ?_)
        · skip
          refine z_iconst CX (v := 0) dX6_goMinute_50 (by decide) ?_
          refine z_iadd CX dX6_goMinute_51 ?_
          refine z_istore_n CX 1 dX6_goMinute_52 rfl (by decide) ?_
          refine z_iinc CX (v := nI (i + 1)) dX6_goMinute_53 rfl (nI_1 i) (by decide) ?_
          refine z_goto CX 13 dX6_goMinute_56 (by decide) ?_
          refine z_heap (congrArg (rowH w hs a) (by show _ = (gmb f nb (i + 1)).2; rw [gmb, if_pos c_28])) ?_
          refine z_loc [(0, .ref (wB w + a)), (1, .int (nI (gmb f nb (i + 1)).1)), (2, .int (nI (i + 1)))] ⟨rfl, congrArg (fun z => some (Value.int z)) (by rw [gmb, if_pos c_28]; show _ = nI (_ + _); rw [if_neg c_43]; exact Int32.add_zero _), rfl, trivial⟩ ?_
          exact ih (i + 1) (by omega)
        · skip
          refine z_iconst CX (v := 1) dX6_goMinute_46 (by decide) ?_
          refine z_goto CX 51 dX6_goMinute_47 (by decide) ?_
          refine z_iadd CX dX6_goMinute_51 ?_
          refine z_istore_n CX 1 dX6_goMinute_52 rfl (by decide) ?_
          refine z_iinc CX (v := nI (i + 1)) dX6_goMinute_53 rfl (nI_1 i) (by decide) ?_
          refine z_goto CX 13 dX6_goMinute_56 (by decide) ?_
          refine z_heap (congrArg (rowH w hs a) (by show _ = (gmb f nb (i + 1)).2; rw [gmb, if_pos c_28])) ?_
          refine z_loc [(0, .ref (wB w + a)), (1, .int (nI (gmb f nb (i + 1)).1)), (2, .int (nI (i + 1)))] ⟨rfl, congrArg (fun z => some (Value.int z)) (by rw [gmb, if_pos c_28]; show _ = nI (_ + _); rw [if_pos c_43]; exact nI_1 _), rfl, trivial⟩ ?_
          exact ih (i + 1) (by omega)
  refine z_iconst CX (v := 0) dX6_goMinute_0 (by decide) ?_
  refine z_istore_n CX 1 dX6_goMinute_1 rfl (by decide) ?_
  refine z_aload_n CX 0 dX6_goMinute_2 rfl rfl ?_
  refine z_sipush CX (v := 148) dX6_goMinute_3 (by decide) ?_
  refine z_dup2 CX dX6_goMinute_6 rfl rfl ?_
  refine z_ia CX (j := 148) dX6_goMinute_7 row_0 rfl (by omega) (by decide) ?_
  refine z_iconst CX (v := 1) dX6_goMinute_8 (by decide) ?_
  refine z_iadd CX dX6_goMinute_9 ?_
  refine z_is CX (j := 148) dX6_goMinute_10 row_0 rfl (by omega) (by decide) ?_
  refine z_heap row_u ?_
  refine z_iconst CX (v := 0) dX6_goMinute_11 (by decide) ?_
  refine z_istore_n CX 2 dX6_goMinute_12 rfl (by decide) ?_
  refine z_loc [(0, .ref (wB w + a)), (1, .int (nI (gmb f nb 0).1)), (2, .int (nI 0))] ⟨rfl, rfl, rfl, trivial⟩ ?_
  exact LP nb 0 (by omega)
set_option maxHeartbeats 4000000 in
set_option maxRecDepth 100000 in
theorem c_goMs {l : Launch} {w : Wt} {hs : Hs} {n : Option Nat} {a : Nat} {f : Nat → Int32} {ng nb : Nat} (hR : RI f ng nb) {k : Nat} (hk : k < 1000) : Cn l w mX6_goMinutes 0 0 [.ref (wB w + a), .int (nI k)] (rowH w hs a f) n (rowH w hs a (gms nb k f).2) n (some (.int (nI (gms nb k f).1))) := by
  refine Cn.of (d := mX6_goMinutes) (by decide +kernel) (Nat.le_of_ble_eq_true rfl) ?_
  intro p e R s m args below meth c CX
  replace CX : Ctx p s m args meth c R w RX6 "goMinutes" cX6_goMinutes 4 (some .int) 6 136 0 0 := CX
  show ZW p l e R s m args below meth c w 4 _ _ 0 0 (MQ below (Qn w _ _ _) args s 0 0 (wA w)) 0 [(0, .ref (wB w + a)), (1, .int (nI k))] []
  have LP : ∀ (j i : Nat), i + j = k → ZW p l e R s m args below meth c w 4 (rowH w hs a (gms nb i f).2) n 0 0 (MQ below (Qn w (rowH w hs a (gms nb k f).2) n (some (.int (nI (gms nb k f).1)))) args s 0 0 (wA w)) 4 [(0, .ref (wB w + a)), (1, .int (nI k)), (2, .int (nI (gms nb i f).1)), (3, .int (nI i))] [] := by
    intro j
    induction j with
    | zero =>
      intro i hi
      refine z_iload_n CX 3 dX6_goMinutes_4 rfl rfl ?_
      refine z_iload_n CX 1 dX6_goMinutes_5 rfl rfl ?_
      refine z_icmp_ge CX 22 dX6_goMinutes_6 (by decide) (fun _ => ?_) (fun q9 => absurd (nI_le (by omega) (by omega)) q9)
      refine z_iload_n CX 2 dX6_goMinutes_22 rfl rfl ?_
      exact z_iret CX dX6_goMinutes_23 rfl (by rw [show i = k by omega]) (by rw [show i = k by omega]) (Or.inl rfl)
    | succ j ih =>
      intro i hi
      refine z_iload_n CX 3 dX6_goMinutes_4 rfl rfl ?_
      refine z_iload_n CX 1 dX6_goMinutes_5 rfl rfl ?_
      refine z_icmp_ge CX 22 dX6_goMinutes_6 (by decide) (fun q9 => absurd q9 (nI_ge (by omega) (by omega))) (fun _ => ?_)
      refine z_iload_n CX 2 dX6_goMinutes_9 rfl rfl ?_
      refine z_aload_n CX 0 dX6_goMinutes_10 rfl rfl ?_
      refine z_callS1 CX dX6_goMinutes_11 cs_X6_89 (c_goM (RI_gms i f hR)) rfl rfl (Nat.le_of_ble_eq_true rfl) ⟨Nat.le_of_ble_eq_true rfl, Nat.le_of_ble_eq_true rfl⟩ ⟨Nat.le_refl _, Nat.le_refl _⟩ ?_
      refine z_iadd CX dX6_goMinutes_14 ?_
      refine z_istore_n CX 2 dX6_goMinutes_15 rfl (by decide) ?_
      refine z_iinc CX (v := nI (i + 1)) dX6_goMinutes_16 rfl (nI_1 i) (by decide) ?_
      refine z_goto CX 4 dX6_goMinutes_19 (by decide) ?_
      refine z_loc [(0, .ref (wB w + a)), (1, .int (nI k)), (2, .int (nI (gms nb (i + 1) f).1)), (3, .int (nI (i + 1)))] ⟨rfl, rfl, congrArg (fun z => some (Value.int z)) (by show _ = nI (_ + _); rw [← nI_add]), rfl, trivial⟩ ?_
      exact ih (i + 1) (by omega)
  refine z_iconst CX (v := 0) dX6_goMinutes_0 (by decide) ?_
  refine z_istore_n CX 2 dX6_goMinutes_1 rfl (by decide) ?_
  refine z_iconst CX (v := 0) dX6_goMinutes_2 (by decide) ?_
  refine z_istore_n CX 3 dX6_goMinutes_3 rfl (by decide) ?_
  refine z_loc [(0, .ref (wB w + a)), (1, .int (nI k)), (2, .int (nI (gms nb 0 f).1)), (3, .int (nI 0))] ⟨rfl, rfl, rfl, rfl, trivial⟩ ?_
  exact LP k 0 (by omega)
