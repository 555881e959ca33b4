theorem dcl_lt (f : Nat → Int32) (b : Nat) : (dcl f b).toNatClampNeg < 2 ^ 31 := by
  have := i_hi (dcl f b)
  show (dcl f b).toInt.toNat < _
  omega
set_option maxHeartbeats 4000000 in
set_option maxRecDepth 100000 in
theorem c_drift {l : Launch} {w : Wt} {hs : Hs} {n : Option Nat} {a : Nat} {f : Nat → Int32} {ng nb b : Nat} (hG : GG f ng) (hf : f 147 = nI nb) (h9 : nb ≤ 11) (hb : b < 11) (hc : inC9 f ng b) : Cn l w mX6_drift 0 0 [.ref (wB w + a), .int (nI b)] (rowH w hs a f) n (rowH w hs a (dri f nb b)) n none := by
  refine Cn.of (d := mX6_drift) (by decide +kernel) (Nat.le_of_ble_eq_true rfl) ?_
  intro p e R s m args below meth c CX
  replace CX : Ctx p s m args meth c R w RX6 "drift" cX6_drift 6 none 4 89 0 0 := CX
  show ZW p l e R s m args below meth c w 6 _ _ 0 0 (MQ below (Qn w _ _ _) args s 0 0 (wA w)) 0 [(0, .ref (wB w + a)), (1, .int (nI b))] []
  have hN0 : (dcl f b).toNatClampNeg < 2 ^ 31 := dcl_lt f b
  have TL : ZW p l e R s m args below meth c w 6 (rowH w hs a (drf nb b (dcl f b).toNatClampNeg f)) n 0 0 (MQ below (Qn w (rowH w hs a (dri f nb b)) n none) args s 0 0 (wA w)) 61 [(0, .ref (wB w + a)), (1, .int (nI b)), (2, .int (nI (24 + 10 * b)))] [] := by
      refine z_aload_n CX 0 dX6_drift_61 rfl rfl ?_
      refine z_iload_n CX 2 dX6_drift_62 rfl rfl ?_
      refine z_iconst CX (v := 3) dX6_drift_63 (by decide) ?_
      refine z_iadd CX dX6_drift_64 ?_
      refine z_ia CX (j := ((24 + 10 * b) + 3)) dX6_drift_65 row_0 (ix_add rfl rfl) (by omega) (by decide) ?_
      refine z_iconst CX (v := 1) dX6_drift_66 (by decide) ?_
      refine z_icmp_ne CX 110 dX6_drift_67 (by decide) (fun c_67 => ?_) (fun c_67 => ?_)
      · skip
        exact z_vret CX dX6_drift_110 rfl (congrArg (rowH w hs a) (by unfold dri; rw [if_neg c_67])) (Or.inl rfl)
      · skip
        refine z_aload_n CX 0 dX6_drift_70 rfl rfl ?_
        refine z_iload_n CX 2 dX6_drift_71 rfl rfl ?_
        refine z_bipush CX (v := 6) dX6_drift_72 (by decide) ?_
        refine z_iadd CX dX6_drift_74 ?_
        refine z_dup2 CX dX6_drift_75 rfl rfl ?_
        refine z_ia CX (j := ((24 + 10 * b) + 6)) dX6_drift_76 row_0 (ix_add rfl rfl) (by omega) (by decide) ?_
        refine z_iconst CX (v := 1) dX6_drift_77 (by decide) ?_
        refine z_aload_n CX 0 dX6_drift_78 rfl rfl ?_
        refine z_sipush CX (v := 154) dX6_drift_79 (by decide) ?_
        refine z_ia CX (j := 154) dX6_drift_82 row_0 rfl (by omega) (by decide) ?_
        refine z_iadd CX dX6_drift_83 ?_
        refine z_iadd CX dX6_drift_84 ?_
        refine z_is CX (j := ((24 + 10 * b) + 6)) dX6_drift_85 row_0 (ix_add rfl rfl) (by omega) (by decide) ?_
        refine z_heap row_u ?_
        refine z_aload_n CX 0 dX6_drift_86 rfl rfl ?_
        refine z_iload_n CX 2 dX6_drift_87 rfl rfl ?_
        refine z_iconst CX (v := 3) dX6_drift_88 (by decide) ?_
        refine z_iadd CX dX6_drift_89 ?_
        refine z_aload_n CX 0 dX6_drift_90 rfl rfl ?_
        refine z_iload_n CX 2 dX6_drift_91 rfl rfl ?_
        refine z_bipush CX (v := 6) dX6_drift_92 (by decide) ?_
        refine z_iadd CX dX6_drift_94 ?_
        refine z_ia CX (j := ((24 + 10 * b) + 6)) dX6_drift_95 row_0 (ix_add rfl rfl) (by omega) (by decide) ?_
        refine z_aload_n CX 0 dX6_drift_96 rfl rfl ?_
        refine z_iload_n CX 1 dX6_drift_97 rfl rfl ?_
        refine z_callS1 CX dX6_drift_98 cs_X6_75 (c_bears (by omega)) rfl rfl (Nat.le_of_ble_eq_true rfl) ⟨Nat.le_of_ble_eq_true rfl, Nat.le_of_ble_eq_true rfl⟩ ⟨Nat.le_refl _, Nat.le_refl _⟩ ?_
        refine z_icmp_le CX 108 dX6_drift_101 (by decide) (fun c_101 => ?_) (fun c_101 => ?_)
        · skip
          refine z_iconst CX (v := 1) dX6_drift_108 (by decide) ?_
          refine z_is CX (j := ((24 + 10 * b) + 3)) dX6_drift_109 row_0 (ix_add rfl rfl) (by omega) (by decide) ?_
          refine z_heap row_u ?_
          exact z_vret CX dX6_drift_110 rfl (congrArg (rowH w hs a) (by unfold dri; rw [if_pos c_67]; unfold soa; rw [if_neg (Int32.not_lt.mpr (by rw [pk_us, bea_u (f := (drf nb b (dcl f b).toNatClampNeg f)) (pk_un (by omega)) (pk_un (by omega)) (pk_un (by omega))] at c_101; exact c_101))])) (Or.inl rfl)
        · skip
          refine z_iconst CX (v := 3) dX6_drift_104 (by decide) ?_
          refine z_goto CX 109 dX6_drift_105 (by decide) ?_
          refine z_is CX (j := ((24 + 10 * b) + 3)) dX6_drift_109 row_0 (ix_add rfl rfl) (by omega) (by decide) ?_
          refine z_heap row_u ?_
          exact z_vret CX dX6_drift_110 rfl (congrArg (rowH w hs a) (by unfold dri; rw [if_pos c_67]; unfold soa; rw [if_pos (by rw [pk_us, bea_u (f := (drf nb b (dcl f b).toNatClampNeg f)) (pk_un (by omega)) (pk_un (by omega)) (pk_un (by omega))] at c_101; exact Int32.not_le.mp c_101)])) (Or.inl rfl)
  have LS : ∀ k : Nat, ZW p l e R s m args below meth c w 6 (rowH w hs a (drf nb b (dcl f b).toNatClampNeg f)) n 0 0 (MQ below (Qn w (rowH w hs a (dri f nb b)) n none) args s 0 0 (wA w)) 37 [(0, .ref (wB w + a)), (1, .int (nI b)), (2, .int (nI (24 + 10 * b))), (3, .int (dcl f b)), (4, .int (0)), (5, .int (nI k))] [] := by
    intro k
    refine z_iload CX dX6_drift_37 rfl ?_
    refine z_iload_n CX 3 dX6_drift_39 rfl rfl ?_
    refine z_icmp_ge CX 61 dX6_drift_40 (by decide) (fun c_40 => ?_) (fun c_40 => ?_)
    · skip
      refine z_loc [(0, .ref (wB w + a)), (1, .int (nI b)), (2, .int (nI (24 + 10 * b)))] ⟨rfl, rfl, rfl, trivial⟩ ?_
      exact TL
    · skip
      refine z_iload CX dX6_drift_43 rfl ?_
      refine z_if_eq CX 61 dX6_drift_45 (by decide) (fun _ => ?_) (fun q9 => absurd rfl q9)
      refine z_loc [(0, .ref (wB w + a)), (1, .int (nI b)), (2, .int (nI (24 + 10 * b)))] ⟨rfl, rfl, rfl, trivial⟩ ?_
      exact TL
  have LP : ∀ (j k : Nat) (f1 : Nat → Int32), k + j = (dcl f b).toNatClampNeg → GG f1 ng → f1 147 = nI nb → inC9 f1 ng b → drf nb b j f1 = (drf nb b (dcl f b).toNatClampNeg f) → ZW p l e R s m args below meth c w 6 (rowH w hs a f1) n 0 0 (MQ below (Qn w (rowH w hs a (dri f nb b)) n none) args s 0 0 (wA w)) 37 [(0, .ref (wB w + a)), (1, .int (nI b)), (2, .int (nI (24 + 10 * b))), (3, .int (dcl f b)), (4, .int (1)), (5, .int (nI k))] [] := by
    intro j
    induction j with
    | zero =>
      intro k f1 hk hG1 hf1 hc1 hF
      refine z_iload CX dX6_drift_37 rfl ?_
      refine z_iload_n CX 3 dX6_drift_39 rfl rfl ?_
      refine z_icmp_ge CX 61 dX6_drift_40 (by decide) (fun _ => ?_) (fun q9 => absurd ((cl_le (by omega)).mpr (by omega)) q9)
      refine z_loc [(0, .ref (wB w + a)), (1, .int (nI b)), (2, .int (nI (24 + 10 * b)))] ⟨rfl, rfl, rfl, trivial⟩ ?_
      rw [show f1 = (drf nb b (dcl f b).toNatClampNeg f) from hF]
      exact TL
    | succ j ih =>
      intro k f1 hk hG1 hf1 hc1 hF
      have hN : (dcl f b).toNatClampNeg < 2 ^ 31 := dcl_lt f b
      obtain ⟨g4, c4, L4, g5, e4, -⟩ := id hc1
      have hng := hG1.2.1
      refine z_iload CX dX6_drift_37 rfl ?_
      refine z_iload_n CX 3 dX6_drift_39 rfl rfl ?_
      refine z_icmp_ge CX 61 dX6_drift_40 (by decide) (fun q9 => absurd q9 (fun q8 => absurd ((cl_le (by omega)).mp q8) (by omega))) (fun _ => ?_)
      refine z_iload CX dX6_drift_43 rfl ?_
      refine z_if_eq CX 61 dX6_drift_45 (by decide) (fun q9 => absurd q9 (by decide)) (fun _ => ?_)
      refine z_aload_n CX 0 dX6_drift_48 rfl rfl ?_
      refine z_iload_n CX 1 dX6_drift_49 rfl rfl ?_
      refine z_callS1 CX dX6_drift_50 cs_X6_72 (c_moves hf1 h9 (by omega) e4 (by omega)) rfl rfl (Nat.le_of_ble_eq_true rfl) ⟨Nat.le_of_ble_eq_true rfl, Nat.le_of_ble_eq_true rfl⟩ ⟨Nat.le_refl _, Nat.le_refl _⟩ ?_
      refine z_istore CX dX6_drift_53 (by decide) ?_
      refine z_iinc CX (v := nI (k + 1)) dX6_drift_55 rfl (nI_1 k) (by decide) ?_
      refine z_goto CX 37 dX6_drift_58 (by decide) ?_
      rcases mv_go (nb := nb) hG1 hc1 hb with ⟨m1, m2, g8, c8, m3⟩ | ⟨m1, m2⟩
      · rw [show (mv f1 nb b).1 = true from m1]
        refine z_loc [(0, .ref (wB w + a)), (1, .int (nI b)), (2, .int (nI (24 + 10 * b))), (3, .int (dcl f b)), (4, .int (1)), (5, .int (nI (k + 1)))] ⟨rfl, rfl, rfl, rfl, rfl, rfl, trivial⟩ ?_
        exact ih (k + 1) _ (by omega) (hG1.to (fun j hj => mv_n (by omega) (by omega)) (mv_n (by omega) (by omega))) ((mv_n (by omega) (by omega)).trans hf1) m2 (by rw [← hF]; show _ = (if _ then _ else _); rw [if_pos m1])
      · rw [show (mv f1 nb b).1 = false from m1, show (mv f1 nb b).2 = (drf nb b (dcl f b).toNatClampNeg f) by rw [← hF]; show _ = (if _ then _ else _); rw [if_neg (by rw [m1]; decide)]]
        refine z_loc [(0, .ref (wB w + a)), (1, .int (nI b)), (2, .int (nI (24 + 10 * b))), (3, .int (dcl f b)), (4, .int (0)), (5, .int (nI (k + 1)))] ⟨rfl, rfl, rfl, rfl, rfl, rfl, trivial⟩ ?_
        exact LS (k + 1)
  obtain ⟨g, c9, L9, hg, e4, -⟩ := id hc
  have hng := hG.2.1
  refine z_iload_n CX 1 dX6_drift_0 rfl rfl ?_
  refine z_callS1 CX dX6_drift_1 cs_X6_60 (c_spot b) rfl rfl (Nat.le_of_ble_eq_true rfl) ⟨Nat.le_of_ble_eq_true rfl, Nat.le_of_ble_eq_true rfl⟩ ⟨Nat.le_refl _, Nat.le_refl _⟩ ?_
  refine z_istore_n CX 2 dX6_drift_4 rfl (by decide) ?_
  refine z_aload_n CX 0 dX6_drift_5 rfl rfl ?_
  refine z_iconst CX (v := 4) dX6_drift_6 (by decide) ?_
  refine z_aload_n CX 0 dX6_drift_7 rfl rfl ?_
  refine z_iload_n CX 2 dX6_drift_8 rfl rfl ?_
  refine z_iconst CX (v := 4) dX6_drift_9 (by decide) ?_
  refine z_iadd CX dX6_drift_10 ?_
  refine z_ia CX (j := ((24 + 10 * b) + 4)) dX6_drift_11 row_0 (ix_add rfl rfl) (by omega) (by decide) ?_
  refine z_imul CX dX6_drift_12 ?_
  refine z_iconst CX (v := 1) dX6_drift_13 (by decide) ?_
  refine z_iadd CX dX6_drift_14 ?_
  refine z_ia CX (j := ((4 * g) + 1)) dX6_drift_15 row_0 (ix_add (ix_mul rfl e4) rfl) (by omega) (by decide) ?_
  refine z_aload_n CX 0 dX6_drift_16 rfl rfl ?_
  refine z_sipush CX (v := 154) dX6_drift_17 (by decide) ?_
  refine z_ia CX (j := 154) dX6_drift_20 row_0 rfl (by omega) (by decide) ?_
  refine z_iadd CX dX6_drift_21 ?_
  refine z_aload_n CX 0 dX6_drift_22 rfl rfl ?_
  refine z_iload_n CX 2 dX6_drift_23 rfl rfl ?_
  refine z_iconst CX (v := 0) dX6_drift_24 (by decide) ?_
  refine z_iadd CX dX6_drift_25 ?_
  refine z_ia CX (j := ((24 + 10 * b) + 0)) dX6_drift_26 row_0 (ix_add rfl rfl) (by omega) (by decide) ?_
  refine z_iconst CX (v := 4) dX6_drift_27 (by decide) ?_
  refine z_idiv CX dX6_drift_28 (by decide) ?_
  refine z_isub CX dX6_drift_29 ?_
  refine z_istore_n CX 3 dX6_drift_30 rfl (by decide) ?_
  refine z_iconst CX (v := 1) dX6_drift_31 (by decide) ?_
  refine z_istore CX dX6_drift_32 (by decide) ?_
  refine z_iconst CX (v := 0) dX6_drift_34 (by decide) ?_
  refine z_istore CX dX6_drift_35 (by decide) ?_
  rw [show f (4 * g + 1) + f 154 - f (24 + 10 * b + 0) / 4 = dcl f b by unfold dcl; rw [e4, nI_clamp (by omega)]]
  refine z_loc [(0, .ref (wB w + a)), (1, .int (nI b)), (2, .int (nI (24 + 10 * b))), (3, .int (dcl f b)), (4, .int (1)), (5, .int (nI 0))] ⟨rfl, rfl, rfl, rfl, rfl, rfl, trivial⟩ ?_
  exact LP _ 0 f (by omega) hG hf hc rfl
