/-! the tournament: a boat drifts -/
theorem RI_Mv {f f1 : Nat → Int32} {ng nb b : Nat} (h : RI f ng nb) (hb : b < nb) (hs : f (24 + 10 * b + 3) = 1) (hM : Mv f f1 b) (hC : inC9 f1 ng b) : RI f1 ng nb := by
  have hnb : nb ≤ 11 := h.2.2.1
  have E : ∀ j, (j < 24 + 10 * b + 4 ∨ 24 + 10 * b + 9 < j ∨ j = 24 + 10 * b + 6 ∨ j = 24 + 10 * b + 7 ∨ j = 24 + 10 * b + 8) → f1 j = f j := fun j q => hM.n q
  refine RI_b (b := b) h (fun j hj => E j (by omega)) (E _ (by omega)) (E _ (by omega)) ⟨E _ (by omega), E _ (by omega), E _ (by omega)⟩ (fun o ho => ⟨E _ (by omega), E _ (by omega)⟩) (fun j c hj hn hc => E _ (by omega)) ?_ (h.2.2.2.2.2.2.1.ex (E _ (by omega)) (fun b hb => by rw [E _ (by omega)]) (fun b hb => E _ (by omega))) (h.2.2.2.2.2.2.2.ex (E _ (by omega)) (fun b hb => E _ (by omega)))
  obtain ⟨F, W, O, S, K, a1, a2, a3, a4, a5, a6, b0, b1, b2, b3, b4, b5, b6⟩ := h.2.2.2.1 b hb
  exact ⟨F, W, O, S, K, a1, a2, a3, a4, a5, a6, (E _ (by omega)).trans b0, (E _ (by omega)).trans b1, (E _ (by omega)).trans b2, (E _ (by omega)).trans b3, (E _ (by omega)).trans b4, b5, fun _ => hC⟩
/-- as a boat drifts: whether it comes into the drain, the row until then -/
def drs (nb b : Nat) : Nat → (Nat → Int32) → Bool × (Nat → Int32)
  | 0, f => (false, f)
  | k + 1, f => if f (24 + 10 * b + 5) + 1 = f (4 * (f (24 + 10 * b + 4)).toNatClampNeg + 0) ∧ f (24 + 10 * b + 4) = 0 then (true, f) else if (mv f nb b).1 = true then drs nb b k (mv f nb b).2 else (false, f)
theorem drs_e {ng nb b : Nat} (hb : b < nb) (h11 : nb ≤ 11) : ∀ (k : Nat) (f : Nat → Int32), RI f ng nb → f (24 + 10 * b + 3) = 1 → inC9 f ng b → drf nb b k f = (if (drs nb b k f).1 = true then arv (drs nb b k f).2 b else (drs nb b k f).2) ∧ RI (drs nb b k f).2 ng nb ∧ (drs nb b k f).2 (24 + 10 * b + 3) = 1 ∧ inC9 (drs nb b k f).2 ng b
  | 0, f, h, hs, hC => ⟨rfl, h, hs, hC⟩
  | k + 1, f, h, hs, hC => by
    rw [drs]
    by_cases c : f (24 + 10 * b + 5) + 1 = f (4 * (f (24 + 10 * b + 4)).toNatClampNeg + 0) ∧ f (24 + 10 * b + 4) = 0
    · rw [if_pos c]
      have hm : mv f nb b = (false, arv f b) := by unfold mv; rw [if_pos c.1, if_pos c.2]
      refine ⟨?_, h, hs, hC⟩
      show (if _ then _ else _) = _
      rw [hm]; rfl
    · rw [if_neg c]
      rcases mv_go (nb := nb) h.1 hC (show b < 11 by omega) with ⟨m1, m2, g, y, m3⟩ | ⟨m1, m2⟩
      · rw [if_pos m1]
        have hM : Mv f (mv f nb b).2 b := by
          intro j h1 h2 h3
          rw [m3]; unfold mvd; rw [pk_un h3, pk_un h2, pk_un h1]
        have hR := RI_Mv h hb hs hM m2
        have ih := drs_e hb h11 k (mv f nb b).2 hR ((hM.n (by omega)).trans hs) m2
        refine ⟨?_, ih.2⟩
        show (if _ then _ else _) = _
        rw [if_pos m1]; exact ih.1
      · rw [show (if (mv f nb b).1 = true then drs nb b k (mv f nb b).2 else (false, f)) = (false, f) from if_neg (by rw [m1]; decide)]
        refine ⟨?_, h, hs, hC⟩
        show (if _ then _ else _) = _
        rw [if_neg (by rw [m1]; decide)]
        show _ = f
        rcases m2 with e | e
        · exact e
        · exfalso
          apply c
          unfold mv at m1 e
          by_cases c1 : f (24 + 10 * b + 5) + 1 = f (4 * (f (24 + 10 * b + 4)).toNatClampNeg + 0)
          · rw [if_pos c1] at m1 e
            by_cases c2 : f (24 + 10 * b + 4) = 0
            · exact ⟨c1, c2⟩
            · rw [if_neg c2] at m1 e
              exfalso
              unfold mv2 at m1 e
              split at e
              · have := congrFun e (24 + 10 * b + 3)
                rw [arv_3] at this
                exact absurd (hs.symm.trans this) (by decide)
              · rename_i cw
                rw [if_neg cw] at m1
                cases m1
          · rw [if_neg c1] at m1 e
            exfalso
            unfold mv2 at m1 e
            split at e
            · have := congrFun e (24 + 10 * b + 3)
              rw [arv_3] at this
              exact absurd (hs.symm.trans this) (by decide)
            · rename_i cw
              rw [if_neg cw] at m1
              cases m1
/-- the boat's columns as it leaves the last cell -/
def dpt (h : Nat → Int32) (b : Nat) (g c : Int32) : Nat → Int32 := upd (upd (upd h (b * 10 + 9) (h (b * 10 + 9) + 1)) (b * 10 + 4) g) (b * 10 + 5) c
theorem dpt_n {h : Nat → Int32} {b j : Nat} {g c : Int32} (h4 : j ≠ b * 10 + 4) (h5 : j ≠ b * 10 + 5) (h9 : j ≠ b * 10 + 9) : dpt h b g c j = h j := by unfold dpt; rw [pk_un h5, pk_un h4, pk_un h9]
theorem mvd_9 {f : Nat → Int32} {b : Nat} {g c : Int32} : mvd f b g c (24 + 10 * b + 9) = f (24 + 10 * b + 9) + 1 := by unfold mvd; rw [pk_us]
theorem TH_mvd {w : Wt} {hs : Hs} {k : Nat} {f : Nat → Int32} {x : Int32} {z : Nat → Nat → Int32} {b : Nat} {g c : Int32} (hR : RIs f) (hb : b < bN f) (hs1 : f (24 + 10 * b + 3) = 1) : TT w hs k (sF f x) (upA (gF f z) 1 (dpt (gF f z 1) b g c)) (rF f) = TH w hs k (mvd f b g c) x z := by
  have h9 := hR.2.2.1
  have v3 : mvd f b g c (24 + 10 * b + 3) = 1 := (mvd_n (by omega)).trans hs1
  refine TH_b1 hR hb (fun j hj _ _ _ => mvd_n (by omega)) (fun q hq => ?_) (fun j hj => dpt_n (by omega) (by omega) (by omega))
  rcases c10 hq with e | e | e | e | e | e | e | e | e | e <;> subst e
  · rw [dpt_n (by omega) (by omega) (by omega), gF_1 hb (by omega), nv_o (by omega), nv_o (by omega), mvd_n (by omega)]
  · rw [dpt_n (by omega) (by omega) (by omega), gF_1 hb (by omega), nv_o (by omega), nv_o (by omega), mvd_n (by omega)]
  · rw [dpt_n (by omega) (by omega) (by omega), gF_1 hb (by omega), nv_o (by omega), nv_o (by omega), mvd_n (by omega)]
  · rw [dpt_n (by omega) (by omega) (by omega), gF_1 hb (by omega), nv_o (by omega), nv_o (by omega), mvd_n (by omega)]
  · rw [nv4 (Or.inl v3), mvd_4]; unfold dpt; rw [pk_un (by omega), pk_us]
  · rw [nv5 (Or.inl v3), mvd_5]; unfold dpt; rw [pk_us]
  · rw [dpt_n (by omega) (by omega) (by omega), gF_1 hb (by omega), nv_o (by omega), nv_o (by omega), mvd_n (by omega)]
  · rw [dpt_n (by omega) (by omega) (by omega), gF_1 hb (by omega), nv7n (by rw [hs1]; decide), nv7n (by rw [v3]; decide)]
  · rw [dpt_n (by omega) (by omega) (by omega), gF_1 hb (by omega), nv_o (by omega), nv_o (by omega), mvd_n (by omega)]
  · rw [nv_o (by omega), mvd_9]; unfold dpt; rw [pk_un (by omega), pk_un (by omega), pk_us, gF_1 hb (by omega), nv_o (by omega)]
def drH (w : Wt) (hs : Hs) (k : Nat) (x : Int32) (z : Nat → Nat → Int32) (b : Nat) (S : Bool × (Nat → Int32)) : Hs := if S.1 = true then TT w hs k (sF S.2 x) (upA (gF S.2 z) 1 (dpt (gF S.2 z 1) b (-1) (-1))) (rF S.2) else TH w hs k S.2 x z
set_option maxHeartbeats 4000000 in
set_option maxRecDepth 100000 in
theorem t_drift {l : Launch} {w : Wt} {hs : Hs} {n : Option Nat} {k : Nat} {f : Nat → Int32} {x : Int32} {z : Nat → Nat → Int32} (hR : RIs f) {b : Nat} (hb : b < bN f) (hs1 : f (24 + 10 * b + 3) = 1) : Cn l w mX4_driftsIntoDrain 0 0 [.ref (wB w + k), .int (nI b)] (TH w hs k f x z) n (drH w hs k x z b (drs (bN f) b (dcl f b).toNatClampNeg f)) n (some (.int (bI (drs (bN f) b (dcl f b).toNatClampNeg f).1))) := by
  generalize hS : drs (bN f) b (dcl f b).toNatClampNeg f = S9
  have h9 := hR.2.2.1
  have h6 := hR.1.2.1
  have hC := hR.inC hb (Or.inl hs1)
  refine Cn.of (d := mX4_driftsIntoDrain) (by decide +kernel) (Nat.le_of_ble_eq_true rfl) ?_
  intro p e R s m args below meth c CX
  replace CX : Ctx p s m args meth c R w RX4 "driftsIntoDrain" cX4_driftsIntoDrain 6 (some .boolean) 2 47 0 0 := CX
  show ZW p l e R s m args below meth c w 6 _ _ 0 0 (MQ below (Qn w _ _ _) args s 0 0 (wA w)) 0 [(0, .ref (wB w + k)), (1, .int _)] []
  generalize hD : dcl f b = D9 at hS
  have hD9 : D9.toNatClampNeg < 2 ^ 31 := by rw [← hD]; exact dcl_lt f b
  obtain ⟨q0, y0, L0, c1, c2, c3, c4, c5, c6⟩ := id hC
  have LP : ∀ (j i : Nat) (f1 : Nat → Int32), i + j = D9.toNatClampNeg → RIs f1 → gN f1 = gN f → bN f1 = bN f → f1 (24 + 10 * b + 3) = 1 → inC9 f1 (gN f1) b → drs (bN f1) b j f1 = S9 → ZW p l e R s m args below meth c w 6 (TH w hs k f1 x z) n 0 0 (MQ below (Qn w (drH w hs k x z b S9) n (some (.int (bI S9.1)))) args s 0 0 (wA w)) 37 [(0, .ref (wB w + k)), (1, .int (nI b)), (2, .int D9), (3, .int (nI i))] [] := by
    intro j
    induction j with
    | zero =>
      intro i f1 hi hR1 eg eb hs1 hC e1
      refine z_iload_n CX 3 dX4_driftsIntoDrain_37 rfl rfl ?_
      refine z_iload_n CX 2 dX4_driftsIntoDrain_38 rfl rfl ?_
      refine z_icmp_ge CX 156 dX4_driftsIntoDrain_39 (by decide) (fun _ => ?_) (fun q9 => absurd ((cl_le (by omega)).mpr (by omega)) q9)
      refine z_iconst CX (v := 0) dX4_driftsIntoDrain_156 (by decide) ?_
      exact z_zret CX dX4_driftsIntoDrain_157 rfl (by first | rfl | exact bI_nar _) (congrArg Value.int (by rw [← e1]; rfl)) (by rw [← e1]; rfl) (Or.inl rfl)
    | succ j ih =>
      intro i f1 hi hR1 eg eb hs1 hC e1
      have h11 : bN f1 ≤ 11 := hR1.2.2.1
      have h6 := hR1.1.2.1
      have hb1 : b < bN f1 := by omega
      obtain ⟨q, y, L, c1, c2, c3, c4, c5, c6⟩ := id hC
      have cle : f1 (4 * (f1 (24 + 10 * b + 4)).toNatClampNeg + 0) = nI L := by rw [c2, nI_clamp (by omega)]; exact c4
      have eD : ¬ D9 ≤ nI i := fun z => absurd ((cl_le (by omega)).mp z) (by omega)
      by_cases e0 : y + 1 < L
      · have hnz : ¬ (f1 (24 + 10 * b + 5) + 1 = f1 (4 * (f1 (24 + 10 * b + 4)).toNatClampNeg + 0) ∧ f1 (24 + 10 * b + 4) = 0) := fun z => by
          have := z.1
          rw [cle, c3, nI_1] at this
          have := (nI_eq (by omega) (by omega)).mp this
          omega
        have hmv : mv f1 (bN f1) b = mv2 f1 (bN f1) b (nI q) (nI (y + 1)) := by
          unfold mv
          rw [if_neg (fun z => by rw [cle, c3, nI_1] at z; have := (nI_eq (by omega) (by omega)).mp z; omega), c2, c3, nI_1]
        refine z_iload_n CX 3 dX4_driftsIntoDrain_37 rfl rfl ?_
        refine z_iload_n CX 2 dX4_driftsIntoDrain_38 rfl rfl ?_
        refine z_icmp_ge CX 156 dX4_driftsIntoDrain_39 (by decide) (fun q9 => absurd q9 eD) (fun _ => ?_)
        refine z_aload_n CX 0 dX4_driftsIntoDrain_42 rfl rfl ?_
        refine z_aload_n CX 0 dX4_driftsIntoDrain_43 rfl rfl ?_
        refine z_get CX dX4_driftsIntoDrain_44 fg_X4_20 to_0 rfl ?_
        refine z_iload_n CX 1 dX4_driftsIntoDrain_47 rfl rfl ?_
        refine z_iconst CX (v := 4) dX4_driftsIntoDrain_48 (by decide) ?_
        refine z_callV1 CX dX4_driftsIntoDrain_49 cv_X4_71 (hB_4 hR1 hb1 (Or.inl hs1)) to_3 rfl rfl (Nat.le_of_ble_eq_true rfl) ⟨Nat.le_of_ble_eq_true rfl, Nat.le_of_ble_eq_true rfl⟩ ⟨Nat.le_refl _, Nat.le_refl _⟩ ?_
        rw [c2]
        refine z_aload_n CX 0 dX4_driftsIntoDrain_52 rfl rfl ?_
        refine z_get CX dX4_driftsIntoDrain_53 fg_X4_20 to_0 rfl ?_
        refine z_iload_n CX 1 dX4_driftsIntoDrain_56 rfl rfl ?_
        refine z_iconst CX (v := 5) dX4_driftsIntoDrain_57 (by decide) ?_
        refine z_callV1 CX dX4_driftsIntoDrain_58 cv_X4_71 (hB_5 hR1 hb1 (Or.inl hs1)) to_3 rfl rfl (Nat.le_of_ble_eq_true rfl) ⟨Nat.le_of_ble_eq_true rfl, Nat.le_of_ble_eq_true rfl⟩ ⟨Nat.le_refl _, Nat.le_refl _⟩ ?_
        rw [c3]
        refine z_callV1 CX dX4_driftsIntoDrain_61 cv_X4_161 (t_nxG hR1 (i := q) (by omega) _) to_0 rfl rfl (Nat.le_of_ble_eq_true rfl) ⟨Nat.le_of_ble_eq_true rfl, Nat.le_of_ble_eq_true rfl⟩ ⟨Nat.le_refl _, Nat.le_refl _⟩ ?_
        rw [if_pos (show nI y + 1 < f1 (4 * q + 0) by rw [nI_1, c4]; exact nI_lt e0 (by omega))]
        refine z_istore CX dX4_driftsIntoDrain_64 (by decide) ?_
        refine z_aload_n CX 0 dX4_driftsIntoDrain_66 rfl rfl ?_
        refine z_aload_n CX 0 dX4_driftsIntoDrain_67 rfl rfl ?_
        refine z_get CX dX4_driftsIntoDrain_68 fg_X4_20 to_0 rfl ?_
        refine z_iload_n CX 1 dX4_driftsIntoDrain_71 rfl rfl ?_
        refine z_iconst CX (v := 4) dX4_driftsIntoDrain_72 (by decide) ?_
        refine z_callV1 CX dX4_driftsIntoDrain_73 cv_X4_71 (hB_4 hR1 hb1 (Or.inl hs1)) to_3 rfl rfl (Nat.le_of_ble_eq_true rfl) ⟨Nat.le_of_ble_eq_true rfl, Nat.le_of_ble_eq_true rfl⟩ ⟨Nat.le_refl _, Nat.le_refl _⟩ ?_
        rw [c2]
        refine z_aload_n CX 0 dX4_driftsIntoDrain_76 rfl rfl ?_
        refine z_get CX dX4_driftsIntoDrain_77 fg_X4_20 to_0 rfl ?_
        refine z_iload_n CX 1 dX4_driftsIntoDrain_80 rfl rfl ?_
        refine z_iconst CX (v := 5) dX4_driftsIntoDrain_81 (by decide) ?_
        refine z_callV1 CX dX4_driftsIntoDrain_82 cv_X4_71 (hB_5 hR1 hb1 (Or.inl hs1)) to_3 rfl rfl (Nat.le_of_ble_eq_true rfl) ⟨Nat.le_of_ble_eq_true rfl, Nat.le_of_ble_eq_true rfl⟩ ⟨Nat.le_refl _, Nat.le_refl _⟩ ?_
        rw [c3]
        refine z_callV1 CX dX4_driftsIntoDrain_85 cv_X4_164 (t_nxC hR1 (i := q) (by omega) _) to_0 rfl rfl (Nat.le_of_ble_eq_true rfl) ⟨Nat.le_of_ble_eq_true rfl, Nat.le_of_ble_eq_true rfl⟩ ⟨Nat.le_refl _, Nat.le_refl _⟩ ?_
        rw [if_pos (show nI y + 1 < f1 (4 * q + 0) by rw [nI_1, c4]; exact nI_lt e0 (by omega)), nI_1 y]
        refine z_istore CX dX4_driftsIntoDrain_88 (by decide) ?_
        refine z_iload CX dX4_driftsIntoDrain_90 rfl ?_
        refine z_iconst CX (v := (-1 : Int32)) dX4_driftsIntoDrain_92 (by decide) ?_
        refine z_icmp_eq CX 109 dX4_driftsIntoDrain_93 (by decide) (fun q9 => absurd q9 (nI_nm1 (by omega))) (fun _ => ?_)
        refine z_aload_n CX 0 dX4_driftsIntoDrain_96 rfl rfl ?_
        refine z_iload CX dX4_driftsIntoDrain_97 rfl ?_
        refine z_iload CX dX4_driftsIntoDrain_99 rfl ?_
        refine z_callV1 CX dX4_driftsIntoDrain_101 cv_X4_167 (t_hasW hR1 _ _) to_0 rfl rfl (Nat.le_of_ble_eq_true rfl) ⟨Nat.le_of_ble_eq_true rfl, Nat.le_of_ble_eq_true rfl⟩ ⟨Nat.le_refl _, Nat.le_refl _⟩ ?_
        refine z_if_eq CX 109 dX4_driftsIntoDrain_104 (by decide) (fun c_104 => ?_) (fun c_104 => ?_)
        · skip
          refine z_aload_n CX 0 dX4_driftsIntoDrain_109 rfl rfl ?_
          refine z_get CX dX4_driftsIntoDrain_110 fg_X4_20 to_0 rfl ?_
          refine z_iload_n CX 1 dX4_driftsIntoDrain_113 rfl rfl ?_
          refine z_bipush CX (v := 9) dX4_driftsIntoDrain_114 (by decide) ?_
          refine z_iconst CX (v := 1) dX4_driftsIntoDrain_116 (by decide) ?_
          refine z_callV0 CX dX4_driftsIntoDrain_117 cv_X4_142 (tB_inc (show bN f1 ≤ 11 from h11) (b := b) (c := 9) hb1 (by omega) _) to_3 rfl rfl (Nat.le_of_ble_eq_true rfl) ⟨Nat.le_of_ble_eq_true rfl, Nat.le_of_ble_eq_true rfl⟩ ⟨Nat.le_refl _, Nat.le_refl _⟩ ?_
          refine z_aload_n CX 0 dX4_driftsIntoDrain_120 rfl rfl ?_
          refine z_get CX dX4_driftsIntoDrain_121 fg_X4_20 to_0 rfl ?_
          refine z_iload_n CX 1 dX4_driftsIntoDrain_124 rfl rfl ?_
          refine z_iconst CX (v := 4) dX4_driftsIntoDrain_125 (by decide) ?_
          refine z_iload CX dX4_driftsIntoDrain_126 rfl ?_
          refine z_callV0 CX dX4_driftsIntoDrain_128 cv_X4_37 (tB_put (show bN f1 ≤ 11 from h11) (b := b) (c := 4) hb1 (by omega) _) to_3 rfl rfl (Nat.le_of_ble_eq_true rfl) ⟨Nat.le_of_ble_eq_true rfl, Nat.le_of_ble_eq_true rfl⟩ ⟨Nat.le_refl _, Nat.le_refl _⟩ ?_
          refine z_heap (congrArg (fun z => TT _ _ _ _ z _) upA_up) ?_
          refine z_aload_n CX 0 dX4_driftsIntoDrain_131 rfl rfl ?_
          refine z_get CX dX4_driftsIntoDrain_132 fg_X4_20 to_0 rfl ?_
          refine z_iload_n CX 1 dX4_driftsIntoDrain_135 rfl rfl ?_
          refine z_iconst CX (v := 5) dX4_driftsIntoDrain_136 (by decide) ?_
          refine z_iload CX dX4_driftsIntoDrain_137 rfl ?_
          refine z_callV0 CX dX4_driftsIntoDrain_139 cv_X4_37 (tB_put (show bN f1 ≤ 11 from h11) (b := b) (c := 5) hb1 (by omega) _) to_3 rfl rfl (Nat.le_of_ble_eq_true rfl) ⟨Nat.le_of_ble_eq_true rfl, Nat.le_of_ble_eq_true rfl⟩ ⟨Nat.le_refl _, Nat.le_refl _⟩ ?_
          refine z_heap (congrArg (fun z => TT _ _ _ _ z _) upA_up) ?_
          refine z_heap (show _ = TH w hs k (mvd f1 b (nI q) (nI (y + 1))) x z from TH_mvd hR1 hb1 hs1) ?_
          refine z_iload CX dX4_driftsIntoDrain_142 rfl ?_
          refine z_iconst CX (v := (-1 : Int32)) dX4_driftsIntoDrain_144 (by decide) ?_
          refine z_icmp_ne CX 150 dX4_driftsIntoDrain_145 (by decide) (fun _ => ?_) (fun q9 => absurd q9 (nI_nm1 (by omega)))
          refine z_iinc CX (v := nI (i + 1)) dX4_driftsIntoDrain_150 rfl (nI_1 i) (by decide) ?_
          refine z_goto CX 37 dX4_driftsIntoDrain_153 (by decide) ?_
          have hw : wrk f1 (bN f1) (nI q) (nI (y + 1)) = false := bI_f c_104
          have hm2 : mv f1 (bN f1) b = (true, mvd f1 b (nI q) (nI (y + 1))) := by rw [hmv]; unfold mv2; rw [hw]; rfl
          have hMv : Mv f1 (mvd f1 b (nI q) (nI (y + 1))) b := fun j h1 h2 h3 => by unfold mvd; rw [pk_un h3, pk_un h2, pk_un h1]
          have hC2 : inC9 (mvd f1 b (nI q) (nI (y + 1))) (gN f1) b := by
            rcases mv_go (nb := bN f1) hR1.1 hC (show b < 11 by omega) with ⟨-, m2, -⟩ | ⟨m1, -⟩
            · rw [hm2] at m2; exact m2
            · rw [hm2] at m1; cases m1
          have g2 : gN (mvd f1 b (nI q) (nI (y + 1))) = gN f1 := gN_e (mvd_n (by omega))
          have n2 : bN (mvd f1 b (nI q) (nI (y + 1))) = bN f1 := bN_e (mvd_n (by omega))
          refine z_loc [(0, .ref (wB w + k)), (1, .int (nI b)), (2, .int D9), (3, .int (nI (i + 1)))] ⟨rfl, rfl, rfl, rfl, trivial⟩ ?_
          exact ih (i + 1) _ (by omega) (RIs.of (RI_Mv hR1 hb1 hs1 hMv hC2)) (g2.trans eg) (n2.trans eb) ((mvd_n (by omega)).trans hs1) (by rw [g2]; exact hC2) (by rw [n2, ← e1, drs, if_neg hnz, hm2]; rfl)
        · skip
          refine z_iconst CX (v := 0) dX4_driftsIntoDrain_107 (by decide) ?_
          exact z_zret CX dX4_driftsIntoDrain_108 rfl (by first | rfl | exact bI_nar _) (congrArg Value.int (by rw [← e1, drs, if_neg hnz, if_neg (by rw [hmv]; unfold mv2; rw [if_pos (show wrk f1 (bN f1) (nI q) (nI (y + 1)) = true from bI_t c_104)]; exact fun z => by cases z)]; rfl)) (by rw [← e1, drs, if_neg hnz, if_neg (by rw [hmv]; unfold mv2; rw [if_pos (show wrk f1 (bN f1) (nI q) (nI (y + 1)) = true from bI_t c_104)]; exact fun z => by cases z)]; rfl) (Or.inl rfl)
      · have eL : f1 (24 + 10 * b + 5) + 1 = f1 (4 * (f1 (24 + 10 * b + 4)).toNatClampNeg + 0) := by rw [cle, c3, nI_1, show y + 1 = L by omega]
        by_cases eq0 : q = 0
        · subst eq0
          have h2 := hR1.1.2.2.1 c1
          have hS : S9 = (true, f1) := by rw [← e1, drs, if_pos ⟨eL, c2⟩]
          rw [hS]
          refine z_iload_n CX 3 dX4_driftsIntoDrain_37 rfl rfl ?_
          refine z_iload_n CX 2 dX4_driftsIntoDrain_38 rfl rfl ?_
          refine z_icmp_ge CX 156 dX4_driftsIntoDrain_39 (by decide) (fun q9 => absurd q9 eD) (fun _ => ?_)
          refine z_aload_n CX 0 dX4_driftsIntoDrain_42 rfl rfl ?_
          refine z_aload_n CX 0 dX4_driftsIntoDrain_43 rfl rfl ?_
          refine z_get CX dX4_driftsIntoDrain_44 fg_X4_20 to_0 rfl ?_
          refine z_iload_n CX 1 dX4_driftsIntoDrain_47 rfl rfl ?_
          refine z_iconst CX (v := 4) dX4_driftsIntoDrain_48 (by decide) ?_
          refine z_callV1 CX dX4_driftsIntoDrain_49 cv_X4_71 (hB_4 hR1 hb1 (Or.inl hs1)) to_3 rfl rfl (Nat.le_of_ble_eq_true rfl) ⟨Nat.le_of_ble_eq_true rfl, Nat.le_of_ble_eq_true rfl⟩ ⟨Nat.le_refl _, Nat.le_refl _⟩ ?_
          rw [c2]
          refine z_aload_n CX 0 dX4_driftsIntoDrain_52 rfl rfl ?_
          refine z_get CX dX4_driftsIntoDrain_53 fg_X4_20 to_0 rfl ?_
          refine z_iload_n CX 1 dX4_driftsIntoDrain_56 rfl rfl ?_
          refine z_iconst CX (v := 5) dX4_driftsIntoDrain_57 (by decide) ?_
          refine z_callV1 CX dX4_driftsIntoDrain_58 cv_X4_71 (hB_5 hR1 hb1 (Or.inl hs1)) to_3 rfl rfl (Nat.le_of_ble_eq_true rfl) ⟨Nat.le_of_ble_eq_true rfl, Nat.le_of_ble_eq_true rfl⟩ ⟨Nat.le_refl _, Nat.le_refl _⟩ ?_
          rw [c3]
          refine z_callV1 CX dX4_driftsIntoDrain_61 cv_X4_161 (t_nxG hR1 (i := 0) (by omega) _) to_0 rfl rfl (Nat.le_of_ble_eq_true rfl) ⟨Nat.le_of_ble_eq_true rfl, Nat.le_of_ble_eq_true rfl⟩ ⟨Nat.le_refl _, Nat.le_refl _⟩ ?_
          rw [if_neg (show ¬ nI y + 1 < f1 (4 * 0 + 0) by rw [nI_1, c4]; exact nI_nlt (by omega) (by omega)), show f1 (4 * 0 + 2) = -1 from h2.1]
          refine z_istore CX dX4_driftsIntoDrain_64 (by decide) ?_
          refine z_aload_n CX 0 dX4_driftsIntoDrain_66 rfl rfl ?_
          refine z_aload_n CX 0 dX4_driftsIntoDrain_67 rfl rfl ?_
          refine z_get CX dX4_driftsIntoDrain_68 fg_X4_20 to_0 rfl ?_
          refine z_iload_n CX 1 dX4_driftsIntoDrain_71 rfl rfl ?_
          refine z_iconst CX (v := 4) dX4_driftsIntoDrain_72 (by decide) ?_
          refine z_callV1 CX dX4_driftsIntoDrain_73 cv_X4_71 (hB_4 hR1 hb1 (Or.inl hs1)) to_3 rfl rfl (Nat.le_of_ble_eq_true rfl) ⟨Nat.le_of_ble_eq_true rfl, Nat.le_of_ble_eq_true rfl⟩ ⟨Nat.le_refl _, Nat.le_refl _⟩ ?_
          rw [c2]
          refine z_aload_n CX 0 dX4_driftsIntoDrain_76 rfl rfl ?_
          refine z_get CX dX4_driftsIntoDrain_77 fg_X4_20 to_0 rfl ?_
          refine z_iload_n CX 1 dX4_driftsIntoDrain_80 rfl rfl ?_
          refine z_iconst CX (v := 5) dX4_driftsIntoDrain_81 (by decide) ?_
          refine z_callV1 CX dX4_driftsIntoDrain_82 cv_X4_71 (hB_5 hR1 hb1 (Or.inl hs1)) to_3 rfl rfl (Nat.le_of_ble_eq_true rfl) ⟨Nat.le_of_ble_eq_true rfl, Nat.le_of_ble_eq_true rfl⟩ ⟨Nat.le_refl _, Nat.le_refl _⟩ ?_
          rw [c3]
          refine z_callV1 CX dX4_driftsIntoDrain_85 cv_X4_164 (t_nxC hR1 (i := 0) (by omega) _) to_0 rfl rfl (Nat.le_of_ble_eq_true rfl) ⟨Nat.le_of_ble_eq_true rfl, Nat.le_of_ble_eq_true rfl⟩ ⟨Nat.le_refl _, Nat.le_refl _⟩ ?_
          rw [if_neg (show ¬ nI y + 1 < f1 (4 * 0 + 0) by rw [nI_1, c4]; exact nI_nlt (by omega) (by omega)), show f1 (4 * 0 + 3) = -1 from h2.2]
          refine z_istore CX dX4_driftsIntoDrain_88 (by decide) ?_
          refine z_iload CX dX4_driftsIntoDrain_90 rfl ?_
          refine z_iconst CX (v := (-1 : Int32)) dX4_driftsIntoDrain_92 (by decide) ?_
          refine z_icmp_eq CX 109 dX4_driftsIntoDrain_93 (by decide) (fun _ => ?_) (fun q9 => absurd rfl q9)
          refine z_aload_n CX 0 dX4_driftsIntoDrain_109 rfl rfl ?_
          refine z_get CX dX4_driftsIntoDrain_110 fg_X4_20 to_0 rfl ?_
          refine z_iload_n CX 1 dX4_driftsIntoDrain_113 rfl rfl ?_
          refine z_bipush CX (v := 9) dX4_driftsIntoDrain_114 (by decide) ?_
          refine z_iconst CX (v := 1) dX4_driftsIntoDrain_116 (by decide) ?_
          refine z_callV0 CX dX4_driftsIntoDrain_117 cv_X4_142 (tB_inc (show bN f1 ≤ 11 from h11) (b := b) (c := 9) hb1 (by omega) _) to_3 rfl rfl (Nat.le_of_ble_eq_true rfl) ⟨Nat.le_of_ble_eq_true rfl, Nat.le_of_ble_eq_true rfl⟩ ⟨Nat.le_refl _, Nat.le_refl _⟩ ?_
          refine z_aload_n CX 0 dX4_driftsIntoDrain_120 rfl rfl ?_
          refine z_get CX dX4_driftsIntoDrain_121 fg_X4_20 to_0 rfl ?_
          refine z_iload_n CX 1 dX4_driftsIntoDrain_124 rfl rfl ?_
          refine z_iconst CX (v := 4) dX4_driftsIntoDrain_125 (by decide) ?_
          refine z_iload CX dX4_driftsIntoDrain_126 rfl ?_
          refine z_callV0 CX dX4_driftsIntoDrain_128 cv_X4_37 (tB_put (show bN f1 ≤ 11 from h11) (b := b) (c := 4) hb1 (by omega) _) to_3 rfl rfl (Nat.le_of_ble_eq_true rfl) ⟨Nat.le_of_ble_eq_true rfl, Nat.le_of_ble_eq_true rfl⟩ ⟨Nat.le_refl _, Nat.le_refl _⟩ ?_
          refine z_heap (congrArg (fun z => TT _ _ _ _ z _) upA_up) ?_
          refine z_aload_n CX 0 dX4_driftsIntoDrain_131 rfl rfl ?_
          refine z_get CX dX4_driftsIntoDrain_132 fg_X4_20 to_0 rfl ?_
          refine z_iload_n CX 1 dX4_driftsIntoDrain_135 rfl rfl ?_
          refine z_iconst CX (v := 5) dX4_driftsIntoDrain_136 (by decide) ?_
          refine z_iload CX dX4_driftsIntoDrain_137 rfl ?_
          refine z_callV0 CX dX4_driftsIntoDrain_139 cv_X4_37 (tB_put (show bN f1 ≤ 11 from h11) (b := b) (c := 5) hb1 (by omega) _) to_3 rfl rfl (Nat.le_of_ble_eq_true rfl) ⟨Nat.le_of_ble_eq_true rfl, Nat.le_of_ble_eq_true rfl⟩ ⟨Nat.le_refl _, Nat.le_refl _⟩ ?_
          refine z_heap (congrArg (fun z => TT _ _ _ _ z _) upA_up) ?_
          refine z_iload CX dX4_driftsIntoDrain_142 rfl ?_
          refine z_iconst CX (v := (-1 : Int32)) dX4_driftsIntoDrain_144 (by decide) ?_
          refine z_icmp_ne CX 150 dX4_driftsIntoDrain_145 (by decide) (fun q9 => absurd q9 (fun z => z rfl)) (fun _ => ?_)
          refine z_iconst CX (v := 1) dX4_driftsIntoDrain_148 (by decide) ?_
          exact z_zret CX dX4_driftsIntoDrain_149 rfl (by first | rfl | exact bI_nar _) rfl rfl (Or.inl rfl)
        · obtain ⟨i9, a9, L9, d1, d2, d3, d4, d5, d6⟩ := (hR1.1.2.2.2 q c1).2.2 (by omega)
          have hnz : ¬ (f1 (24 + 10 * b + 5) + 1 = f1 (4 * (f1 (24 + 10 * b + 4)).toNatClampNeg + 0) ∧ f1 (24 + 10 * b + 4) = 0) := fun z => by
            have := z.2
            rw [c2] at this
            exact nI_ne0 (by omega) (by omega) this
          have hmv : mv f1 (bN f1) b = mv2 f1 (bN f1) b (nI i9) (nI a9) := by
            unfold mv
            rw [if_pos eL, if_neg (by rw [c2]; exact nI_ne0 (by omega) (by omega)), c2, nI_clamp (by omega), d2, d3]
          refine z_iload_n CX 3 dX4_driftsIntoDrain_37 rfl rfl ?_
          refine z_iload_n CX 2 dX4_driftsIntoDrain_38 rfl rfl ?_
          refine z_icmp_ge CX 156 dX4_driftsIntoDrain_39 (by decide) (fun q9 => absurd q9 eD) (fun _ => ?_)
          refine z_aload_n CX 0 dX4_driftsIntoDrain_42 rfl rfl ?_
          refine z_aload_n CX 0 dX4_driftsIntoDrain_43 rfl rfl ?_
          refine z_get CX dX4_driftsIntoDrain_44 fg_X4_20 to_0 rfl ?_
          refine z_iload_n CX 1 dX4_driftsIntoDrain_47 rfl rfl ?_
          refine z_iconst CX (v := 4) dX4_driftsIntoDrain_48 (by decide) ?_
          refine z_callV1 CX dX4_driftsIntoDrain_49 cv_X4_71 (hB_4 hR1 hb1 (Or.inl hs1)) to_3 rfl rfl (Nat.le_of_ble_eq_true rfl) ⟨Nat.le_of_ble_eq_true rfl, Nat.le_of_ble_eq_true rfl⟩ ⟨Nat.le_refl _, Nat.le_refl _⟩ ?_
          rw [c2]
          refine z_aload_n CX 0 dX4_driftsIntoDrain_52 rfl rfl ?_
          refine z_get CX dX4_driftsIntoDrain_53 fg_X4_20 to_0 rfl ?_
          refine z_iload_n CX 1 dX4_driftsIntoDrain_56 rfl rfl ?_
          refine z_iconst CX (v := 5) dX4_driftsIntoDrain_57 (by decide) ?_
          refine z_callV1 CX dX4_driftsIntoDrain_58 cv_X4_71 (hB_5 hR1 hb1 (Or.inl hs1)) to_3 rfl rfl (Nat.le_of_ble_eq_true rfl) ⟨Nat.le_of_ble_eq_true rfl, Nat.le_of_ble_eq_true rfl⟩ ⟨Nat.le_refl _, Nat.le_refl _⟩ ?_
          rw [c3]
          refine z_callV1 CX dX4_driftsIntoDrain_61 cv_X4_161 (t_nxG hR1 (i := q) (by omega) _) to_0 rfl rfl (Nat.le_of_ble_eq_true rfl) ⟨Nat.le_of_ble_eq_true rfl, Nat.le_of_ble_eq_true rfl⟩ ⟨Nat.le_refl _, Nat.le_refl _⟩ ?_
          rw [if_neg (show ¬ nI y + 1 < f1 (4 * q + 0) by rw [nI_1, c4]; exact nI_nlt (by omega) (by omega)), d2]
          refine z_istore CX dX4_driftsIntoDrain_64 (by decide) ?_
          refine z_aload_n CX 0 dX4_driftsIntoDrain_66 rfl rfl ?_
          refine z_aload_n CX 0 dX4_driftsIntoDrain_67 rfl rfl ?_
          refine z_get CX dX4_driftsIntoDrain_68 fg_X4_20 to_0 rfl ?_
          refine z_iload_n CX 1 dX4_driftsIntoDrain_71 rfl rfl ?_
          refine z_iconst CX (v := 4) dX4_driftsIntoDrain_72 (by decide) ?_
          refine z_callV1 CX dX4_driftsIntoDrain_73 cv_X4_71 (hB_4 hR1 hb1 (Or.inl hs1)) to_3 rfl rfl (Nat.le_of_ble_eq_true rfl) ⟨Nat.le_of_ble_eq_true rfl, Nat.le_of_ble_eq_true rfl⟩ ⟨Nat.le_refl _, Nat.le_refl _⟩ ?_
          rw [c2]
          refine z_aload_n CX 0 dX4_driftsIntoDrain_76 rfl rfl ?_
          refine z_get CX dX4_driftsIntoDrain_77 fg_X4_20 to_0 rfl ?_
          refine z_iload_n CX 1 dX4_driftsIntoDrain_80 rfl rfl ?_
          refine z_iconst CX (v := 5) dX4_driftsIntoDrain_81 (by decide) ?_
          refine z_callV1 CX dX4_driftsIntoDrain_82 cv_X4_71 (hB_5 hR1 hb1 (Or.inl hs1)) to_3 rfl rfl (Nat.le_of_ble_eq_true rfl) ⟨Nat.le_of_ble_eq_true rfl, Nat.le_of_ble_eq_true rfl⟩ ⟨Nat.le_refl _, Nat.le_refl _⟩ ?_
          rw [c3]
          refine z_callV1 CX dX4_driftsIntoDrain_85 cv_X4_164 (t_nxC hR1 (i := q) (by omega) _) to_0 rfl rfl (Nat.le_of_ble_eq_true rfl) ⟨Nat.le_of_ble_eq_true rfl, Nat.le_of_ble_eq_true rfl⟩ ⟨Nat.le_refl _, Nat.le_refl _⟩ ?_
          rw [if_neg (show ¬ nI y + 1 < f1 (4 * q + 0) by rw [nI_1, c4]; exact nI_nlt (by omega) (by omega)), d3]
          refine z_istore CX dX4_driftsIntoDrain_88 (by decide) ?_
          refine z_iload CX dX4_driftsIntoDrain_90 rfl ?_
          refine z_iconst CX (v := (-1 : Int32)) dX4_driftsIntoDrain_92 (by decide) ?_
          refine z_icmp_eq CX 109 dX4_driftsIntoDrain_93 (by decide) (fun q9 => absurd q9 (nI_nm1 (by omega))) (fun _ => ?_)
          refine z_aload_n CX 0 dX4_driftsIntoDrain_96 rfl rfl ?_
          refine z_iload CX dX4_driftsIntoDrain_97 rfl ?_
          refine z_iload CX dX4_driftsIntoDrain_99 rfl ?_
          refine z_callV1 CX dX4_driftsIntoDrain_101 cv_X4_167 (t_hasW hR1 _ _) to_0 rfl rfl (Nat.le_of_ble_eq_true rfl) ⟨Nat.le_of_ble_eq_true rfl, Nat.le_of_ble_eq_true rfl⟩ ⟨Nat.le_refl _, Nat.le_refl _⟩ ?_
          refine z_if_eq CX 109 dX4_driftsIntoDrain_104 (by decide) (fun c_104 => ?_) (fun c_104 => ?_)
          · skip
            refine z_aload_n CX 0 dX4_driftsIntoDrain_109 rfl rfl ?_
            refine z_get CX dX4_driftsIntoDrain_110 fg_X4_20 to_0 rfl ?_
            refine z_iload_n CX 1 dX4_driftsIntoDrain_113 rfl rfl ?_
            refine z_bipush CX (v := 9) dX4_driftsIntoDrain_114 (by decide) ?_
            refine z_iconst CX (v := 1) dX4_driftsIntoDrain_116 (by decide) ?_
            refine z_callV0 CX dX4_driftsIntoDrain_117 cv_X4_142 (tB_inc (show bN f1 ≤ 11 from h11) (b := b) (c := 9) hb1 (by omega) _) to_3 rfl rfl (Nat.le_of_ble_eq_true rfl) ⟨Nat.le_of_ble_eq_true rfl, Nat.le_of_ble_eq_true rfl⟩ ⟨Nat.le_refl _, Nat.le_refl _⟩ ?_
            refine z_aload_n CX 0 dX4_driftsIntoDrain_120 rfl rfl ?_
            refine z_get CX dX4_driftsIntoDrain_121 fg_X4_20 to_0 rfl ?_
            refine z_iload_n CX 1 dX4_driftsIntoDrain_124 rfl rfl ?_
            refine z_iconst CX (v := 4) dX4_driftsIntoDrain_125 (by decide) ?_
            refine z_iload CX dX4_driftsIntoDrain_126 rfl ?_
            refine z_callV0 CX dX4_driftsIntoDrain_128 cv_X4_37 (tB_put (show bN f1 ≤ 11 from h11) (b := b) (c := 4) hb1 (by omega) _) to_3 rfl rfl (Nat.le_of_ble_eq_true rfl) ⟨Nat.le_of_ble_eq_true rfl, Nat.le_of_ble_eq_true rfl⟩ ⟨Nat.le_refl _, Nat.le_refl _⟩ ?_
            refine z_heap (congrArg (fun z => TT _ _ _ _ z _) upA_up) ?_
            refine z_aload_n CX 0 dX4_driftsIntoDrain_131 rfl rfl ?_
            refine z_get CX dX4_driftsIntoDrain_132 fg_X4_20 to_0 rfl ?_
            refine z_iload_n CX 1 dX4_driftsIntoDrain_135 rfl rfl ?_
            refine z_iconst CX (v := 5) dX4_driftsIntoDrain_136 (by decide) ?_
            refine z_iload CX dX4_driftsIntoDrain_137 rfl ?_
            refine z_callV0 CX dX4_driftsIntoDrain_139 cv_X4_37 (tB_put (show bN f1 ≤ 11 from h11) (b := b) (c := 5) hb1 (by omega) _) to_3 rfl rfl (Nat.le_of_ble_eq_true rfl) ⟨Nat.le_of_ble_eq_true rfl, Nat.le_of_ble_eq_true rfl⟩ ⟨Nat.le_refl _, Nat.le_refl _⟩ ?_
            refine z_heap (congrArg (fun z => TT _ _ _ _ z _) upA_up) ?_
            refine z_heap (show _ = TH w hs k (mvd f1 b (nI i9) (nI a9)) x z from TH_mvd hR1 hb1 hs1) ?_
            refine z_iload CX dX4_driftsIntoDrain_142 rfl ?_
            refine z_iconst CX (v := (-1 : Int32)) dX4_driftsIntoDrain_144 (by decide) ?_
            refine z_icmp_ne CX 150 dX4_driftsIntoDrain_145 (by decide) (fun _ => ?_) (fun q9 => absurd q9 (nI_nm1 (by omega)))
            refine z_iinc CX (v := nI (i + 1)) dX4_driftsIntoDrain_150 rfl (nI_1 i) (by decide) ?_
            refine z_goto CX 37 dX4_driftsIntoDrain_153 (by decide) ?_
            have hw : wrk f1 (bN f1) (nI i9) (nI a9) = false := bI_f c_104
            have hm2 : mv f1 (bN f1) b = (true, mvd f1 b (nI i9) (nI a9)) := by rw [hmv]; unfold mv2; rw [hw]; rfl
            have hMv : Mv f1 (mvd f1 b (nI i9) (nI a9)) b := fun j h1 h2 h3 => by unfold mvd; rw [pk_un h3, pk_un h2, pk_un h1]
            have hC2 : inC9 (mvd f1 b (nI i9) (nI a9)) (gN f1) b := by
              rcases mv_go (nb := bN f1) hR1.1 hC (show b < 11 by omega) with ⟨-, m2, -⟩ | ⟨m1, -⟩
              · rw [hm2] at m2; exact m2
              · rw [hm2] at m1; cases m1
            have g2 : gN (mvd f1 b (nI i9) (nI a9)) = gN f1 := gN_e (mvd_n (by omega))
            have n2 : bN (mvd f1 b (nI i9) (nI a9)) = bN f1 := bN_e (mvd_n (by omega))
            refine z_loc [(0, .ref (wB w + k)), (1, .int (nI b)), (2, .int D9), (3, .int (nI (i + 1)))] ⟨rfl, rfl, rfl, rfl, trivial⟩ ?_
            exact ih (i + 1) _ (by omega) (RIs.of (RI_Mv hR1 hb1 hs1 hMv hC2)) (g2.trans eg) (n2.trans eb) ((mvd_n (by omega)).trans hs1) (by rw [g2]; exact hC2) (by rw [n2, ← e1, drs, if_neg hnz, hm2]; rfl)
          · skip
            refine z_iconst CX (v := 0) dX4_driftsIntoDrain_107 (by decide) ?_
            exact z_zret CX dX4_driftsIntoDrain_108 rfl (by first | rfl | exact bI_nar _) (congrArg Value.int (by rw [← e1, drs, if_neg hnz, if_neg (by rw [hmv]; unfold mv2; rw [if_pos (show wrk f1 (bN f1) (nI i9) (nI a9) = true from bI_t c_104)]; exact fun z => by cases z)]; rfl)) (by rw [← e1, drs, if_neg hnz, if_neg (by rw [hmv]; unfold mv2; rw [if_pos (show wrk f1 (bN f1) (nI i9) (nI a9) = true from bI_t c_104)]; exact fun z => by cases z)]; rfl) (Or.inl rfl)
  refine z_aload_n CX 0 dX4_driftsIntoDrain_0 rfl rfl ?_
  refine z_get CX dX4_driftsIntoDrain_1 fg_X4_14 to_0 rfl ?_
  refine z_aload_n CX 0 dX4_driftsIntoDrain_4 rfl rfl ?_
  refine z_get CX dX4_driftsIntoDrain_5 fg_X4_20 to_0 rfl ?_
  refine z_iload_n CX 1 dX4_driftsIntoDrain_8 rfl rfl ?_
  refine z_iconst CX (v := 4) dX4_driftsIntoDrain_9 (by decide) ?_
  refine z_callV1 CX dX4_driftsIntoDrain_10 cv_X4_71 (hB_4 hR hb (Or.inl hs1)) to_3 rfl rfl (Nat.le_of_ble_eq_true rfl) ⟨Nat.le_of_ble_eq_true rfl, Nat.le_of_ble_eq_true rfl⟩ ⟨Nat.le_refl _, Nat.le_refl _⟩ ?_
  rw [c2]
  refine z_iconst CX (v := 1) dX4_driftsIntoDrain_13 (by decide) ?_
  refine z_callV1 CX dX4_driftsIntoDrain_14 cv_X4_71 (hG_at hR (b := q0) (c := 1) (by omega) (by omega)) to_1 rfl rfl (Nat.le_of_ble_eq_true rfl) ⟨Nat.le_of_ble_eq_true rfl, Nat.le_of_ble_eq_true rfl⟩ ⟨Nat.le_refl _, Nat.le_refl _⟩ ?_
  refine z_aload_n CX 0 dX4_driftsIntoDrain_17 rfl rfl ?_
  refine z_get CX dX4_driftsIntoDrain_18 fg_X4_41 to_0 rfl ?_
  refine z_iadd CX dX4_driftsIntoDrain_21 ?_
  refine z_aload_n CX 0 dX4_driftsIntoDrain_22 rfl rfl ?_
  refine z_get CX dX4_driftsIntoDrain_23 fg_X4_20 to_0 rfl ?_
  refine z_iload_n CX 1 dX4_driftsIntoDrain_26 rfl rfl ?_
  refine z_iconst CX (v := 0) dX4_driftsIntoDrain_27 (by decide) ?_
  refine z_callV1 CX dX4_driftsIntoDrain_28 cv_X4_71 (hB_o hR (b := b) (c := 0) (by omega) (by omega) (by decide)) to_3 rfl rfl (Nat.le_of_ble_eq_true rfl) ⟨Nat.le_of_ble_eq_true rfl, Nat.le_of_ble_eq_true rfl⟩ ⟨Nat.le_refl _, Nat.le_refl _⟩ ?_
  refine z_iconst CX (v := 4) dX4_driftsIntoDrain_31 (by decide) ?_
  refine z_idiv CX dX4_driftsIntoDrain_32 (by decide) ?_
  refine z_isub CX dX4_driftsIntoDrain_33 ?_
  refine z_stk (st9 := [.int D9]) (congrArg (fun q => [Value.int q]) (show f (4 * q0 + 1) + f 154 - f (24 + 10 * b + 0) / 4 = D9 by rw [← hD]; unfold dcl; rw [c2, nI_clamp (by omega)])) ?_
  refine z_istore_n CX 2 dX4_driftsIntoDrain_34 rfl (by decide) ?_
  refine z_iconst CX (v := 0) dX4_driftsIntoDrain_35 (by decide) ?_
  refine z_istore_n CX 3 dX4_driftsIntoDrain_36 rfl (by decide) ?_
  refine z_loc [(0, .ref (wB w + k)), (1, .int (nI b)), (2, .int D9), (3, .int (nI 0))] ⟨rfl, rfl, rfl, rfl, trivial⟩ ?_
  exact LP D9.toNatClampNeg 0 f (Nat.zero_add _) hR rfl rfl hs1 hC hS
