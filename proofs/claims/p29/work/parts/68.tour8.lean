/-! the tournament: minutes, voyages, the end of a heat under way -/
theorem arv_9 {f : Nat → Int32} {b : Nat} : arv f b (24 + 10 * b + 9) = f (24 + 10 * b + 9) + 1 := by unfold arv; rw [pk_us]
theorem TH_arr {w : Wt} {hs : Hs} {k : Nat} {F : Nat → Int32} {x : Int32} {z : Nat → Nat → Int32} {b : Nat} (hR : RIs F) (hb : b < bN F) (hs1 : F (24 + 10 * b + 3) = 1) : TT w hs k (sF F x) (upA (gF F z) 1 (upd (tkO (dpt (gF F z 1) b (-1) (-1)) b 2) (b * 10 + 7) (nI (cntN (fun a => decide (dpt (gF F z 1) b (-1) (-1) (a * 10 + 3) = 2)) (rF F 1) + 1)))) (rF F) = TH w hs k (arv F b) x z := by
  have h9 := hR.2.2.1
  have hc : cntN (fun a => decide (dpt (gF F z 1) b (-1) (-1) (a * 10 + 3) = 2)) (rF F 1) = cntS F (bN F) 2 := cntN_c _ (fun j hj => by rw [dpt_n (by omega) (by omega) (by omega), gF_1 hj (by omega), nv_o (by omega)])
  rw [hc]
  have v3 : arv F b (24 + 10 * b + 3) = 2 := arv_3
  have v7 : arv F b (24 + 10 * b + 7) = nI (cntS F (bN F) 2 + 1) := arv_7.trans (by rw [hR.2.2.2.2.2.2.1.1, nI_1])
  have N : ∀ c, c < 3 ∨ c = 6 ∨ c = 8 → arv F b (24 + 10 * b + c) = F (24 + 10 * b + c) := fun c h => arv_n (by omega) (by omega)
  refine TH_b1 hR hb (fun j hj _ _ h => arv_n (by omega) h) (fun q hq => ?_) (fun j hj => by rw [pk_un (by omega), tkO_n (by omega) (by omega) (by omega) (by omega), dpt_n (by omega) (by omega) (by omega)])
  rcases c10 hq with e | e | e | e | e | e | e | e | e | e <;> subst e
  · rw [pk_un (by omega), tkO_n (by omega) (by omega) (by omega) (by omega), dpt_n (by omega) (by omega) (by omega), gF_1 hb (by omega), nv_o (by omega), nv_o (by omega), N _ (by omega)]
  · rw [pk_un (by omega), tkO_n (by omega) (by omega) (by omega) (by omega), dpt_n (by omega) (by omega) (by omega), gF_1 hb (by omega), nv_o (by omega), nv_o (by omega), N _ (by omega)]
  · rw [pk_un (by omega), tkO_n (by omega) (by omega) (by omega) (by omega), dpt_n (by omega) (by omega) (by omega), gF_1 hb (by omega), nv_o (by omega), nv_o (by omega), N _ (by omega)]
  · rw [pk_un (by omega), tkO_3, nv_o (by omega), v3]
  · rw [pk_un (by omega), tkO_4, nv4n (by rw [v3]; decide)]
  · rw [pk_un (by omega), tkO_5, nv5n (by rw [v3]; decide)]
  · rw [pk_un (by omega), tkO_n (by omega) (by omega) (by omega) (by omega), dpt_n (by omega) (by omega) (by omega), gF_1 hb (by omega), nv_o (by omega), nv_o (by omega), N _ (by omega)]
  · rw [pk_us, nv7 v3, v7]
  · rw [pk_un (by omega), tkO_n (by omega) (by omega) (by omega) (by omega), dpt_n (by omega) (by omega) (by omega), gF_1 hb (by omega), nv_o (by omega), nv_o (by omega), N _ (by omega)]
  · rw [pk_un (by omega), tkO_n (by omega) (by omega) (by omega) (by omega)]
    unfold dpt
    rw [pk_un (by omega), pk_un (by omega), pk_us, gF_1 hb (by omega), nv_o (by omega), nv_o (by omega), arv_9]
theorem TH_soa {w : Wt} {hs : Hs} {k : Nat} {F : Nat → Int32} {x : Int32} {z : Nat → Nat → Int32} {b : Nat} (hR : RIs F) (hb : b < bN F) (hs1 : F (24 + 10 * b + 3) = 1) : TT w hs k (sF F x) (upA (gF F z) 1 (skU (gF F z 1) b (sF F x 0) (sF F x 1))) (rF F) = TH w hs k (soa F b) x z := by
  have h9 := hR.2.2.1
  have g : ∀ c, c < 10 → c ≠ 4 ∧ c ≠ 5 ∧ c ≠ 7 → gF F z 1 (b * 10 + c) = F (24 + 10 * b + c) := fun c h1 h2 => (gF_1 hb h1).trans (nv_o h2)
  have e : skU (gF F z 1) b (sF F x 0) (sF F x 1) = if bea F b < F (24 + 10 * b + 6) + (1 + F 154) then upd (upd (gF F z 1) (b * 10 + 6) (F (24 + 10 * b + 6) + (1 + F 154))) (b * 10 + 3) 3 else upd (gF F z 1) (b * 10 + 6) (F (24 + 10 * b + 6) + (1 + F 154)) := by
    unfold skU
    rw [g 0 (by omega) (by omega), g 1 (by omega) (by omega), g 6 (by omega) (by omega)]
    rfl
  rw [e]
  have v6 : soa F b (24 + 10 * b + 6) = F (24 + 10 * b + 6) + (1 + F 154) := soa_6
  have N : ∀ c, c < 10 → c ≠ 3 → c ≠ 6 → soa F b (24 + 10 * b + c) = F (24 + 10 * b + c) := fun c h1 h2 h3 => soa_n (by omega) (by omega)
  by_cases h : bea F b < F (24 + 10 * b + 6) + (1 + F 154)
  · rw [if_pos h]
    have v3 : soa F b (24 + 10 * b + 3) = 3 := soa_3.trans (if_pos h)
    refine TH_b1 hR hb (fun j hj _ _ _ => soa_n (by omega) (by omega)) (fun q hq => ?_) (fun j hj => by rw [pk_un (by omega), pk_un (by omega)])
    rcases c10 hq with e | e | e | e | e | e | e | e | e | e <;> subst e
    · rw [pk_un (by omega), pk_un (by omega), g _ (by omega) (by omega), nv_o (by omega), N _ (by omega) (by omega) (by omega)]
    · rw [pk_un (by omega), pk_un (by omega), g _ (by omega) (by omega), nv_o (by omega), N _ (by omega) (by omega) (by omega)]
    · rw [pk_un (by omega), pk_un (by omega), g _ (by omega) (by omega), nv_o (by omega), N _ (by omega) (by omega) (by omega)]
    · rw [pk_us, nv_o (by omega), v3]
    · rw [pk_un (by omega), pk_un (by omega), gF_1 hb (by omega), nv4 (Or.inl hs1), nv4 (Or.inr v3), N _ (by omega) (by omega) (by omega)]
    · rw [pk_un (by omega), pk_un (by omega), gF_1 hb (by omega), nv5 (Or.inl hs1), nv5 (Or.inr v3), N _ (by omega) (by omega) (by omega)]
    · rw [pk_un (by omega), pk_us, nv_o (by omega), v6]
    · rw [pk_un (by omega), pk_un (by omega), gF_1 hb (by omega), nv7n (by rw [hs1]; decide), nv7n (by rw [v3]; decide)]
    · rw [pk_un (by omega), pk_un (by omega), g _ (by omega) (by omega), nv_o (by omega), N _ (by omega) (by omega) (by omega)]
    · rw [pk_un (by omega), pk_un (by omega), g _ (by omega) (by omega), nv_o (by omega), N _ (by omega) (by omega) (by omega)]
  · rw [if_neg h]
    have v3 : soa F b (24 + 10 * b + 3) = 1 := soa_3.trans (if_neg h)
    refine TH_b1 hR hb (fun j hj _ _ _ => soa_n (by omega) (by omega)) (fun q hq => ?_) (fun j hj => by rw [pk_un (by omega)])
    rcases c10 hq with e | e | e | e | e | e | e | e | e | e <;> subst e
    · rw [pk_un (by omega), g _ (by omega) (by omega), nv_o (by omega), N _ (by omega) (by omega) (by omega)]
    · rw [pk_un (by omega), g _ (by omega) (by omega), nv_o (by omega), N _ (by omega) (by omega) (by omega)]
    · rw [pk_un (by omega), g _ (by omega) (by omega), nv_o (by omega), N _ (by omega) (by omega) (by omega)]
    · rw [pk_un (by omega), g _ (by omega) (by omega), nv_o (by omega), v3, hs1]
    · rw [pk_un (by omega), gF_1 hb (by omega), nv4 (Or.inl hs1), nv4 (Or.inl v3), N _ (by omega) (by omega) (by omega)]
    · rw [pk_un (by omega), gF_1 hb (by omega), nv5 (Or.inl hs1), nv5 (Or.inl v3), N _ (by omega) (by omega) (by omega)]
    · rw [pk_us, nv_o (by omega), v6]
    · rw [pk_un (by omega), gF_1 hb (by omega), nv7n (by rw [hs1]; decide), nv7n (by rw [v3]; decide)]
    · rw [pk_un (by omega), g _ (by omega) (by omega), nv_o (by omega), N _ (by omega) (by omega) (by omega)]
    · rw [pk_un (by omega), g _ (by omega) (by omega), nv_o (by omega), N _ (by omega) (by omega) (by omega)]
theorem dri_s {G : Nat → Int32} {ng nb b : Nat} (hR : RI G ng nb) (hb : b < nb) (hs : G (24 + 10 * b + 3) = 1) {S : Bool × (Nat → Int32)} (hS : drs nb b (dcl G b).toNatClampNeg G = S) : dri G nb b = (if S.1 = true then arv S.2 b else soa S.2 b) ∧ RI S.2 ng nb ∧ S.2 (24 + 10 * b + 3) = 1 := by
  have h11 := hR.2.2.1
  obtain ⟨d1, d2, d3, d4⟩ := drs_e hb h11 (dcl G b).toNatClampNeg G hR hs (hR.inC hb (Or.inl hs))
  rw [hS] at d1 d2 d3 d4
  refine ⟨?_, d2, d3⟩
  unfold dri
  rw [d1]
  by_cases c : S.1 = true
  · rw [if_pos c, if_pos c, if_neg (by rw [arv_3]; decide)]
  · rw [if_neg c, if_neg c, if_pos d3]
theorem TH_148 {w : Wt} {hs : Hs} {k : Nat} {F : Nat → Int32} {x v : Int32} {z : Nat → Nat → Int32} (hR : RIs F) : TT w hs k (upd (sF F x) 3 v) (gF F z) (rF F) = TH w hs k (upd F 148 v) x z := by
  have h6 := hR.1.2.1
  have h9 := hR.2.2.1
  have eg : gN (upd F 148 v) = gN F := gN_e (show upd F 148 v 146 = F 146 from pk_un (by omega))
  have eb : bN (upd F 148 v) = bN F := bN_e (show upd F 148 v 147 = F 147 from pk_un (by omega))
  refine TH_of (f := upd F 148 v) ⟨(show upd F 148 v 154 = F 154 from pk_un (by omega)).symm, (show upd F 148 v 155 = F 155 from pk_un (by omega)).symm, (show upd F 148 v 156 = F 156 from pk_un (by omega)).symm, (show upd F 148 v 148 = v from pk_us).symm, (show upd F 148 v 149 = F 149 from pk_un (by omega)).symm, (show upd F 148 v 150 = F 150 from pk_un (by omega)).symm, rfl⟩ ⟨eg.symm, eb.symm, rfl⟩ ⟨fun j hj => ?_, fun j hj => ?_⟩ ⟨fun b c hb hc => ?_, fun j hj => ?_⟩ ⟨fun j hj => (gF_2 hj).trans (pk_un (by omega)).symm, fun j hj => gF_2n hj⟩
  · rw [eg] at hj
    exact (gF_0 hj).trans (pk_un (by omega)).symm
  · rw [eg] at hj
    exact gF_0n hj
  · rw [eb] at hb
    exact (gF_1 hb hc).trans (nv_e (fun c hc => pk_un (by omega)) hc).symm
  · rw [eb] at hj
    exact gF_1n hj
set_option maxHeartbeats 4000000 in
set_option maxRecDepth 100000 in
theorem t_pass {l : Launch} {w : Wt} {hs : Hs} {n : Option Nat} {k : Nat} {f : Nat → Int32} {x : Int32} {z : Nat → Nat → Int32} (hR : RIs f) (hU : UD f (bN f)) {N9 : Nat} (hN : N9 < 1000) : Cn l w mX4_passMinutes 0 0 [.ref (wB w + k), .int (nI N9)] (TH w hs k f x z) n (TH w hs k (gms (bN f) N9 f).2 x z) n (some (.int (nI (gms (bN f) N9 f).1))) := by
  obtain ⟨C9, F9, hF⟩ : ∃ C9 F9, gms (bN f) N9 f = (C9, F9) := ⟨_, _, rfl⟩
  rw [hF]
  refine Cn.of (d := mX4_passMinutes) (by decide +kernel) (Nat.le_of_ble_eq_true rfl) ?_
  intro p e R s m args below meth c CX
  replace CX : Ctx p s m args meth c R w RX4 "passMinutes" cX4_passMinutes 5 (some .int) 3 72 0 0 := CX
  show ZW p l e R s m args below meth c w 5 _ _ 0 0 (MQ below (Qn w _ _ _) args s 0 0 (wA w)) 0 [(0, .ref (wB w + k)), (1, .int _)] []
  have LI : ∀ (F : Nat → Int32) (A9 i9 : Nat), RIs F → UD F (bN F) → ZW p l e R s m args below meth c w 5 (TH w hs k (gmi F (bN F)).2 x z) n 0 0 (MQ below (Qn w (TH w hs k F9 x z) n (some (.int (nI C9)))) args s 0 0 (wA w)) 107 [(0, .ref (wB w + k)), (1, .int (nI N9)), (2, .int (nI (A9 + (gmi F (bN F)).1))), (3, .int (nI i9))] [] → ∀ (j b : Nat), b + j = bN F → ZW p l e R s m args below meth c w 5 (TH w hs k (gmb F (bN F) b).2 x z) n 0 0 (MQ below (Qn w (TH w hs k F9 x z) n (some (.int (nI C9)))) args s 0 0 (wA w)) 22 [(0, .ref (wB w + k)), (1, .int (nI N9)), (2, .int (nI (A9 + (gmb F (bN F) b).1))), (3, .int (nI i9)), (4, .int (nI b))] [] := by
    intro F A9 i9 hRF hUF K j
    have h11 := hRF.2.2.1
    have h6 := hRF.1.2.1
    induction j with
    | zero =>
      intro b hb
      have hRG : RI (gmb F (bN F) b).2 (gN F) (bN F) := RI_gmb hRF b (by omega)
      have hRs : RIs (gmb F (bN F) b).2 := RIs.of hRG
      have eb : bN (gmb F (bN F) b).2 = bN F := hRG.bN
      have eg : gN (gmb F (bN F) b).2 = gN F := hRG.gN
      have ebF : b = bN F := by omega
      have h150 : (gmb F (bN F) b).2 150 = F 150 := gmb_n (by omega) (by omega) b (fun b hb => by omega)
      rw [ebF] at hRG hRs eb eg h150 ⊢
      refine z_iload CX dX4_passMinutes_22 rfl ?_
      refine z_aload_n CX 0 dX4_passMinutes_24 rfl rfl ?_
      refine z_get CX dX4_passMinutes_25 fg_X4_20 to_0 rfl ?_
      refine z_get CX dX4_passMinutes_28 fg_X4_29 to_3 rfl ?_
      refine z_icmp_ge CX 84 dX4_passMinutes_31 (by decide) (fun _ => ?_) (fun q9 => absurd (show nI (bN (gmb F (bN F) (bN F)).2) ≤ nI (bN F) by rw [eb]; exact Int32.le_refl _) q9)
      refine z_aload_n CX 0 dX4_passMinutes_84 rfl rfl ?_
      refine z_get CX dX4_passMinutes_85 fg_X4_56 to_0 rfl ?_
      refine z_if_eq CX 107 dX4_passMinutes_88 (by decide) (fun c_88 => ?_) (fun c_88 => ?_)
      · skip
        refine z_heap (congrArg (fun q => TH w hs k q x z) (show _ = (gmi F (bN F)).2 from (if_neg (fun q => absurd (c_88.symm.trans q.1) (by decide))).symm)) ?_
        refine z_loc [(0, .ref (wB w + k)), (1, .int (nI N9)), (2, .int (nI (A9 + (gmi F (bN F)).1))), (3, .int (nI i9))] ⟨rfl, rfl, rfl, rfl, trivial⟩ ?_
        exact K
      · skip
        refine z_aload_n CX 0 dX4_passMinutes_91 rfl rfl ?_
        refine z_get CX dX4_passMinutes_92 fg_X4_20 to_0 rfl ?_
        refine z_iconst CX (v := 3) dX4_passMinutes_95 (by decide) ?_
        refine z_iconst CX (v := 1) dX4_passMinutes_96 (by decide) ?_
        refine z_callV1 CX dX4_passMinutes_97 cv_X4_136 (hB_cnt hRs (c := 3) (by omega) (by decide) 1) to_3 rfl rfl (Nat.le_of_ble_eq_true rfl) ⟨Nat.le_of_ble_eq_true rfl, Nat.le_of_ble_eq_true rfl⟩ ⟨Nat.le_refl _, Nat.le_refl _⟩ ?_
        rw [eb]
        refine z_if_ne CX 107 dX4_passMinutes_100 (by decide) (fun c_100 => ?_) (fun c_100 => ?_)
        · skip
          refine z_heap (congrArg (fun q => TH w hs k q x z) (show _ = (gmi F (bN F)).2 from (if_neg (fun q => cz3 c_100 q.2)).symm)) ?_
          refine z_loc [(0, .ref (wB w + k)), (1, .int (nI N9)), (2, .int (nI (A9 + (gmi F (bN F)).1))), (3, .int (nI i9))] ⟨rfl, rfl, rfl, rfl, trivial⟩ ?_
          exact K
        · skip
          refine z_aload_n CX 0 dX4_passMinutes_103 rfl rfl ?_
          refine z_callV0 CX dX4_passMinutes_104 cv_X4_158 (t_endH hRs) to_0 rfl rfl (Nat.le_of_ble_eq_true rfl) ⟨Nat.le_of_ble_eq_true rfl, Nat.le_of_ble_eq_true rfl⟩ ⟨Nat.le_refl _, Nat.le_refl _⟩ ?_
          rw [eb]
          refine z_heap (congrArg (fun q => TH w hs k q x z) (show _ = (gmi F (bN F)).2 from (if_pos ⟨(show (gmb F (bN F) (bN F)).2 150 = 1 from h150.trans (hUF.u01.elim id (fun q => absurd (h150.trans q) c_88))), cz2 h11 c_100⟩).symm)) ?_
          refine z_loc [(0, .ref (wB w + k)), (1, .int (nI N9)), (2, .int (nI (A9 + (gmi F (bN F)).1))), (3, .int (nI i9))] ⟨rfl, rfl, rfl, rfl, trivial⟩ ?_
          exact K
    | succ j ih =>
      intro b hb
      have hRG : RI (gmb F (bN F) b).2 (gN F) (bN F) := RI_gmb hRF b (by omega)
      have hRs : RIs (gmb F (bN F) b).2 := RIs.of hRG
      have eb : bN (gmb F (bN F) b).2 = bN F := hRG.bN
      have eg : gN (gmb F (bN F) b).2 = gN F := hRG.gN
      refine z_iload CX dX4_passMinutes_22 rfl ?_
      refine z_aload_n CX 0 dX4_passMinutes_24 rfl rfl ?_
      refine z_get CX dX4_passMinutes_25 fg_X4_20 to_0 rfl ?_
      refine z_get CX dX4_passMinutes_28 fg_X4_29 to_3 rfl ?_
      refine z_icmp_ge CX 84 dX4_passMinutes_31 (by decide) (fun q9 => absurd q9 (show ¬ nI (bN (gmb F (bN F) b).2) ≤ nI b by rw [eb]; exact nI_ge (by omega) (by omega))) (fun _ => ?_)
      refine z_aload_n CX 0 dX4_passMinutes_34 rfl rfl ?_
      refine z_get CX dX4_passMinutes_35 fg_X4_20 to_0 rfl ?_
      refine z_iload CX dX4_passMinutes_38 rfl ?_
      refine z_iconst CX (v := 3) dX4_passMinutes_40 (by decide) ?_
      refine z_callV1 CX dX4_passMinutes_41 cv_X4_71 (hB_o hRs (b := b) (c := 3) (by omega) (by omega) (by decide)) to_3 rfl rfl (Nat.le_of_ble_eq_true rfl) ⟨Nat.le_of_ble_eq_true rfl, Nat.le_of_ble_eq_true rfl⟩ ⟨Nat.le_refl _, Nat.le_refl _⟩ ?_
      refine z_iconst CX (v := 1) dX4_passMinutes_44 (by decide) ?_
      refine z_icmp_eq CX 51 dX4_passMinutes_45 (by decide) (fun c_45 => ?_) (fun c_45 => ?_)
      · skip
        obtain ⟨S9, hS⟩ : ∃ S9, drs (bN (gmb F (bN F) b).2) b (dcl (gmb F (bN F) b).2 b).toNatClampNeg (gmb F (bN F) b).2 = S9 := ⟨_, rfl⟩
        obtain ⟨s1, s2, s3⟩ := dri_s hRG (show b < bN F by omega) c_45 (S := S9) (by have q := hS; rw [eb] at q; exact q)
        have sR : RIs S9.2 := RIs.of s2
        have sb : bN S9.2 = bN F := s2.bN
        refine z_aload_n CX 0 dX4_passMinutes_51 rfl rfl ?_
        refine z_iload CX dX4_passMinutes_52 rfl ?_
        refine z_callV1 CX dX4_passMinutes_54 cv_X4_148 (t_drift hRs (show b < bN (gmb F (bN F) b).2 by omega) c_45) to_0 rfl rfl (Nat.le_of_ble_eq_true rfl) ⟨Nat.le_of_ble_eq_true rfl, Nat.le_of_ble_eq_true rfl⟩ ⟨Nat.le_refl _, Nat.le_refl _⟩ ?_
        rw [hS]
        refine z_if_eq CX 72 dX4_passMinutes_57 (by decide) (fun c_57 => ?_) (fun c_57 => ?_)
        · skip
          have sf : S9.1 = false := bI_f c_57
          refine z_heap (show drH w hs k x z b S9 = TH w hs k S9.2 x z by unfold drH; rw [sf]; rfl) ?_
          refine z_aload_n CX 0 dX4_passMinutes_72 rfl rfl ?_
          refine z_iload CX dX4_passMinutes_73 rfl ?_
          refine z_callV0 CX dX4_passMinutes_75 cv_X4_155 (t_soakU (g9 := gF S9.2 z) (r9 := rF S9.2) (show bN S9.2 ≤ 11 by omega) (show b < bN S9.2 by omega)) to_0 rfl rfl (Nat.le_of_ble_eq_true rfl) ⟨Nat.le_of_ble_eq_true rfl, Nat.le_of_ble_eq_true rfl⟩ ⟨Nat.le_refl _, Nat.le_refl _⟩ ?_
          refine z_heap (TH_soa sR (by omega) s3) ?_
          refine z_iinc CX (v := nI (b + 1)) dX4_passMinutes_78 rfl (nI_1 b) (by decide) ?_
          refine z_goto CX 22 dX4_passMinutes_81 (by decide) ?_
          refine z_heap (congrArg (fun q => TH w hs k q x z) (show _ = (gmb F (bN F) (b + 1)).2 from (by rw [gmb, if_pos c_45]; show _ = dri _ _ _; rw [s1, if_neg (show ¬ S9.1 = true by rw [sf]; decide)]))) ?_
          refine z_loc [(0, .ref (wB w + k)), (1, .int (nI N9)), (2, .int (nI (A9 + (gmb F (bN F) (b + 1)).1))), (3, .int (nI i9)), (4, .int (nI (b + 1)))] ⟨rfl, rfl, congrArg (fun q => some (Value.int q)) (by rw [gmb, if_pos c_45, s1, if_neg (show ¬ S9.1 = true by rw [sf]; decide)]; show _ = nI (A9 + (_ + (if _ then _ else _))); rw [if_neg (by have q := soa_3 (f := S9.2) (b := b); rw [q]; split <;> decide)]; rfl), rfl, rfl, trivial⟩ ?_
          exact ih (b + 1) (by omega)
        · skip
          have st9 : S9.1 = true := bI_t c_57
          refine z_heap (show drH w hs k x z b S9 = TT w hs k (sF S9.2 x) (upA (gF S9.2 z) 1 (dpt (gF S9.2 z 1) b (-1) (-1))) (rF S9.2) by unfold drH; rw [st9]; rfl) ?_
          refine z_aload_n CX 0 dX4_passMinutes_60 rfl rfl ?_
          refine z_iload CX dX4_passMinutes_61 rfl ?_
          refine z_callV0 CX dX4_passMinutes_63 cv_X4_151 (t_arr (g9 := upA (gF S9.2 z) 1 (dpt (gF S9.2 z 1) b (-1) (-1))) (r9 := rF S9.2) (show bN S9.2 ≤ 11 by omega) (show b < bN S9.2 by omega)) to_0 rfl rfl (Nat.le_of_ble_eq_true rfl) ⟨Nat.le_of_ble_eq_true rfl, Nat.le_of_ble_eq_true rfl⟩ ⟨Nat.le_refl _, Nat.le_refl _⟩ ?_
          refine z_heap ((congrArg (fun q => TT w hs k (sF S9.2 x) q (rF S9.2)) upA_up).trans (TH_arr sR (by omega) s3)) ?_
          refine z_iinc CX (v := nI (A9 + (gmb F (bN F) b).1 + 1)) dX4_passMinutes_66 rfl (nI_1 _) (by decide) ?_
          refine z_goto CX 78 dX4_passMinutes_69 (by decide) ?_
          refine z_iinc CX (v := nI (b + 1)) dX4_passMinutes_78 rfl (nI_1 b) (by decide) ?_
          refine z_goto CX 22 dX4_passMinutes_81 (by decide) ?_
          refine z_heap (congrArg (fun q => TH w hs k q x z) (show _ = (gmb F (bN F) (b + 1)).2 from (by rw [gmb, if_pos c_45]; show _ = dri _ _ _; rw [s1, if_pos st9]))) ?_
          refine z_loc [(0, .ref (wB w + k)), (1, .int (nI N9)), (2, .int (nI (A9 + (gmb F (bN F) (b + 1)).1))), (3, .int (nI i9)), (4, .int (nI (b + 1)))] ⟨rfl, rfl, congrArg (fun q => some (Value.int q)) (by rw [gmb, if_pos c_45, s1, if_pos st9]; show _ = nI (A9 + (_ + (if _ then _ else _))); rw [if_pos arv_3]; rfl), rfl, rfl, trivial⟩ ?_
          exact ih (b + 1) (by omega)
      · skip
        refine z_goto CX 78 dX4_passMinutes_48 (by decide) ?_
        refine z_iinc CX (v := nI (b + 1)) dX4_passMinutes_78 rfl (nI_1 b) (by decide) ?_
        refine z_goto CX 22 dX4_passMinutes_81 (by decide) ?_
        refine z_heap (congrArg (fun q => TH w hs k q x z) (show _ = (gmb F (bN F) (b + 1)).2 from (by rw [gmb, if_neg c_45]))) ?_
        refine z_loc [(0, .ref (wB w + k)), (1, .int (nI N9)), (2, .int (nI (A9 + (gmb F (bN F) (b + 1)).1))), (3, .int (nI i9)), (4, .int (nI (b + 1)))] ⟨rfl, rfl, congrArg (fun q => some (Value.int q)) (by rw [gmb, if_neg c_45]), rfl, rfl, trivial⟩ ?_
        exact ih (b + 1) (by omega)
  have LP : ∀ (j i : Nat), i + j = N9 → ZW p l e R s m args below meth c w 5 (TH w hs k (gms (bN f) i f).2 x z) n 0 0 (MQ below (Qn w (TH w hs k F9 x z) n (some (.int (nI C9)))) args s 0 0 (wA w)) 4 [(0, .ref (wB w + k)), (1, .int (nI N9)), (2, .int (nI (gms (bN f) i f).1)), (3, .int (nI i))] [] := by
    intro j
    induction j with
    | zero =>
      intro i hi
      refine z_iload_n CX 3 dX4_passMinutes_4 rfl rfl ?_
      refine z_iload_n CX 1 dX4_passMinutes_5 rfl rfl ?_
      refine z_icmp_ge CX 113 dX4_passMinutes_6 (by decide) (fun _ => ?_) (fun q9 => absurd (nI_le (by omega) (by omega)) q9)
      refine z_iload_n CX 2 dX4_passMinutes_113 rfl rfl ?_
      exact z_iret CX dX4_passMinutes_114 rfl (congrArg Value.int (by rw [show i = N9 by omega, hF])) (by rw [show i = N9 by omega, hF]) (Or.inl rfl)
    | succ j ih =>
      intro i hi
      have hRi : RI (gms (bN f) i f).2 (gN f) (bN f) := RI_gms i f hR
      have hRs : RIs (gms (bN f) i f).2 := RIs.of hRi
      have hUi : UD (gms (bN f) i f).2 (bN f) := UD_gms i f hR hU
      have eb : bN (gms (bN f) i f).2 = bN f := hRi.bN
      refine z_iload_n CX 3 dX4_passMinutes_4 rfl rfl ?_
      refine z_iload_n CX 1 dX4_passMinutes_5 rfl rfl ?_
      refine z_icmp_ge CX 113 dX4_passMinutes_6 (by decide) (fun q9 => absurd q9 (nI_ge (by omega) (by omega))) (fun _ => ?_)
      refine z_aload_n CX 0 dX4_passMinutes_9 rfl rfl ?_
      refine z_dup CX dX4_passMinutes_10 rfl ?_
      refine z_get CX dX4_passMinutes_11 fg_X4_50 to_0 rfl ?_
      refine z_iconst CX (v := 1) dX4_passMinutes_14 (by decide) ?_
      refine z_iadd CX dX4_passMinutes_15 ?_
      refine z_put CX dX4_passMinutes_16 fg_X4_50 fp_X4_6 to_0 (Nat.le_of_ble_eq_true rfl) rfl rfl ?_
      refine z_heap to_f3 ?_
      refine z_heap (TH_148 hRs) ?_
      refine z_iconst CX (v := 0) dX4_passMinutes_19 (by decide) ?_
      refine z_istore CX dX4_passMinutes_20 (by decide) ?_
      have K := LI (gms (bN f) i f).2 (gms (bN f) i f).1 i hRs (by rw [eb]; exact hUi)
      refine z_loc [(0, .ref (wB w + k)), (1, .int (nI N9)), (2, .int (nI ((gms (bN f) i f).1 + 0))), (3, .int (nI i)), (4, .int (nI 0))] ⟨rfl, rfl, rfl, rfl, rfl, trivial⟩ ?_
      refine K ?_ (bN (gms (bN f) i f).2) 0 (by omega)
      refine z_iinc CX (v := nI (i + 1)) dX4_passMinutes_107 rfl (nI_1 i) (by decide) ?_
      refine z_goto CX 4 dX4_passMinutes_110 (by decide) ?_
      rw [eb]
      refine z_loc [(0, .ref (wB w + k)), (1, .int (nI N9)), (2, .int (nI (gms (bN f) (i + 1) f).1)), (3, .int (nI (i + 1)))] ⟨rfl, rfl, rfl, rfl, trivial⟩ ?_
      exact ih (i + 1) (by omega)
  refine z_iconst CX (v := 0) dX4_passMinutes_0 (by decide) ?_
  refine z_istore_n CX 2 dX4_passMinutes_1 rfl (by decide) ?_
  refine z_iconst CX (v := 0) dX4_passMinutes_2 (by decide) ?_
  refine z_istore_n CX 3 dX4_passMinutes_3 rfl (by decide) ?_
  refine z_loc [(0, .ref (wB w + k)), (1, .int (nI N9)), (2, .int (nI 0)), (3, .int (nI 0))] ⟨rfl, rfl, rfl, rfl, trivial⟩ ?_
  exact LP N9 0 (by omega)
