/-! the model: what would be -/
def eiV (s x n : Int32) : Int32 := if decide (s = 3) = decide (x = 1) then n else -1
def rs_endsIn (u : Nat → Int32) (A : Nat → Nat → Int32) (b x : Int32) : RSt := if 0 ≤ b ∧ b < nI (bN (A 0)) then (if 0 ≤ x ∧ x ≤ 1 then (if A 0 (24 + 10 * b.toNatClampNeg + 3) = 1 then (0, eiV ((gtl (bN (A 0)) b.toNatClampNeg 94 (A 0)).2 (24 + 10 * b.toNatClampNeg + 3)) x (nI (gtl (bN (A 0)) b.toNatClampNeg 94 (A 0)).1), upd u 0 0, A) else bad 3 u A) else bad 2 u A) else bad 1 u A
def wnR (f F : Nat → Int32) : Nat → Nat → Int32
  | 0, _ => -1
  | j + 1, c => if F (24 + 10 * c + 8) ≤ f (24 + 10 * c + 8) then wnR f F j (c + 1) else nI c
def rs_winner (u : Nat → Int32) (A : Nat → Nat → Int32) : RSt := (0, wnR (A 0) (lhe (bN (A 0)) 94 (A 0)) (bN (A 0)) 0, upd u 0 0, A)
def lfT (f : Nat → Int32) (g : Nat) (x : Int32) (i : Nat) : Nat × (Nat → Int32) := gtl (bN f + 1) (bN f) 94 (lnF (adbF f (bN f) (nI i) x 0) (bN f + 1) (bN f) (nI g))
def lfR (f : Nat → Int32) (g : Nat) (x : Int32) : Nat → Nat → (Nat → Int32) → Int32 × (Nat → Int32)
  | 0, _, tr => (-1, tr)
  | j + 1, i, _ => if (lfT f g x i).2 (24 + 10 * bN f + 3) = 3 then lfR f g x j (i + 1) (lfT f g x i).2 else (nI i, (lfT f g x i).2)
def rs_leastFolds (u : Nat → Int32) (A : Nat → Nat → Int32) (g x : Int32) : RSt := if 0 ≤ g ∧ g < nI (gN (A 0)) then (if 0 ≤ x ∧ x ≤ 3 then (0, (lfR (A 0) g.toNatClampNeg x 9 1 (A 0)).1, upd u 0 0, A) else bad 2 u A) else bad 1 u A
theorem lfR_v {f : Nat → Int32} {g : Nat} {x : Int32} : ∀ (j i : Nat) (t t' : Nat → Int32), (lfR f g x j i t).1 = (lfR f g x j i t').1
  | 0, _, _, _ => rfl
  | j + 1, i, t, t' => by rw [lfR, lfR]
theorem lhe_st {f : Nat → Int32} {ng nb m : Nat} (h : RI f ng nb) (hK : ∀ b, b < nb → f (24 + 10 * b + 3) = 1 → ∃ K, f (24 + 10 * b + 6) = nI K ∧ m ≤ K ∧ K ≤ 93) : ∀ b, b < nb → (gmi f nb).2 (24 + 10 * b + 3) = 1 → ∃ K, (gmi f nb).2 (24 + 10 * b + 6) = nI K ∧ m + 1 ≤ K ∧ K ≤ 93 := by
  intro b hb q
  have hs1 := gmi_new h hb q
  obtain ⟨K, e1, k1, k2⟩ := hK b hb hs1
  obtain ⟨K2, k3, e2⟩ := (RI_gmi h).soak hb q
  obtain ⟨r, m9, d, b1, b2, b3, b4, b5, b6, b7⟩ := h.2.2.2.2.1
  have e3 := gmi_soak h hb hs1 q
  rw [e1, b5, e2, show (1 : Int32) + nI r = nI (1 + r) from nI_add 1 r, nI_add] at e3
  have := (nI_eq (by omega) (by omega)).mp e3
  exact ⟨K2, e2, by omega, k3⟩
set_option maxHeartbeats 4000000 in
set_option maxRecDepth 100000 in
theorem m_endsIn {l : Launch} {w : Wt} {hs : Hs} {n : Option Nat} {k : Nat} {u : Nat → Int32} {A : Nat → Nat → Int32} (hO : OKr (A 0)) (b x : Int32) : ∃ tr : Nat → Int32, Cn l w mX6_endsIn 0 0 [.ref (wB w + k), .int b, .int x] (modH w hs k u A) n (modH w hs k (rs_endsIn u A b x).2.2.1 (upA (rs_endsIn u A b x).2.2.2 1 tr)) n (some (.int (rs_endsIn u A b x).2.1)) := by
  have h9 := hO.2.2
  by_cases h0 : 0 ≤ b ∧ b < nI (bN (A 0))
  · obtain ⟨i, i1, i2, i3⟩ := nI_box (by omega) h0
    by_cases h1 : 0 ≤ x ∧ x ≤ 1
    · by_cases h2 : A 0 (24 + 10 * i + 3) = 1
      · refine ⟨(gtl (bN (A 0)) i 94 (A 0)).2, ?_⟩
        rw [show rs_endsIn u A b x = (0, eiV ((gtl (bN (A 0)) i 94 (A 0)).2 (24 + 10 * i + 3)) x (nI (gtl (bN (A 0)) i 94 (A 0)).1), upd u 0 0, A) by unfold rs_endsIn; rw [if_pos h0, if_pos h1, i3, if_pos h2]]
        subst i2
        refine Cn.of (d := mX6_endsIn) (by decide +kernel) (Nat.le_of_ble_eq_true rfl) ?_
        intro p e R s m args below meth c CX
        replace CX : Ctx p s m args meth c R w RX6 "endsIn" cX6_endsIn 4 (some .int) 7 159 0 0 := CX
        show ZW p l e R s m args below meth c w 4 _ _ 0 0 (MQ below (Qn w _ _ _) args s 0 0 (wA w)) 0 [(0, .ref (wB w + k)), (1, .int _), (2, .int _)] []
        refine z_aload_n CX 0 dX6_endsIn_0 rfl rfl ?_
        refine z_aload_n CX 0 dX6_endsIn_1 rfl rfl ?_
        refine z_get CX dX6_endsIn_2 fg_X6_7 mo_0 rfl ?_
        refine z_iload_n CX 1 dX6_endsIn_5 rfl rfl ?_
        refine z_callS1 CX dX6_endsIn_6 cs_X6_166 (Cn.row mq_0 mq_0 (a := k + 1) (c_isB hO.1.2.1 (by have := hO.2.2; omega) _)) rfl rfl (Nat.le_of_ble_eq_true rfl) ⟨Nat.le_of_ble_eq_true rfl, Nat.le_of_ble_eq_true rfl⟩ ⟨Nat.le_refl _, Nat.le_refl _⟩ ?_
        refine z_if_ne CX 16 dX6_endsIn_9 (by decide) (fun _ => ?_) (fun q9 => absurd q9 (by rw [bI_1 h0]; decide))
        refine z_iload_n CX 2 dX6_endsIn_16 rfl rfl ?_
        refine z_i2l CX dX6_endsIn_17 rfl ?_
        refine z_lconst CX (v := 0) dX6_endsIn_18 (by decide) ?_
        refine z_lconst CX (v := 1) dX6_endsIn_19 (by decide) ?_
        refine z_callS1 CX dX6_endsIn_20 cs_X6_42 (c_inI (0) (1) _ _ _ (by decide) (by decide)) rfl rfl (Nat.le_of_ble_eq_true rfl) ⟨Nat.le_of_ble_eq_true rfl, Nat.le_of_ble_eq_true rfl⟩ ⟨Nat.le_refl _, Nat.le_refl _⟩ ?_
        refine z_if_ne CX 30 dX6_endsIn_23 (by decide) (fun _ => ?_) (fun q9 => absurd q9 (by rw [bI_1 h1]; decide))
        refine z_aload_n CX 0 dX6_endsIn_30 rfl rfl ?_
        refine z_get CX dX6_endsIn_31 fg_X6_7 mo_0 rfl ?_
        refine z_iload_n CX 1 dX6_endsIn_34 rfl rfl ?_
        refine z_callS1 CX dX6_endsIn_35 cs_X6_64 (Cn.row mq_0 mq_0 (a := k + 1) (c_state (b := i) (by omega))) rfl rfl (Nat.le_of_ble_eq_true rfl) ⟨Nat.le_of_ble_eq_true rfl, Nat.le_of_ble_eq_true rfl⟩ ⟨Nat.le_refl _, Nat.le_refl _⟩ ?_
        refine z_iconst CX (v := 1) dX6_endsIn_38 (by decide) ?_
        refine z_icmp_eq CX 46 dX6_endsIn_39 (by decide) (fun _ => ?_) (fun q9 => absurd h2 q9)
        refine z_iconst CX (v := 0) dX6_endsIn_46 (by decide) ?_
        refine z_callV1 CX dX6_endsIn_47 cv_X6_122 (c_ref _) mo_0 rfl rfl (Nat.le_of_ble_eq_true rfl) ⟨Nat.le_of_ble_eq_true rfl, Nat.le_of_ble_eq_true rfl⟩ ⟨Nat.le_refl _, Nat.le_refl _⟩ ?_
        refine z_if_eq CX 55 dX6_endsIn_50 (by decide) (fun _ => ?_) (fun q9 => absurd (by decide) q9)
        refine z_aload_n CX 0 dX6_endsIn_55 rfl rfl ?_
        refine z_get CX dX6_endsIn_56 fg_X6_7 mo_0 rfl ?_
        refine z_aload_n CX 0 dX6_endsIn_59 rfl rfl ?_
        refine z_get CX dX6_endsIn_60 fg_X6_13 mo_0 rfl ?_
        refine z_callS0 CX dX6_endsIn_63 cs_X6_212 (Cn.row mq_1 mr_1 (a := k + 2) (c_cpM (q := k + 1) (by omega) mo_1)) rfl rfl (Nat.le_of_ble_eq_true rfl) ⟨Nat.le_of_ble_eq_true rfl, Nat.le_of_ble_eq_true rfl⟩ ⟨Nat.le_refl _, Nat.le_refl _⟩ ?_
        refine z_aload_n CX 0 dX6_endsIn_66 rfl rfl ?_
        refine z_iload_n CX 1 dX6_endsIn_67 rfl rfl ?_
        refine z_callV1 CX dX6_endsIn_68 cv_X6_251 (c_goT (A := upA A 1 (A 0)) hO.1 i1 (C9 := (gtl (bN (A 0)) i 94 (A 0)).1) (F9 := (gtl (bN (A 0)) i 94 (A 0)).2) rfl) mo_0 rfl rfl (Nat.le_of_ble_eq_true rfl) ⟨Nat.le_of_ble_eq_true rfl, Nat.le_of_ble_eq_true rfl⟩ ⟨Nat.le_refl _, Nat.le_refl _⟩ ?_
        refine z_heap (show _ = modH w hs k (upd u 0 0) (upA A 1 (gtl (bN (A 0)) i 94 (A 0)).2) from congrArg (fun z => modH w hs k (upd u 0 0) z) upA_up) ?_
        refine z_istore_n CX 3 dX6_endsIn_71 rfl (by decide) ?_
        refine z_aload_n CX 0 dX6_endsIn_72 rfl rfl ?_
        refine z_get CX dX6_endsIn_73 fg_X6_13 mo_0 rfl ?_
        refine z_iload_n CX 1 dX6_endsIn_76 rfl rfl ?_
        refine z_callS1 CX dX6_endsIn_77 cs_X6_64 (Cn.row (mq_1 (A := upA A 1 (gtl (bN (A 0)) i 94 (A 0)).2)) (mq_1 (A := upA A 1 (gtl (bN (A 0)) i 94 (A 0)).2)) (a := k + 2) (c_state (f := (gtl (bN (A 0)) i 94 (A 0)).2) (b := i) (by omega))) rfl rfl (Nat.le_of_ble_eq_true rfl) ⟨Nat.le_of_ble_eq_true rfl, Nat.le_of_ble_eq_true rfl⟩ ⟨Nat.le_refl _, Nat.le_refl _⟩ ?_
        refine z_iconst CX (v := 3) dX6_endsIn_80 (by decide) ?_
        refine z_icmp_ne CX 88 dX6_endsIn_81 (by decide) (fun c_81 => ?_) (fun c_81 => ?_)
        · skip
          refine z_iconst CX (v := 0) dX6_endsIn_88 (by decide) ?_
          refine z_iload_n CX 2 dX6_endsIn_89 rfl rfl ?_
          refine z_iconst CX (v := 1) dX6_endsIn_90 (by decide) ?_
          refine z_icmp_ne CX 98 dX6_endsIn_91 (by decide) (fun c_91 => ?_) (fun c_91 => ?_)
          · skip
            refine z_iconst CX (v := 0) dX6_endsIn_98 (by decide) ?_
            refine z_icmp_ne CX 106 dX6_endsIn_99 (by decide) (fun q9 => absurd q9 (fun z => z rfl)) (fun _ => ?_)
            refine z_iload_n CX 3 dX6_endsIn_102 rfl rfl ?_
            refine z_goto CX 107 dX6_endsIn_103 (by decide) ?_
            exact z_iret CX dX6_endsIn_107 rfl (congrArg Value.int (by show eiV _ _ _ = _; unfold eiV; rw [decide_eq_false c_81, decide_eq_false c_91]; rfl)) rfl (Or.inl rfl)
          · skip
            refine z_iconst CX (v := 1) dX6_endsIn_94 (by decide) ?_
            refine z_goto CX 99 dX6_endsIn_95 (by decide) ?_
            refine z_icmp_ne CX 106 dX6_endsIn_99 (by decide) (fun _ => ?_) (fun q9 => absurd q9 (by decide))
            refine z_iconst CX (v := (-1 : Int32)) dX6_endsIn_106 (by decide) ?_
            exact z_iret CX dX6_endsIn_107 rfl (congrArg Value.int (by show eiV _ _ _ = _; unfold eiV; rw [decide_eq_false c_81, decide_eq_true c_91]; rfl)) rfl (Or.inl rfl)
        · skip
          refine z_iconst CX (v := 1) dX6_endsIn_84 (by decide) ?_
          refine z_goto CX 89 dX6_endsIn_85 (by decide) ?_
          refine z_iload_n CX 2 dX6_endsIn_89 rfl rfl ?_
          refine z_iconst CX (v := 1) dX6_endsIn_90 (by decide) ?_
          refine z_icmp_ne CX 98 dX6_endsIn_91 (by decide) (fun c_91 => ?_) (fun c_91 => ?_)
          · skip
            refine z_iconst CX (v := 0) dX6_endsIn_98 (by decide) ?_
            refine z_icmp_ne CX 106 dX6_endsIn_99 (by decide) (fun _ => ?_) (fun q9 => absurd q9 (by decide))
            refine z_iconst CX (v := (-1 : Int32)) dX6_endsIn_106 (by decide) ?_
            exact z_iret CX dX6_endsIn_107 rfl (congrArg Value.int (by show eiV _ _ _ = _; unfold eiV; rw [decide_eq_true c_81, decide_eq_false c_91]; rfl)) rfl (Or.inl rfl)
          · skip
            refine z_iconst CX (v := 1) dX6_endsIn_94 (by decide) ?_
            refine z_goto CX 99 dX6_endsIn_95 (by decide) ?_
            refine z_icmp_ne CX 106 dX6_endsIn_99 (by decide) (fun q9 => absurd q9 (fun z => z rfl)) (fun _ => ?_)
            refine z_iload_n CX 3 dX6_endsIn_102 rfl rfl ?_
            refine z_goto CX 107 dX6_endsIn_103 (by decide) ?_
            exact z_iret CX dX6_endsIn_107 rfl (congrArg Value.int (by show eiV _ _ _ = _; unfold eiV; rw [decide_eq_true c_81, decide_eq_true c_91]; rfl)) rfl (Or.inl rfl)
      · refine ⟨A 1, ?_⟩
        rw [show rs_endsIn u A b x = bad 3 u A by unfold rs_endsIn; rw [if_pos h0, if_pos h1, i3, if_neg h2]]
        subst i2
        refine Cn.of (d := mX6_endsIn) (by decide +kernel) (Nat.le_of_ble_eq_true rfl) ?_
        intro p e R s m args below meth c CX
        replace CX : Ctx p s m args meth c R w RX6 "endsIn" cX6_endsIn 4 (some .int) 7 159 0 0 := CX
        show ZW p l e R s m args below meth c w 4 _ _ 0 0 (MQ below (Qn w _ _ _) args s 0 0 (wA w)) 0 [(0, .ref (wB w + k)), (1, .int _), (2, .int _)] []
        refine z_aload_n CX 0 dX6_endsIn_0 rfl rfl ?_
        refine z_aload_n CX 0 dX6_endsIn_1 rfl rfl ?_
        refine z_get CX dX6_endsIn_2 fg_X6_7 mo_0 rfl ?_
        refine z_iload_n CX 1 dX6_endsIn_5 rfl rfl ?_
        refine z_callS1 CX dX6_endsIn_6 cs_X6_166 (Cn.row mq_0 mq_0 (a := k + 1) (c_isB hO.1.2.1 (by have := hO.2.2; omega) _)) rfl rfl (Nat.le_of_ble_eq_true rfl) ⟨Nat.le_of_ble_eq_true rfl, Nat.le_of_ble_eq_true rfl⟩ ⟨Nat.le_refl _, Nat.le_refl _⟩ ?_
        refine z_if_ne CX 16 dX6_endsIn_9 (by decide) (fun _ => ?_) (fun q9 => absurd q9 (by rw [bI_1 h0]; decide))
        refine z_iload_n CX 2 dX6_endsIn_16 rfl rfl ?_
        refine z_i2l CX dX6_endsIn_17 rfl ?_
        refine z_lconst CX (v := 0) dX6_endsIn_18 (by decide) ?_
        refine z_lconst CX (v := 1) dX6_endsIn_19 (by decide) ?_
        refine z_callS1 CX dX6_endsIn_20 cs_X6_42 (c_inI (0) (1) _ _ _ (by decide) (by decide)) rfl rfl (Nat.le_of_ble_eq_true rfl) ⟨Nat.le_of_ble_eq_true rfl, Nat.le_of_ble_eq_true rfl⟩ ⟨Nat.le_refl _, Nat.le_refl _⟩ ?_
        refine z_if_ne CX 30 dX6_endsIn_23 (by decide) (fun _ => ?_) (fun q9 => absurd q9 (by rw [bI_1 h1]; decide))
        refine z_aload_n CX 0 dX6_endsIn_30 rfl rfl ?_
        refine z_get CX dX6_endsIn_31 fg_X6_7 mo_0 rfl ?_
        refine z_iload_n CX 1 dX6_endsIn_34 rfl rfl ?_
        refine z_callS1 CX dX6_endsIn_35 cs_X6_64 (Cn.row mq_0 mq_0 (a := k + 1) (c_state (b := i) (by omega))) rfl rfl (Nat.le_of_ble_eq_true rfl) ⟨Nat.le_of_ble_eq_true rfl, Nat.le_of_ble_eq_true rfl⟩ ⟨Nat.le_refl _, Nat.le_refl _⟩ ?_
        refine z_iconst CX (v := 1) dX6_endsIn_38 (by decide) ?_
        refine z_icmp_eq CX 46 dX6_endsIn_39 (by decide) (fun q9 => absurd q9 h2) (fun _ => ?_)
        refine z_iconst CX (v := 3) dX6_endsIn_42 (by decide) ?_
        refine z_goto CX 47 dX6_endsIn_43 (by decide) ?_
        refine z_callV1 CX dX6_endsIn_47 cv_X6_122 (c_ref _) mo_0 rfl rfl (Nat.le_of_ble_eq_true rfl) ⟨Nat.le_of_ble_eq_true rfl, Nat.le_of_ble_eq_true rfl⟩ ⟨Nat.le_refl _, Nat.le_refl _⟩ ?_
        refine z_if_eq CX 55 dX6_endsIn_50 (by decide) (fun q9 => absurd q9 (by decide)) (fun _ => ?_)
        refine z_iconst CX (v := 0) dX6_endsIn_53 (by decide) ?_
        exact z_iret CX dX6_endsIn_54 rfl rfl (by show _ = modH w hs k _ (upA A 1 (A 1)); rw [upA_id]; rfl) (Or.inl rfl)
    · refine ⟨A 1, ?_⟩
      rw [show rs_endsIn u A b x = bad 2 u A by unfold rs_endsIn; rw [if_pos h0, if_neg h1]]
      refine Cn.of (d := mX6_endsIn) (by decide +kernel) (Nat.le_of_ble_eq_true rfl) ?_
      intro p e R s m args below meth c CX
      replace CX : Ctx p s m args meth c R w RX6 "endsIn" cX6_endsIn 4 (some .int) 7 159 0 0 := CX
      show ZW p l e R s m args below meth c w 4 _ _ 0 0 (MQ below (Qn w _ _ _) args s 0 0 (wA w)) 0 [(0, .ref (wB w + k)), (1, .int _), (2, .int _)] []
      refine z_aload_n CX 0 dX6_endsIn_0 rfl rfl ?_
      refine z_aload_n CX 0 dX6_endsIn_1 rfl rfl ?_
      refine z_get CX dX6_endsIn_2 fg_X6_7 mo_0 rfl ?_
      refine z_iload_n CX 1 dX6_endsIn_5 rfl rfl ?_
      refine z_callS1 CX dX6_endsIn_6 cs_X6_166 (Cn.row mq_0 mq_0 (a := k + 1) (c_isB hO.1.2.1 (by have := hO.2.2; omega) _)) rfl rfl (Nat.le_of_ble_eq_true rfl) ⟨Nat.le_of_ble_eq_true rfl, Nat.le_of_ble_eq_true rfl⟩ ⟨Nat.le_refl _, Nat.le_refl _⟩ ?_
      refine z_if_ne CX 16 dX6_endsIn_9 (by decide) (fun _ => ?_) (fun q9 => absurd q9 (by rw [bI_1 h0]; decide))
      refine z_iload_n CX 2 dX6_endsIn_16 rfl rfl ?_
      refine z_i2l CX dX6_endsIn_17 rfl ?_
      refine z_lconst CX (v := 0) dX6_endsIn_18 (by decide) ?_
      refine z_lconst CX (v := 1) dX6_endsIn_19 (by decide) ?_
      refine z_callS1 CX dX6_endsIn_20 cs_X6_42 (c_inI (0) (1) _ _ _ (by decide) (by decide)) rfl rfl (Nat.le_of_ble_eq_true rfl) ⟨Nat.le_of_ble_eq_true rfl, Nat.le_of_ble_eq_true rfl⟩ ⟨Nat.le_refl _, Nat.le_refl _⟩ ?_
      refine z_if_ne CX 30 dX6_endsIn_23 (by decide) (fun q9 => absurd q9 (fun q => q (bI_0 h1))) (fun _ => ?_)
      refine z_iconst CX (v := 2) dX6_endsIn_26 (by decide) ?_
      refine z_goto CX 47 dX6_endsIn_27 (by decide) ?_
      refine z_callV1 CX dX6_endsIn_47 cv_X6_122 (c_ref _) mo_0 rfl rfl (Nat.le_of_ble_eq_true rfl) ⟨Nat.le_of_ble_eq_true rfl, Nat.le_of_ble_eq_true rfl⟩ ⟨Nat.le_refl _, Nat.le_refl _⟩ ?_
      refine z_if_eq CX 55 dX6_endsIn_50 (by decide) (fun q9 => absurd q9 (by decide)) (fun _ => ?_)
      refine z_iconst CX (v := 0) dX6_endsIn_53 (by decide) ?_
      exact z_iret CX dX6_endsIn_54 rfl rfl (by show _ = modH w hs k _ (upA A 1 (A 1)); rw [upA_id]; rfl) (Or.inl rfl)
  · refine ⟨A 1, ?_⟩
    rw [show rs_endsIn u A b x = bad 1 u A from if_neg h0]
    refine Cn.of (d := mX6_endsIn) (by decide +kernel) (Nat.le_of_ble_eq_true rfl) ?_
    intro p e R s m args below meth c CX
    replace CX : Ctx p s m args meth c R w RX6 "endsIn" cX6_endsIn 4 (some .int) 7 159 0 0 := CX
    show ZW p l e R s m args below meth c w 4 _ _ 0 0 (MQ below (Qn w _ _ _) args s 0 0 (wA w)) 0 [(0, .ref (wB w + k)), (1, .int _), (2, .int _)] []
    refine z_aload_n CX 0 dX6_endsIn_0 rfl rfl ?_
    refine z_aload_n CX 0 dX6_endsIn_1 rfl rfl ?_
    refine z_get CX dX6_endsIn_2 fg_X6_7 mo_0 rfl ?_
    refine z_iload_n CX 1 dX6_endsIn_5 rfl rfl ?_
    refine z_callS1 CX dX6_endsIn_6 cs_X6_166 (Cn.row mq_0 mq_0 (a := k + 1) (c_isB hO.1.2.1 (by have := hO.2.2; omega) _)) rfl rfl (Nat.le_of_ble_eq_true rfl) ⟨Nat.le_of_ble_eq_true rfl, Nat.le_of_ble_eq_true rfl⟩ ⟨Nat.le_refl _, Nat.le_refl _⟩ ?_
    refine z_if_ne CX 16 dX6_endsIn_9 (by decide) (fun q9 => absurd q9 (fun q => q (bI_0 h0))) (fun _ => ?_)
    refine z_iconst CX (v := 1) dX6_endsIn_12 (by decide) ?_
    refine z_goto CX 47 dX6_endsIn_13 (by decide) ?_
    refine z_callV1 CX dX6_endsIn_47 cv_X6_122 (c_ref _) mo_0 rfl rfl (Nat.le_of_ble_eq_true rfl) ⟨Nat.le_of_ble_eq_true rfl, Nat.le_of_ble_eq_true rfl⟩ ⟨Nat.le_refl _, Nat.le_refl _⟩ ?_
    refine z_if_eq CX 55 dX6_endsIn_50 (by decide) (fun q9 => absurd q9 (by decide)) (fun _ => ?_)
    refine z_iconst CX (v := 0) dX6_endsIn_53 (by decide) ?_
    exact z_iret CX dX6_endsIn_54 rfl rfl (by show _ = modH w hs k _ (upA A 1 (A 1)); rw [upA_id]; rfl) (Or.inl rfl)
set_option maxHeartbeats 4000000 in
set_option maxRecDepth 100000 in
theorem m_winner {l : Launch} {w : Wt} {hs : Hs} {n : Option Nat} {k : Nat} {u : Nat → Int32} {A : Nat → Nat → Int32} (hO : OKr (A 0)) : ∃ tr : Nat → Int32, Cn l w mX6_winner 0 0 [.ref (wB w + k)] (modH w hs k u A) n (modH w hs k (rs_winner u A).2.2.1 (upA (rs_winner u A).2.2.2 1 tr)) n (some (.int (rs_winner u A).2.1)) := by
  refine ⟨(lhe (bN (A 0)) 94 (A 0)), ?_⟩
  rw [show rs_winner u A = (0, wnR (A 0) (lhe (bN (A 0)) 94 (A 0)) (bN (A 0)) 0, upd u 0 0, A) from rfl]
  refine Cn.of (d := mX6_winner) (by decide +kernel) (Nat.le_of_ble_eq_true rfl) ?_
  intro p e R s m args below meth c CX
  replace CX : Ctx p s m args meth c R w RX6 "winner" cX6_winner 2 (some .int) 6 136 0 0 := CX
  show ZW p l e R s m args below meth c w 2 _ _ 0 0 (MQ below (Qn w _ _ _) args s 0 0 (wA w)) 0 [(0, .ref (wB w + k))] []
  have h9 := hO.2.2
  have L2 : ∀ (j i : Nat) (v : Int32), i + j = bN (A 0) → v = wnR (A 0) (lhe (bN (A 0)) 94 (A 0)) j i → ZW p l e R s m args below meth c w 2 (modH w hs k (upd u 0 0) (upA A 1 (lhe (bN (A 0)) 94 (A 0)))) n 0 0 (MQ below (Qn w (modH w hs k (upd u 0 0) (upA A 1 (lhe (bN (A 0)) 94 (A 0)))) n (some (.int v))) args s 0 0 (wA w)) 41 [(0, .ref (wB w + k)), (1, .int (nI i))] [] := by
    intro j
    induction j with
    | zero =>
      intro i v hi hv
      refine z_iload_n CX 1 dX6_winner_41 rfl rfl ?_
      refine z_aload_n CX 0 dX6_winner_42 rfl rfl ?_
      refine z_get CX dX6_winner_43 fg_X6_7 mo_0 rfl ?_
      refine z_sipush CX (v := 147) dX6_winner_46 (by decide) ?_
      refine z_ia CX (j := 147) dX6_winner_49 mo_1 rfl (by omega) (by decide) ?_
      rw [show upA A 1 (lhe (bN (A 0)) 94 (A 0)) 0 147 = nI (bN (A 0)) from hO.1.2.1]
      refine z_icmp_ge CX 88 dX6_winner_50 (by decide) (fun _ => ?_) (fun q9 => absurd (nI_le (by omega) (by omega)) q9)
      refine z_iconst CX (v := (-1 : Int32)) dX6_winner_88 (by decide) ?_
      exact z_iret CX dX6_winner_89 rfl (congrArg Value.int (by rw [hv]; rfl)) rfl (Or.inl rfl)
    | succ j ih =>
      intro i v hi hv
      refine z_iload_n CX 1 dX6_winner_41 rfl rfl ?_
      refine z_aload_n CX 0 dX6_winner_42 rfl rfl ?_
      refine z_get CX dX6_winner_43 fg_X6_7 mo_0 rfl ?_
      refine z_sipush CX (v := 147) dX6_winner_46 (by decide) ?_
      refine z_ia CX (j := 147) dX6_winner_49 mo_1 rfl (by omega) (by decide) ?_
      rw [show upA A 1 (lhe (bN (A 0)) 94 (A 0)) 0 147 = nI (bN (A 0)) from hO.1.2.1]
      refine z_icmp_ge CX 88 dX6_winner_50 (by decide) (fun q9 => absurd q9 (nI_ge (by omega) (by omega))) (fun _ => ?_)
      refine z_aload_n CX 0 dX6_winner_53 rfl rfl ?_
      refine z_get CX dX6_winner_54 fg_X6_13 mo_0 rfl ?_
      refine z_iload_n CX 1 dX6_winner_57 rfl rfl ?_
      refine z_callS1 CX dX6_winner_58 cs_X6_60 (c_spot i) rfl rfl (Nat.le_of_ble_eq_true rfl) ⟨Nat.le_of_ble_eq_true rfl, Nat.le_of_ble_eq_true rfl⟩ ⟨Nat.le_refl _, Nat.le_refl _⟩ ?_
      refine z_bipush CX (v := 8) dX6_winner_61 (by decide) ?_
      refine z_iadd CX dX6_winner_63 ?_
      refine z_ia CX (j := ((24 + 10 * i) + 8)) dX6_winner_64 mo_2 (ix_add rfl rfl) (by omega) (by decide) ?_
      refine z_aload_n CX 0 dX6_winner_65 rfl rfl ?_
      refine z_get CX dX6_winner_66 fg_X6_7 mo_0 rfl ?_
      refine z_iload_n CX 1 dX6_winner_69 rfl rfl ?_
      refine z_callS1 CX dX6_winner_70 cs_X6_60 (c_spot i) rfl rfl (Nat.le_of_ble_eq_true rfl) ⟨Nat.le_of_ble_eq_true rfl, Nat.le_of_ble_eq_true rfl⟩ ⟨Nat.le_refl _, Nat.le_refl _⟩ ?_
      refine z_bipush CX (v := 8) dX6_winner_73 (by decide) ?_
      refine z_iadd CX dX6_winner_75 ?_
      refine z_ia CX (j := ((24 + 10 * i) + 8)) dX6_winner_76 mo_1 (ix_add rfl rfl) (by omega) (by decide) ?_
      refine z_icmp_le CX 82 dX6_winner_77 (by decide) (fun c_77 => ?_) (fun c_77 => ?_)
      · skip
        refine z_iinc CX (v := nI (i + 1)) dX6_winner_82 rfl (nI_1 i) (by decide) ?_
        refine z_goto CX 41 dX6_winner_85 (by decide) ?_
        refine z_loc [(0, .ref (wB w + k)), (1, .int (nI (i + 1)))] ⟨rfl, rfl, trivial⟩ ?_
        exact ih (i + 1) v (by omega) (by rw [hv]; exact if_pos c_77)
      · skip
        refine z_iload_n CX 1 dX6_winner_80 rfl rfl ?_
        exact z_iret CX dX6_winner_81 rfl (congrArg Value.int (by rw [hv]; exact if_neg c_77)) rfl (Or.inl rfl)
  have LP : ∀ (j m9 : Nat) (f1 : Nat → Int32), RI f1 (gN (A 0)) (bN (A 0)) → UD f1 (bN (A 0)) → 94 ≤ j + m9 → (∀ b, b < bN (A 0) → f1 (24 + 10 * b + 3) = 1 → ∃ K, f1 (24 + 10 * b + 6) = nI K ∧ m9 ≤ K ∧ K ≤ 93) → lhe (bN (A 0)) j f1 = (lhe (bN (A 0)) 94 (A 0)) → ZW p l e R s m args below meth c w 2 (modH w hs k (upd u 0 0) (upA A 1 f1)) n 0 0 (MQ below (Qn w (modH w hs k (upd u 0 0) (upA A 1 (lhe (bN (A 0)) 94 (A 0)))) n (some (.int (wnR (A 0) (lhe (bN (A 0)) 94 (A 0)) (bN (A 0)) 0)))) args s 0 0 (wA w)) 16 [(0, .ref (wB w + k))] [] := by
    intro j
    induction j with
    | zero =>
      intro m9 f1 hR hU hm hK e1
      refine z_aload_n CX 0 dX6_winner_16 rfl rfl ?_
      refine z_get CX dX6_winner_17 fg_X6_13 mo_0 rfl ?_
      refine z_sipush CX (v := 150) dX6_winner_20 (by decide) ?_
      refine z_ia CX (j := 150) dX6_winner_23 mo_2 rfl (by omega) (by decide) ?_
      refine z_iconst CX (v := 1) dX6_winner_24 (by decide) ?_
      refine z_icmp_ne CX 39 dX6_winner_25 (by decide) (fun _ => ?_) (fun q9 => absurd q9 (fun z => absurd (z.symm.trans (lhe_end 0 f1 m9 hR hU hm hK).1) (by decide)))
      refine z_iconst CX (v := 0) dX6_winner_39 (by decide) ?_
      refine z_istore_n CX 1 dX6_winner_40 rfl (by decide) ?_
      rw [show f1 = (lhe (bN (A 0)) 94 (A 0)) from e1]
      refine z_loc [(0, .ref (wB w + k)), (1, .int (nI 0))] ⟨rfl, rfl, trivial⟩ ?_
      exact L2 (bN (A 0)) 0 _ (by omega) rfl
    | succ j ih =>
      intro m9 f1 hR hU hm hK e1
      by_cases hs9 : f1 150 = 1
      · skip
        refine z_aload_n CX 0 dX6_winner_16 rfl rfl ?_
        refine z_get CX dX6_winner_17 fg_X6_13 mo_0 rfl ?_
        refine z_sipush CX (v := 150) dX6_winner_20 (by decide) ?_
        refine z_ia CX (j := 150) dX6_winner_23 mo_2 rfl (by omega) (by decide) ?_
        refine z_iconst CX (v := 1) dX6_winner_24 (by decide) ?_
        refine z_icmp_ne CX 39 dX6_winner_25 (by decide) (fun q9 => absurd q9 (fun z => z hs9)) (fun _ => ?_)
        refine z_aload_n CX 0 dX6_winner_28 rfl rfl ?_
        refine z_get CX dX6_winner_29 fg_X6_13 mo_0 rfl ?_
        refine z_callS1 CX dX6_winner_32 cs_X6_89 (Cn.row (mq_1 (A := upA A 1 f1)) (mr_1 (A := upA A 1 f1)) (a := k + 2) (c_goM hR)) rfl rfl (Nat.le_of_ble_eq_true rfl) ⟨Nat.le_of_ble_eq_true rfl, Nat.le_of_ble_eq_true rfl⟩ ⟨Nat.le_refl _, Nat.le_refl _⟩ ?_
        refine z_heap (show _ = modH w hs k (upd u 0 0) (upA A 1 (gmi f1 (bN (A 0))).2) from congrArg (fun z => modH w hs k (upd u 0 0) z) upA_up) ?_
        refine z_istore_n CX 1 dX6_winner_35 rfl (by decide) ?_
        refine z_goto CX 16 dX6_winner_36 (by decide) ?_
        refine z_loc [(0, .ref (wB w + k))] ⟨rfl, trivial⟩ ?_
        exact ih (m9 + 1) _ (RI_gmi hR) (UD_gmi hR hU) (by omega) (lhe_st hR hK) (by rw [← e1, lhe, if_pos hs9])
      · skip
        refine z_aload_n CX 0 dX6_winner_16 rfl rfl ?_
        refine z_get CX dX6_winner_17 fg_X6_13 mo_0 rfl ?_
        refine z_sipush CX (v := 150) dX6_winner_20 (by decide) ?_
        refine z_ia CX (j := 150) dX6_winner_23 mo_2 rfl (by omega) (by decide) ?_
        refine z_iconst CX (v := 1) dX6_winner_24 (by decide) ?_
        refine z_icmp_ne CX 39 dX6_winner_25 (by decide) (fun _ => ?_) (fun q9 => absurd q9 hs9)
        refine z_iconst CX (v := 0) dX6_winner_39 (by decide) ?_
        refine z_istore_n CX 1 dX6_winner_40 rfl (by decide) ?_
        rw [lhe, if_neg hs9] at e1
        rw [e1]
        refine z_loc [(0, .ref (wB w + k)), (1, .int (nI 0))] ⟨rfl, rfl, trivial⟩ ?_
        exact L2 (bN (A 0)) 0 _ (by omega) rfl
  refine z_aload_n CX 0 dX6_winner_0 rfl rfl ?_
  refine z_iconst CX (v := 0) dX6_winner_1 (by decide) ?_
  refine z_put CX dX6_winner_2 fg_X6_36 fp_X6_0 mo_0 (Nat.le_of_ble_eq_true rfl) rfl rfl ?_
  refine z_heap mo_f0 ?_
  refine z_aload_n CX 0 dX6_winner_5 rfl rfl ?_
  refine z_get CX dX6_winner_6 fg_X6_7 mo_0 rfl ?_
  refine z_aload_n CX 0 dX6_winner_9 rfl rfl ?_
  refine z_get CX dX6_winner_10 fg_X6_13 mo_0 rfl ?_
  refine z_callS0 CX dX6_winner_13 cs_X6_212 (Cn.row mq_1 mr_1 (a := k + 2) (c_cpM (q := k + 1) (by omega) mo_1)) rfl rfl (Nat.le_of_ble_eq_true rfl) ⟨Nat.le_of_ble_eq_true rfl, Nat.le_of_ble_eq_true rfl⟩ ⟨Nat.le_refl _, Nat.le_refl _⟩ ?_
  exact LP 94 0 (A 0) hO.1 hO.2.1 (by omega) (fun b hb q => by obtain ⟨K, k1, k2⟩ := hO.1.soak hb q; exact ⟨K, k2, Nat.zero_le _, k1⟩) rfl
set_option maxHeartbeats 4000000 in
set_option maxRecDepth 100000 in
theorem m_leastFolds {l : Launch} {w : Wt} {hs : Hs} {n : Option Nat} {k : Nat} {u : Nat → Int32} {A : Nat → Nat → Int32} (hO : OKr (A 0)) (g x : Int32) : ∃ tr : Nat → Int32, Cn l w mX6_leastFolds 0 0 [.ref (wB w + k), .int g, .int x] (modH w hs k u A) n (modH w hs k (rs_leastFolds u A g x).2.2.1 (upA (rs_leastFolds u A g x).2.2.2 1 tr)) n (some (.int (rs_leastFolds u A g x).2.1)) := by
  have h9 := hO.2.2
  have h6 := hO.1.1.2.1
  by_cases h0 : 0 ≤ g ∧ g < nI (gN (A 0))
  · obtain ⟨g9, hg, g2, g3⟩ := nI_box (by omega) h0
    by_cases hx : 0 ≤ x ∧ x ≤ 3
    · obtain ⟨V9, F9, hF⟩ : ∃ V9 F9, lfR (A 0) g9 x 9 1 (A 1) = (V9, F9) := ⟨_, _, rfl⟩
      refine ⟨F9, ?_⟩
      rw [show rs_leastFolds u A g x = (0, V9, upd u 0 0, A) by unfold rs_leastFolds; rw [if_pos h0, if_pos hx, g3, lfR_v 9 1 (A 0) (A 1), hF]]
      subst g2
      refine Cn.of (d := mX6_leastFolds) (by decide +kernel) (Nat.le_of_ble_eq_true rfl) ?_
      intro p e R s m args below meth c CX
      replace CX : Ctx p s m args meth c R w RX6 "leastFolds" cX6_leastFolds 7 (some .int) 7 159 0 0 := CX
      show ZW p l e R s m args below meth c w 7 _ _ 0 0 (MQ below (Qn w _ _ _) args s 0 0 (wA w)) 0 [(0, .ref (wB w + k)), (1, .int _), (2, .int _)] []
      have LP : ∀ (j i : Nat) (tr : Nat → Int32), i + j = 10 → 1 ≤ i → lfR (A 0) g9 x j i tr = (V9, F9) → ZW p l e R s m args below meth c w 7 (modH w hs k (upd u 0 0) (upA A 1 tr)) n 0 0 (MQ below (Qn w (modH w hs k (upd u 0 0) (upA A 1 F9)) n (some (.int V9))) args s 0 0 (wA w)) 43 [(0, .ref (wB w + k)), (1, .int (nI g9)), (2, .int x), (3, .int (nI i))] [] := by
        intro j
        induction j with
        | zero =>
          intro i tr hi h1i e1
          have hi9 : i = 10 := by omega
          subst hi9
          refine z_iload_n CX 3 dX6_leastFolds_43 rfl rfl ?_
          refine z_bipush CX (v := 9) dX6_leastFolds_44 (by decide) ?_
          refine z_icmp_gt CX 113 dX6_leastFolds_46 (by decide) (fun _ => ?_) (fun q9 => absurd (by decide) q9)
          refine z_iconst CX (v := (-1 : Int32)) dX6_leastFolds_113 (by decide) ?_
          exact z_iret CX dX6_leastFolds_114 rfl (congrArg Value.int (show V9 = -1 from (congrArg Prod.fst e1).symm)) (by rw [show F9 = tr from (congrArg Prod.snd e1).symm]) (Or.inl rfl)
        | succ j ih =>
          intro i tr hi h1i e1
          have hR1 : RI (adbF (A 0) (bN (A 0)) (nI i) x 0) (gN (A 0)) (bN (A 0) + 1) := RI_adb hO.1 (by omega) ⟨nI_le (a := 1) h1i (by omega), nI_le (b := 9) (by omega) (by omega)⟩ hx ⟨by decide, by decide⟩
          have hR2 : RI (lnF (adbF (A 0) (bN (A 0)) (nI i) x 0) (bN (A 0) + 1) (bN (A 0)) (nI g9)) (gN (A 0)) (bN (A 0) + 1) := RI_lnF hR1 (by omega) hg (adbF_c (by omega) (by omega) (by omega))
          refine z_iload_n CX 3 dX6_leastFolds_43 rfl rfl ?_
          refine z_bipush CX (v := 9) dX6_leastFolds_44 (by decide) ?_
          refine z_icmp_gt CX 113 dX6_leastFolds_46 (by decide) (fun q9 => absurd q9 (show ¬ 9 < nI i from nI_nlt (b := i) (a := 9) (by omega) (by omega))) (fun _ => ?_)
          refine z_aload_n CX 0 dX6_leastFolds_49 rfl rfl ?_
          refine z_get CX dX6_leastFolds_50 fg_X6_7 mo_0 rfl ?_
          refine z_aload_n CX 0 dX6_leastFolds_53 rfl rfl ?_
          refine z_get CX dX6_leastFolds_54 fg_X6_13 mo_0 rfl ?_
          refine z_callS0 CX dX6_leastFolds_57 cs_X6_212 (Cn.row (mq_1 (A := (upA A 1 tr))) (mr_1 (A := (upA A 1 tr))) (a := k + 2) (c_cpM (q := k + 1) (by omega) mo_1)) rfl rfl (Nat.le_of_ble_eq_true rfl) ⟨Nat.le_of_ble_eq_true rfl, Nat.le_of_ble_eq_true rfl⟩ ⟨Nat.le_refl _, Nat.le_refl _⟩ ?_
          refine z_heap (show _ = modH w hs k (upd u 0 0) (upA A 1 (A 0)) from congrArg (fun z => modH w hs k (upd u 0 0) z) upA_up) ?_
          refine z_aload_n CX 0 dX6_leastFolds_60 rfl rfl ?_
          refine z_get CX dX6_leastFolds_61 fg_X6_13 mo_0 rfl ?_
          refine z_iload_n CX 3 dX6_leastFolds_64 rfl rfl ?_
          refine z_iload_n CX 2 dX6_leastFolds_65 rfl rfl ?_
          refine z_iconst CX (v := 0) dX6_leastFolds_66 (by decide) ?_
          refine z_callS1 CX dX6_leastFolds_67 cs_X6_162 (Cn.row (mq_1 (A := (upA A 1 (A 0)))) (mr_1 (A := (upA A 1 (A 0)))) (a := k + 2) (c_addB hO.1.2.1 (by omega) (nI i) x 0)) rfl rfl (Nat.le_of_ble_eq_true rfl) ⟨Nat.le_of_ble_eq_true rfl, Nat.le_of_ble_eq_true rfl⟩ ⟨Nat.le_refl _, Nat.le_refl _⟩ ?_
          refine z_heap (show _ = modH w hs k (upd u 0 0) (upA A 1 (adbF (A 0) (bN (A 0)) (nI i) x 0)) from congrArg (fun z => modH w hs k (upd u 0 0) z) upA_up) ?_
          refine z_istore CX dX6_leastFolds_70 (by decide) ?_
          refine z_aload_n CX 0 dX6_leastFolds_72 rfl rfl ?_
          refine z_get CX dX6_leastFolds_73 fg_X6_13 mo_0 rfl ?_
          refine z_iload CX dX6_leastFolds_76 rfl ?_
          refine z_iload_n CX 1 dX6_leastFolds_78 rfl rfl ?_
          refine z_callS1 CX dX6_leastFolds_79 cs_X6_169 (Cn.row (mq_1 (A := (upA A 1 (adbF (A 0) (bN (A 0)) (nI i) x 0)))) (mr_1 (A := (upA A 1 (adbF (A 0) (bN (A 0)) (nI i) x 0)))) (a := k + 2) (c_goL hR1.1 hR1.2.1 (by omega) (by omega) hg)) rfl rfl (Nat.le_of_ble_eq_true rfl) ⟨Nat.le_of_ble_eq_true rfl, Nat.le_of_ble_eq_true rfl⟩ ⟨Nat.le_refl _, Nat.le_refl _⟩ ?_
          refine z_heap (show _ = modH w hs k (upd u 0 0) (upA A 1 (lnF (adbF (A 0) (bN (A 0)) (nI i) x 0) (bN (A 0) + 1) (bN (A 0)) (nI g9))) from congrArg (fun z => modH w hs k (upd u 0 0) z) upA_up) ?_
          refine z_istore CX dX6_leastFolds_82 (by decide) ?_
          refine z_aload_n CX 0 dX6_leastFolds_84 rfl rfl ?_
          refine z_iload CX dX6_leastFolds_85 rfl ?_
          refine z_callV1 CX dX6_leastFolds_87 cv_X6_251 (c_goT (A := (upA A 1 (lnF (adbF (A 0) (bN (A 0)) (nI i) x 0) (bN (A 0) + 1) (bN (A 0)) (nI g9)))) hR2 (show bN (A 0) < bN (A 0) + 1 by omega) (C9 := (lfT (A 0) g9 x i).1) (F9 := (lfT (A 0) g9 x i).2) rfl) mo_0 rfl rfl (Nat.le_of_ble_eq_true rfl) ⟨Nat.le_of_ble_eq_true rfl, Nat.le_of_ble_eq_true rfl⟩ ⟨Nat.le_refl _, Nat.le_refl _⟩ ?_
          refine z_heap (show _ = modH w hs k (upd u 0 0) (upA A 1 (lfT (A 0) g9 x i).2) from congrArg (fun z => modH w hs k (upd u 0 0) z) upA_up) ?_
          refine z_istore CX dX6_leastFolds_90 (by decide) ?_
          refine z_aload_n CX 0 dX6_leastFolds_92 rfl rfl ?_
          refine z_get CX dX6_leastFolds_93 fg_X6_13 mo_0 rfl ?_
          refine z_iload CX dX6_leastFolds_96 rfl ?_
          refine z_callS1 CX dX6_leastFolds_98 cs_X6_64 (Cn.row (mq_1 (A := (upA A 1 (lfT (A 0) g9 x i).2))) (mq_1 (A := (upA A 1 (lfT (A 0) g9 x i).2))) (a := k + 2) (c_state (f := (lfT (A 0) g9 x i).2) (b := bN (A 0)) (by omega))) rfl rfl (Nat.le_of_ble_eq_true rfl) ⟨Nat.le_of_ble_eq_true rfl, Nat.le_of_ble_eq_true rfl⟩ ⟨Nat.le_refl _, Nat.le_refl _⟩ ?_
          refine z_iconst CX (v := 3) dX6_leastFolds_101 (by decide) ?_
          refine z_icmp_eq CX 107 dX6_leastFolds_102 (by decide) (fun c_102 => ?_) (fun c_102 => ?_)
          · skip
            refine z_iinc CX (v := nI (i + 1)) dX6_leastFolds_107 rfl (nI_1 i) (by decide) ?_
            refine z_goto CX 43 dX6_leastFolds_110 (by decide) ?_
            refine z_loc [(0, .ref (wB w + k)), (1, .int (nI g9)), (2, .int x), (3, .int (nI (i + 1)))] ⟨rfl, rfl, rfl, rfl, trivial⟩ ?_
            exact ih (i + 1) _ (by omega) (by omega) (by rw [← e1, lfR, if_pos c_102])
          · skip
            refine z_iload_n CX 3 dX6_leastFolds_105 rfl rfl ?_
            exact z_iret CX dX6_leastFolds_106 rfl (congrArg Value.int (show V9 = nI i from (congrArg Prod.fst (e1.symm.trans (by rw [lfR, if_neg c_102]))))) (by rw [show F9 = (lfT (A 0) g9 x i).2 from congrArg Prod.snd (e1.symm.trans (by rw [lfR, if_neg c_102]))]) (Or.inl rfl)
      refine z_aload_n CX 0 dX6_leastFolds_0 rfl rfl ?_
      refine z_aload_n CX 0 dX6_leastFolds_1 rfl rfl ?_
      refine z_get CX dX6_leastFolds_2 fg_X6_7 mo_0 rfl ?_
      refine z_iload_n CX 1 dX6_leastFolds_5 rfl rfl ?_
      refine z_callS1 CX dX6_leastFolds_6 cs_X6_46 (Cn.row mq_0 mq_0 (a := k + 1) (c_isG hO.1.1.1 (by have := hO.1.1.2.1; omega) _)) rfl rfl (Nat.le_of_ble_eq_true rfl) ⟨Nat.le_of_ble_eq_true rfl, Nat.le_of_ble_eq_true rfl⟩ ⟨Nat.le_refl _, Nat.le_refl _⟩ ?_
      refine z_if_ne CX 16 dX6_leastFolds_9 (by decide) (fun _ => ?_) (fun q9 => absurd q9 (by rw [bI_1 h0]; decide))
      refine z_iload_n CX 2 dX6_leastFolds_16 rfl rfl ?_
      refine z_i2l CX dX6_leastFolds_17 rfl ?_
      refine z_lconst CX (v := 0) dX6_leastFolds_18 (by decide) ?_
      refine z_ldc2 CX (v := 3) dX6_leastFolds_19 (wa_mem 989 (by decide +kernel) rfl) ?_
      refine z_callS1 CX dX6_leastFolds_22 cs_X6_42 (c_inI (0) (3) _ _ _ (by decide) (by decide)) rfl rfl (Nat.le_of_ble_eq_true rfl) ⟨Nat.le_of_ble_eq_true rfl, Nat.le_of_ble_eq_true rfl⟩ ⟨Nat.le_refl _, Nat.le_refl _⟩ ?_
      refine z_if_ne CX 32 dX6_leastFolds_25 (by decide) (fun _ => ?_) (fun q9 => absurd q9 (by rw [bI_1 hx]; decide))
      refine z_iconst CX (v := 0) dX6_leastFolds_32 (by decide) ?_
      refine z_callV1 CX dX6_leastFolds_33 cv_X6_122 (c_ref _) mo_0 rfl rfl (Nat.le_of_ble_eq_true rfl) ⟨Nat.le_of_ble_eq_true rfl, Nat.le_of_ble_eq_true rfl⟩ ⟨Nat.le_refl _, Nat.le_refl _⟩ ?_
      refine z_if_eq CX 41 dX6_leastFolds_36 (by decide) (fun _ => ?_) (fun q9 => absurd (by decide) q9)
      refine z_iconst CX (v := 1) dX6_leastFolds_41 (by decide) ?_
      refine z_istore_n CX 3 dX6_leastFolds_42 rfl (by decide) ?_
      refine z_heap (congrArg (fun z => modH w hs k (upd u 0 0) z) (upA_id (A := A) (i := 1)).symm) ?_
      refine z_loc [(0, .ref (wB w + k)), (1, .int (nI g9)), (2, .int x), (3, .int (nI 1))] ⟨rfl, rfl, rfl, rfl, trivial⟩ ?_
      exact LP 9 1 (A 1) (by omega) (by omega) hF
    · refine ⟨A 1, ?_⟩
      rw [show rs_leastFolds u A g x = bad 2 u A by unfold rs_leastFolds; rw [if_pos h0, if_neg hx]]
      refine Cn.of (d := mX6_leastFolds) (by decide +kernel) (Nat.le_of_ble_eq_true rfl) ?_
      intro p e R s m args below meth c CX
      replace CX : Ctx p s m args meth c R w RX6 "leastFolds" cX6_leastFolds 7 (some .int) 7 159 0 0 := CX
      show ZW p l e R s m args below meth c w 7 _ _ 0 0 (MQ below (Qn w _ _ _) args s 0 0 (wA w)) 0 [(0, .ref (wB w + k)), (1, .int _), (2, .int _)] []
      refine z_aload_n CX 0 dX6_leastFolds_0 rfl rfl ?_
      refine z_aload_n CX 0 dX6_leastFolds_1 rfl rfl ?_
      refine z_get CX dX6_leastFolds_2 fg_X6_7 mo_0 rfl ?_
      refine z_iload_n CX 1 dX6_leastFolds_5 rfl rfl ?_
      refine z_callS1 CX dX6_leastFolds_6 cs_X6_46 (Cn.row mq_0 mq_0 (a := k + 1) (c_isG hO.1.1.1 (by have := hO.1.1.2.1; omega) _)) rfl rfl (Nat.le_of_ble_eq_true rfl) ⟨Nat.le_of_ble_eq_true rfl, Nat.le_of_ble_eq_true rfl⟩ ⟨Nat.le_refl _, Nat.le_refl _⟩ ?_
      refine z_if_ne CX 16 dX6_leastFolds_9 (by decide) (fun _ => ?_) (fun q9 => absurd q9 (by rw [bI_1 h0]; decide))
      refine z_iload_n CX 2 dX6_leastFolds_16 rfl rfl ?_
      refine z_i2l CX dX6_leastFolds_17 rfl ?_
      refine z_lconst CX (v := 0) dX6_leastFolds_18 (by decide) ?_
      refine z_ldc2 CX (v := 3) dX6_leastFolds_19 (wa_mem 989 (by decide +kernel) rfl) ?_
      refine z_callS1 CX dX6_leastFolds_22 cs_X6_42 (c_inI (0) (3) _ _ _ (by decide) (by decide)) rfl rfl (Nat.le_of_ble_eq_true rfl) ⟨Nat.le_of_ble_eq_true rfl, Nat.le_of_ble_eq_true rfl⟩ ⟨Nat.le_refl _, Nat.le_refl _⟩ ?_
      refine z_if_ne CX 32 dX6_leastFolds_25 (by decide) (fun q9 => absurd q9 (fun q => q (bI_0 hx))) (fun _ => ?_)
      refine z_iconst CX (v := 2) dX6_leastFolds_28 (by decide) ?_
      refine z_goto CX 33 dX6_leastFolds_29 (by decide) ?_
      refine z_callV1 CX dX6_leastFolds_33 cv_X6_122 (c_ref _) mo_0 rfl rfl (Nat.le_of_ble_eq_true rfl) ⟨Nat.le_of_ble_eq_true rfl, Nat.le_of_ble_eq_true rfl⟩ ⟨Nat.le_refl _, Nat.le_refl _⟩ ?_
      refine z_if_eq CX 41 dX6_leastFolds_36 (by decide) (fun q9 => absurd q9 (by decide)) (fun _ => ?_)
      refine z_iconst CX (v := 0) dX6_leastFolds_39 (by decide) ?_
      exact z_iret CX dX6_leastFolds_40 rfl rfl (by show _ = modH w hs k _ (upA A 1 (A 1)); rw [upA_id]; rfl) (Or.inl rfl)
  · refine ⟨A 1, ?_⟩
    rw [show rs_leastFolds u A g x = bad 1 u A from if_neg h0]
    refine Cn.of (d := mX6_leastFolds) (by decide +kernel) (Nat.le_of_ble_eq_true rfl) ?_
    intro p e R s m args below meth c CX
    replace CX : Ctx p s m args meth c R w RX6 "leastFolds" cX6_leastFolds 7 (some .int) 7 159 0 0 := CX
    show ZW p l e R s m args below meth c w 7 _ _ 0 0 (MQ below (Qn w _ _ _) args s 0 0 (wA w)) 0 [(0, .ref (wB w + k)), (1, .int _), (2, .int _)] []
    refine z_aload_n CX 0 dX6_leastFolds_0 rfl rfl ?_
    refine z_aload_n CX 0 dX6_leastFolds_1 rfl rfl ?_
    refine z_get CX dX6_leastFolds_2 fg_X6_7 mo_0 rfl ?_
    refine z_iload_n CX 1 dX6_leastFolds_5 rfl rfl ?_
    refine z_callS1 CX dX6_leastFolds_6 cs_X6_46 (Cn.row mq_0 mq_0 (a := k + 1) (c_isG hO.1.1.1 (by have := hO.1.1.2.1; omega) _)) rfl rfl (Nat.le_of_ble_eq_true rfl) ⟨Nat.le_of_ble_eq_true rfl, Nat.le_of_ble_eq_true rfl⟩ ⟨Nat.le_refl _, Nat.le_refl _⟩ ?_
    refine z_if_ne CX 16 dX6_leastFolds_9 (by decide) (fun q9 => absurd q9 (fun q => q (bI_0 h0))) (fun _ => ?_)
    refine z_iconst CX (v := 1) dX6_leastFolds_12 (by decide) ?_
    refine z_goto CX 33 dX6_leastFolds_13 (by decide) ?_
    refine z_callV1 CX dX6_leastFolds_33 cv_X6_122 (c_ref _) mo_0 rfl rfl (Nat.le_of_ble_eq_true rfl) ⟨Nat.le_of_ble_eq_true rfl, Nat.le_of_ble_eq_true rfl⟩ ⟨Nat.le_refl _, Nat.le_refl _⟩ ?_
    refine z_if_eq CX 41 dX6_leastFolds_36 (by decide) (fun q9 => absurd q9 (by decide)) (fun _ => ?_)
    refine z_iconst CX (v := 0) dX6_leastFolds_39 (by decide) ?_
    exact z_iret CX dX6_leastFolds_40 rfl rfl (by show _ = modH w hs k _ (upA A 1 (A 1)); rw [upA_id]; rfl) (Or.inl rfl)
