/-! the model: commands on the trial, scripts, simulations -/
theorem drn_n {f : Nat → Int32} {ng : Nat} (hG : GG f ng) : ∀ (k g a c L : Nat), g ≤ k → g < ng → f (4 * g + 0) = nI L → c ≤ L → L ≤ 40 → ∃ m, m ≤ a + 40 * (k + 1) ∧ drn f k (nI a) g (nI c) = nI m
  | 0, g, a, c, L, h1, h2, h3, h4, h5 => by
    have e : g = 0 := by omega
    subst e
    refine ⟨a + L - c, by omega, ?_⟩
    show nI a + f 0 - nI c = _
    rw [show f 0 = nI L from h3, nI_add, pk_sub (by omega)]
  | k + 1, g, a, c, L, h1, h2, h3, h4, h5 => by
    show ∃ m, _ ∧ (if g = 0 then _ else _) = nI m
    by_cases e : g = 0
    · subst e
      rw [if_pos rfl, show f 0 = nI L from h3, nI_add, pk_sub (by omega)]
      exact ⟨a + L - c, by omega, rfl⟩
    · have h6 := hG.2.1
      obtain ⟨i, a9, L9, i1, e1, e2, e3, e4, e5⟩ := (hG.2.2.2 g h2).2.2 (by omega)
      rw [if_neg e, h3, e1, e2, pk_sub h4, nI_add, nI_clamp (by omega)]
      obtain ⟨m, m1, m2⟩ := drn_n hG k i (a + (L - c)) a9 L9 (by omega) (by omega) e3 (by omega) e5
      exact ⟨m, by omega, m2⟩
theorem drn_0 {f : Nat → Int32} {ng g : Nat} (hG : GG f ng) (hg : g < ng) : ∃ m, m ≤ 1000 ∧ drn f 6 0 g 0 = nI m := by
  have h6 := hG.2.1
  obtain ⟨⟨L, l1, l2, l3⟩, -⟩ := hG.2.2.2 g hg
  obtain ⟨m, m1, m2⟩ := drn_n hG 6 g 0 0 L (by omega) hg l3 (by omega) l2
  exact ⟨m, by omega, m2⟩
theorem gmb_le {f : Nat → Int32} {nb : Nat} : ∀ i, (gmb f nb i).1 ≤ i
  | 0 => Nat.le_refl 0
  | i + 1 => by
    have := gmb_le (f := f) (nb := nb) i
    rw [gmb]; split
    · show _ + (if _ then _ else _) ≤ _
      split <;> omega
    · omega
theorem gms_le {nb : Nat} : ∀ (k : Nat) (f : Nat → Int32), (gms nb k f).1 ≤ k * nb
  | 0, _ => Nat.zero_le _
  | k + 1, f => by
    have := gms_le (nb := nb) k f
    show (gms nb k f).1 + (gmb _ nb nb).1 ≤ _
    have h2 := gmb_le (f := (gms nb k f).2) (nb := nb) nb
    rw [Nat.succ_mul]; omega
/-- a claim on the trial counts its refusal there -/
def pfT (f : Nat → Int32) (a b : Int32) : Bool × (Nat → Int32) := if (0 ≤ a ∧ a ≤ 3) ∧ (0 ≤ b ∧ b < nI (bN f)) then (decide (whyF f a.toNatClampNeg b.toNatClampNeg = 0), clmF f a.toNatClampNeg b.toNatClampNeg) else (false, f)
theorem pfT_ok {f : Nat → Int32} {a b : Int32} (h : OKr f) : OKr (pfT f a b).2 := by
  unfold pfT; split
  · rename_i q
    obtain ⟨o, o1, o2, o3, o4⟩ := nI_le9 (a := 0) (b := 3) (by omega) (by omega) q.1
    obtain ⟨i, i1, i2, i3⟩ := nI_box (by have := h.2.2; omega) q.2
    rw [o4, i3]
    exact OKr.of (RI_clm h.1 (by omega) i1) (UD_clm h.1.2.2.1 h.2.1 (by omega) i1) h.2.2
  · exact h
set_option maxHeartbeats 4000000 in
set_option maxRecDepth 100000 in
theorem r_launch {l : Launch} {w : Wt} {hs : Hs} {n : Option Nat} {k : Nat} {u : Nat → Int32} {A : Nat → Nat → Int32} (hO : OKr (A 1)) (a b : Int32) : Cn l w mX6_runLaunch 0 0 [.ref (wB w + k), .int a, .int b] (modH w hs k u A) n (modH w hs k u (upA A 1 (pfL (A 1) a b).2)) n (some (.int (bI (pfL (A 1) a b).1))) := by
  have h9 := hO.2.2
  have h6 := hO.1.1.2.1
  by_cases h0 : 0 ≤ a ∧ a < nI (bN (A 1))
  · by_cases h1 : 0 ≤ b ∧ b < nI (gN (A 1))
    · obtain ⟨i, i1, i2, i3⟩ := nI_box (by omega) h0
      obtain ⟨g, g1, g2, g3⟩ := nI_box (by omega) h1
      by_cases hs9 : A 1 (24 + 10 * i + 3) = 0
      · rw [show pfL (A 1) a b = (true, lnF (A 1) (bN (A 1)) i b) by unfold pfL; rw [i3, if_pos ⟨⟨h0, h1⟩, hs9⟩]]
        obtain ⟨m9, m1, m2⟩ := drn_0 hO.1.1 g1
        subst i2
        subst g2
        refine Cn.of (d := mX6_runLaunch) (by decide +kernel) (Nat.le_of_ble_eq_true rfl) ?_
        intro p e R s m args below meth c CX
        replace CX : Ctx p s m args meth c R w RX6 "runLaunch" cX6_runLaunch 3 (some .boolean) 4 86 0 0 := CX
        show ZW p l e R s m args below meth c w 3 _ _ 0 0 (MQ below (Qn w _ _ _) args s 0 0 (wA w)) 0 [(0, .ref (wB w + k)), (1, .int _), (2, .int _)] []
        refine z_aload_n CX 0 dX6_runLaunch_0 rfl rfl ?_
        refine z_get CX dX6_runLaunch_1 fg_X6_13 mo_0 rfl ?_
        refine z_iload_n CX 1 dX6_runLaunch_4 rfl rfl ?_
        refine z_callS1 CX dX6_runLaunch_5 cs_X6_166 (Cn.row mq_1 mq_1 (a := k + 2) (c_isB hO.1.2.1 (by have := hO.2.2; omega) _)) rfl rfl (Nat.le_of_ble_eq_true rfl) ⟨Nat.le_of_ble_eq_true rfl, Nat.le_of_ble_eq_true rfl⟩ ⟨Nat.le_refl _, Nat.le_refl _⟩ ?_
        refine z_if_eq CX 49 dX6_runLaunch_8 (by decide) (fun q9 => absurd q9 (by rw [bI_1 h0]; decide)) (fun _ => ?_)
        refine z_aload_n CX 0 dX6_runLaunch_11 rfl rfl ?_
        refine z_get CX dX6_runLaunch_12 fg_X6_13 mo_0 rfl ?_
        refine z_iload_n CX 2 dX6_runLaunch_15 rfl rfl ?_
        refine z_callS1 CX dX6_runLaunch_16 cs_X6_46 (Cn.row mq_1 mq_1 (a := k + 2) (c_isG hO.1.1.1 (by have := hO.1.1.2.1; omega) _)) rfl rfl (Nat.le_of_ble_eq_true rfl) ⟨Nat.le_of_ble_eq_true rfl, Nat.le_of_ble_eq_true rfl⟩ ⟨Nat.le_refl _, Nat.le_refl _⟩ ?_
        refine z_if_eq CX 49 dX6_runLaunch_19 (by decide) (fun q9 => absurd q9 (by rw [bI_1 h1]; decide)) (fun _ => ?_)
        refine z_aload_n CX 0 dX6_runLaunch_22 rfl rfl ?_
        refine z_get CX dX6_runLaunch_23 fg_X6_13 mo_0 rfl ?_
        refine z_iload_n CX 1 dX6_runLaunch_26 rfl rfl ?_
        refine z_callS1 CX dX6_runLaunch_27 cs_X6_64 (Cn.row mq_1 mq_1 (a := k + 2) (c_state (b := i) (by omega))) rfl rfl (Nat.le_of_ble_eq_true rfl) ⟨Nat.le_of_ble_eq_true rfl, Nat.le_of_ble_eq_true rfl⟩ ⟨Nat.le_refl _, Nat.le_refl _⟩ ?_
        refine z_if_ne CX 49 dX6_runLaunch_30 (by decide) (fun q9 => absurd q9 (fun z => z hs9)) (fun _ => ?_)
        refine z_aload_n CX 0 dX6_runLaunch_33 rfl rfl ?_
        refine z_get CX dX6_runLaunch_34 fg_X6_13 mo_0 rfl ?_
        refine z_iload_n CX 1 dX6_runLaunch_37 rfl rfl ?_
        refine z_iload_n CX 2 dX6_runLaunch_38 rfl rfl ?_
        refine z_callS1 CX dX6_runLaunch_39 cs_X6_169 (Cn.row mq_1 mr_1 (a := k + 2) (c_goL hO.1.1 hO.1.2.1 (by omega) (by omega) g1)) rfl rfl (Nat.le_of_ble_eq_true rfl) ⟨Nat.le_of_ble_eq_true rfl, Nat.le_of_ble_eq_true rfl⟩ ⟨Nat.le_refl _, Nat.le_refl _⟩ ?_
        refine z_if_lt CX 49 dX6_runLaunch_42 (by decide) (fun q9 => absurd q9 (by rw [m2]; exact nI_pos (by omega))) (fun _ => ?_)
        refine z_iconst CX (v := 1) dX6_runLaunch_45 (by decide) ?_
        refine z_goto CX 50 dX6_runLaunch_46 (by decide) ?_
        exact z_zret CX dX6_runLaunch_50 rfl (by first | rfl | exact bI_nar _) rfl rfl (Or.inl rfl)
      · rw [show pfL (A 1) a b = (false, A 1) by unfold pfL; rw [i3, if_neg (fun z => hs9 z.2)]]
        subst i2
        refine Cn.of (d := mX6_runLaunch) (by decide +kernel) (Nat.le_of_ble_eq_true rfl) ?_
        intro p e R s m args below meth c CX
        replace CX : Ctx p s m args meth c R w RX6 "runLaunch" cX6_runLaunch 3 (some .boolean) 4 86 0 0 := CX
        show ZW p l e R s m args below meth c w 3 _ _ 0 0 (MQ below (Qn w _ _ _) args s 0 0 (wA w)) 0 [(0, .ref (wB w + k)), (1, .int _), (2, .int _)] []
        refine z_aload_n CX 0 dX6_runLaunch_0 rfl rfl ?_
        refine z_get CX dX6_runLaunch_1 fg_X6_13 mo_0 rfl ?_
        refine z_iload_n CX 1 dX6_runLaunch_4 rfl rfl ?_
        refine z_callS1 CX dX6_runLaunch_5 cs_X6_166 (Cn.row mq_1 mq_1 (a := k + 2) (c_isB hO.1.2.1 (by have := hO.2.2; omega) _)) rfl rfl (Nat.le_of_ble_eq_true rfl) ⟨Nat.le_of_ble_eq_true rfl, Nat.le_of_ble_eq_true rfl⟩ ⟨Nat.le_refl _, Nat.le_refl _⟩ ?_
        refine z_if_eq CX 49 dX6_runLaunch_8 (by decide) (fun q9 => absurd q9 (by rw [bI_1 h0]; decide)) (fun _ => ?_)
        refine z_aload_n CX 0 dX6_runLaunch_11 rfl rfl ?_
        refine z_get CX dX6_runLaunch_12 fg_X6_13 mo_0 rfl ?_
        refine z_iload_n CX 2 dX6_runLaunch_15 rfl rfl ?_
        refine z_callS1 CX dX6_runLaunch_16 cs_X6_46 (Cn.row mq_1 mq_1 (a := k + 2) (c_isG hO.1.1.1 (by have := hO.1.1.2.1; omega) _)) rfl rfl (Nat.le_of_ble_eq_true rfl) ⟨Nat.le_of_ble_eq_true rfl, Nat.le_of_ble_eq_true rfl⟩ ⟨Nat.le_refl _, Nat.le_refl _⟩ ?_
        refine z_if_eq CX 49 dX6_runLaunch_19 (by decide) (fun q9 => absurd q9 (by rw [bI_1 h1]; decide)) (fun _ => ?_)
        refine z_aload_n CX 0 dX6_runLaunch_22 rfl rfl ?_
        refine z_get CX dX6_runLaunch_23 fg_X6_13 mo_0 rfl ?_
        refine z_iload_n CX 1 dX6_runLaunch_26 rfl rfl ?_
        refine z_callS1 CX dX6_runLaunch_27 cs_X6_64 (Cn.row mq_1 mq_1 (a := k + 2) (c_state (b := i) (by omega))) rfl rfl (Nat.le_of_ble_eq_true rfl) ⟨Nat.le_of_ble_eq_true rfl, Nat.le_of_ble_eq_true rfl⟩ ⟨Nat.le_refl _, Nat.le_refl _⟩ ?_
        refine z_if_ne CX 49 dX6_runLaunch_30 (by decide) (fun _ => ?_) (fun q9 => absurd q9 hs9)
        refine z_iconst CX (v := 0) dX6_runLaunch_49 (by decide) ?_
        exact z_zret CX dX6_runLaunch_50 rfl (by first | rfl | exact bI_nar _) rfl (by show _ = modH w hs k u (upA A 1 (A 1)); rw [upA_id]) (Or.inl rfl)
    · rw [show pfL (A 1) a b = (false, A 1) by unfold pfL; rw [if_neg (fun z => h1 z.1.2)]]
      refine Cn.of (d := mX6_runLaunch) (by decide +kernel) (Nat.le_of_ble_eq_true rfl) ?_
      intro p e R s m args below meth c CX
      replace CX : Ctx p s m args meth c R w RX6 "runLaunch" cX6_runLaunch 3 (some .boolean) 4 86 0 0 := CX
      show ZW p l e R s m args below meth c w 3 _ _ 0 0 (MQ below (Qn w _ _ _) args s 0 0 (wA w)) 0 [(0, .ref (wB w + k)), (1, .int _), (2, .int _)] []
      refine z_aload_n CX 0 dX6_runLaunch_0 rfl rfl ?_
      refine z_get CX dX6_runLaunch_1 fg_X6_13 mo_0 rfl ?_
      refine z_iload_n CX 1 dX6_runLaunch_4 rfl rfl ?_
      refine z_callS1 CX dX6_runLaunch_5 cs_X6_166 (Cn.row mq_1 mq_1 (a := k + 2) (c_isB hO.1.2.1 (by have := hO.2.2; omega) _)) rfl rfl (Nat.le_of_ble_eq_true rfl) ⟨Nat.le_of_ble_eq_true rfl, Nat.le_of_ble_eq_true rfl⟩ ⟨Nat.le_refl _, Nat.le_refl _⟩ ?_
      refine z_if_eq CX 49 dX6_runLaunch_8 (by decide) (fun q9 => absurd q9 (by rw [bI_1 h0]; decide)) (fun _ => ?_)
      refine z_aload_n CX 0 dX6_runLaunch_11 rfl rfl ?_
      refine z_get CX dX6_runLaunch_12 fg_X6_13 mo_0 rfl ?_
      refine z_iload_n CX 2 dX6_runLaunch_15 rfl rfl ?_
      refine z_callS1 CX dX6_runLaunch_16 cs_X6_46 (Cn.row mq_1 mq_1 (a := k + 2) (c_isG hO.1.1.1 (by have := hO.1.1.2.1; omega) _)) rfl rfl (Nat.le_of_ble_eq_true rfl) ⟨Nat.le_of_ble_eq_true rfl, Nat.le_of_ble_eq_true rfl⟩ ⟨Nat.le_refl _, Nat.le_refl _⟩ ?_
      refine z_if_eq CX 49 dX6_runLaunch_19 (by decide) (fun _ => ?_) (fun q9 => absurd (bI_0 h1) q9)
      refine z_iconst CX (v := 0) dX6_runLaunch_49 (by decide) ?_
      exact z_zret CX dX6_runLaunch_50 rfl (by first | rfl | exact bI_nar _) rfl (by show _ = modH w hs k u (upA A 1 (A 1)); rw [upA_id]) (Or.inl rfl)
  · rw [show pfL (A 1) a b = (false, A 1) by unfold pfL; rw [if_neg (fun z => h0 z.1.1)]]
    refine Cn.of (d := mX6_runLaunch) (by decide +kernel) (Nat.le_of_ble_eq_true rfl) ?_
    intro p e R s m args below meth c CX
    replace CX : Ctx p s m args meth c R w RX6 "runLaunch" cX6_runLaunch 3 (some .boolean) 4 86 0 0 := CX
    show ZW p l e R s m args below meth c w 3 _ _ 0 0 (MQ below (Qn w _ _ _) args s 0 0 (wA w)) 0 [(0, .ref (wB w + k)), (1, .int _), (2, .int _)] []
    refine z_aload_n CX 0 dX6_runLaunch_0 rfl rfl ?_
    refine z_get CX dX6_runLaunch_1 fg_X6_13 mo_0 rfl ?_
    refine z_iload_n CX 1 dX6_runLaunch_4 rfl rfl ?_
    refine z_callS1 CX dX6_runLaunch_5 cs_X6_166 (Cn.row mq_1 mq_1 (a := k + 2) (c_isB hO.1.2.1 (by have := hO.2.2; omega) _)) rfl rfl (Nat.le_of_ble_eq_true rfl) ⟨Nat.le_of_ble_eq_true rfl, Nat.le_of_ble_eq_true rfl⟩ ⟨Nat.le_refl _, Nat.le_refl _⟩ ?_
    refine z_if_eq CX 49 dX6_runLaunch_8 (by decide) (fun _ => ?_) (fun q9 => absurd (bI_0 h0) q9)
    refine z_iconst CX (v := 0) dX6_runLaunch_49 (by decide) ?_
    exact z_zret CX dX6_runLaunch_50 rfl (by first | rfl | exact bI_nar _) rfl (by show _ = modH w hs k u (upA A 1 (A 1)); rw [upA_id]) (Or.inl rfl)
set_option maxHeartbeats 4000000 in
set_option maxRecDepth 100000 in
theorem r_minutes {l : Launch} {w : Wt} {hs : Hs} {n : Option Nat} {k : Nat} {u : Nat → Int32} {A : Nat → Nat → Int32} (hO : OKr (A 1)) (a : Int32) : Cn l w mX6_runMinutes 0 0 [.ref (wB w + k), .int a] (modH w hs k u A) n (modH w hs k u (upA A 1 (pfM (A 1) a).2)) n (some (.int (bI (pfM (A 1) a).1))) := by
  have h9 := hO.2.2
  by_cases h0 : 1 ≤ a ∧ a ≤ 60
  · obtain ⟨i, i0, i1, i2, i3⟩ := nI_le9 (a := 1) (b := 60) (by omega) (by omega) h0
    rw [show pfM (A 1) a = (true, (gms (bN (A 1)) i (A 1)).2) by unfold pfM; rw [if_pos h0, i3]]
    have hle : (gms (bN (A 1)) i (A 1)).1 ≤ 600 := Nat.le_trans (gms_le i (A 1)) (Nat.mul_le_mul i1 h9)
    subst i2
    refine Cn.of (d := mX6_runMinutes) (by decide +kernel) (Nat.le_of_ble_eq_true rfl) ?_
    intro p e R s m args below meth c CX
    replace CX : Ctx p s m args meth c R w RX6 "runMinutes" cX6_runMinutes 2 (some .boolean) 7 159 0 0 := CX
    show ZW p l e R s m args below meth c w 2 _ _ 0 0 (MQ below (Qn w _ _ _) args s 0 0 (wA w)) 0 [(0, .ref (wB w + k)), (1, .int _)] []
    refine z_iload_n CX 1 dX6_runMinutes_0 rfl rfl ?_
    refine z_i2l CX dX6_runMinutes_1 rfl ?_
    refine z_lconst CX (v := 1) dX6_runMinutes_2 (by decide) ?_
    refine z_ldc2 CX (v := 60) dX6_runMinutes_3 (wa_mem 1089 (by decide +kernel) rfl) ?_
    refine z_callS1 CX dX6_runMinutes_6 cs_X6_42 (c_inI (1) (60) _ _ _ (by decide) (by decide)) rfl rfl (Nat.le_of_ble_eq_true rfl) ⟨Nat.le_of_ble_eq_true rfl, Nat.le_of_ble_eq_true rfl⟩ ⟨Nat.le_refl _, Nat.le_refl _⟩ ?_
    refine z_if_eq CX 27 dX6_runMinutes_9 (by decide) (fun q9 => absurd q9 (by rw [bI_1 h0]; decide)) (fun _ => ?_)
    refine z_aload_n CX 0 dX6_runMinutes_12 rfl rfl ?_
    refine z_get CX dX6_runMinutes_13 fg_X6_13 mo_0 rfl ?_
    refine z_iload_n CX 1 dX6_runMinutes_16 rfl rfl ?_
    refine z_callS1 CX dX6_runMinutes_17 cs_X6_178 (Cn.row mq_1 mr_1 (a := k + 2) (c_goMs hO.1 (by omega))) rfl rfl (Nat.le_of_ble_eq_true rfl) ⟨Nat.le_of_ble_eq_true rfl, Nat.le_of_ble_eq_true rfl⟩ ⟨Nat.le_refl _, Nat.le_refl _⟩ ?_
    refine z_if_lt CX 27 dX6_runMinutes_20 (by decide) (fun q9 => absurd q9 (nI_pos (by omega))) (fun _ => ?_)
    refine z_iconst CX (v := 1) dX6_runMinutes_23 (by decide) ?_
    refine z_goto CX 28 dX6_runMinutes_24 (by decide) ?_
    exact z_zret CX dX6_runMinutes_28 rfl (by first | rfl | exact bI_nar _) rfl rfl (Or.inl rfl)
  · rw [show pfM (A 1) a = (false, A 1) from if_neg h0]
    refine Cn.of (d := mX6_runMinutes) (by decide +kernel) (Nat.le_of_ble_eq_true rfl) ?_
    intro p e R s m args below meth c CX
    replace CX : Ctx p s m args meth c R w RX6 "runMinutes" cX6_runMinutes 2 (some .boolean) 7 159 0 0 := CX
    show ZW p l e R s m args below meth c w 2 _ _ 0 0 (MQ below (Qn w _ _ _) args s 0 0 (wA w)) 0 [(0, .ref (wB w + k)), (1, .int _)] []
    refine z_iload_n CX 1 dX6_runMinutes_0 rfl rfl ?_
    refine z_i2l CX dX6_runMinutes_1 rfl ?_
    refine z_lconst CX (v := 1) dX6_runMinutes_2 (by decide) ?_
    refine z_ldc2 CX (v := 60) dX6_runMinutes_3 (wa_mem 1089 (by decide +kernel) rfl) ?_
    refine z_callS1 CX dX6_runMinutes_6 cs_X6_42 (c_inI (1) (60) _ _ _ (by decide) (by decide)) rfl rfl (Nat.le_of_ble_eq_true rfl) ⟨Nat.le_of_ble_eq_true rfl, Nat.le_of_ble_eq_true rfl⟩ ⟨Nat.le_refl _, Nat.le_refl _⟩ ?_
    refine z_if_eq CX 27 dX6_runMinutes_9 (by decide) (fun _ => ?_) (fun q9 => absurd (bI_0 h0) q9)
    refine z_iconst CX (v := 0) dX6_runMinutes_27 (by decide) ?_
    exact z_zret CX dX6_runMinutes_28 rfl (by first | rfl | exact bI_nar _) rfl (by show _ = modH w hs k u (upA A 1 (A 1)); rw [upA_id]) (Or.inl rfl)
set_option maxHeartbeats 4000000 in
set_option maxRecDepth 100000 in
theorem r_hook {l : Launch} {w : Wt} {hs : Hs} {n : Option Nat} {k : Nat} {u : Nat → Int32} {A : Nat → Nat → Int32} (hO : OKr (A 1)) (a b x : Int32) : Cn l w mX6_runHook 0 0 [.ref (wB w + k), .int a, .int b, .int x] (modH w hs k u A) n (modH w hs k u (upA A 1 (pfH (A 1) a b x).2)) n (some (.int (bI (pfH (A 1) a b x).1))) := by
  have h9 := hO.2.2
  by_cases h0 : 0 ≤ a ∧ a ≤ 3
  · by_cases h1 : icl (A 1) (gN (A 1)) b x = true
    · obtain ⟨o, o0, o1, o2, o3⟩ := nI_le9 (a := 0) (b := 3) (by omega) (by omega) h0
      rw [show pfH (A 1) a b x = (true, hokF (A 1) o b x) by unfold pfH; rw [if_pos ⟨h0, h1⟩, o3]]
      have hle : clbF (hokF (A 1) o b x) (bN (A 1)) o ≤ bN (A 1) := cntN_le _ _
      subst o2
      refine Cn.of (d := mX6_runHook) (by decide +kernel) (Nat.le_of_ble_eq_true rfl) ?_
      intro p e R s m args below meth c CX
      replace CX : Ctx p s m args meth c R w RX6 "runHook" cX6_runHook 4 (some .boolean) 5 112 0 0 := CX
      show ZW p l e R s m args below meth c w 4 _ _ 0 0 (MQ below (Qn w _ _ _) args s 0 0 (wA w)) 0 [(0, .ref (wB w + k)), (1, .int _), (2, .int _), (3, .int _)] []
      refine z_iload_n CX 1 dX6_runHook_0 rfl rfl ?_
      refine z_callS1 CX dX6_runHook_1 cs_X6_232 (c_isO _) rfl rfl (Nat.le_of_ble_eq_true rfl) ⟨Nat.le_of_ble_eq_true rfl, Nat.le_of_ble_eq_true rfl⟩ ⟨Nat.le_refl _, Nat.le_refl _⟩ ?_
      refine z_if_eq CX 36 dX6_runHook_4 (by decide) (fun q9 => absurd q9 (by rw [bI_1 h0]; decide)) (fun _ => ?_)
      refine z_aload_n CX 0 dX6_runHook_7 rfl rfl ?_
      refine z_get CX dX6_runHook_8 fg_X6_13 mo_0 rfl ?_
      refine z_iload_n CX 2 dX6_runHook_11 rfl rfl ?_
      refine z_iload_n CX 3 dX6_runHook_12 rfl rfl ?_
      refine z_callS1 CX dX6_runHook_13 cs_X6_111 (Cn.row mq_1 mq_1 (a := k + 2) (c_isC hO.1.1 _ _)) rfl rfl (Nat.le_of_ble_eq_true rfl) ⟨Nat.le_of_ble_eq_true rfl, Nat.le_of_ble_eq_true rfl⟩ ⟨Nat.le_refl _, Nat.le_refl _⟩ ?_
      refine z_if_eq CX 36 dX6_runHook_16 (by decide) (fun q9 => absurd q9 (by rw [h1]; decide)) (fun _ => ?_)
      refine z_aload_n CX 0 dX6_runHook_19 rfl rfl ?_
      refine z_get CX dX6_runHook_20 fg_X6_13 mo_0 rfl ?_
      refine z_iload_n CX 1 dX6_runHook_23 rfl rfl ?_
      refine z_iload_n CX 2 dX6_runHook_24 rfl rfl ?_
      refine z_iload_n CX 3 dX6_runHook_25 rfl rfl ?_
      refine z_callS1 CX dX6_runHook_26 cs_X6_172 (Cn.row mq_1 mr_1 (a := k + 2) (c_goHk hO.1.2.1 (by omega) (by omega) b x)) rfl rfl (Nat.le_of_ble_eq_true rfl) ⟨Nat.le_of_ble_eq_true rfl, Nat.le_of_ble_eq_true rfl⟩ ⟨Nat.le_refl _, Nat.le_refl _⟩ ?_
      refine z_if_lt CX 36 dX6_runHook_29 (by decide) (fun q9 => absurd q9 (nI_pos (by omega))) (fun _ => ?_)
      refine z_iconst CX (v := 1) dX6_runHook_32 (by decide) ?_
      refine z_goto CX 37 dX6_runHook_33 (by decide) ?_
      exact z_zret CX dX6_runHook_37 rfl (by first | rfl | exact bI_nar _) rfl rfl (Or.inl rfl)
    · rw [show pfH (A 1) a b x = (false, A 1) from if_neg (fun z => h1 z.2)]
      refine Cn.of (d := mX6_runHook) (by decide +kernel) (Nat.le_of_ble_eq_true rfl) ?_
      intro p e R s m args below meth c CX
      replace CX : Ctx p s m args meth c R w RX6 "runHook" cX6_runHook 4 (some .boolean) 5 112 0 0 := CX
      show ZW p l e R s m args below meth c w 4 _ _ 0 0 (MQ below (Qn w _ _ _) args s 0 0 (wA w)) 0 [(0, .ref (wB w + k)), (1, .int _), (2, .int _), (3, .int _)] []
      refine z_iload_n CX 1 dX6_runHook_0 rfl rfl ?_
      refine z_callS1 CX dX6_runHook_1 cs_X6_232 (c_isO _) rfl rfl (Nat.le_of_ble_eq_true rfl) ⟨Nat.le_of_ble_eq_true rfl, Nat.le_of_ble_eq_true rfl⟩ ⟨Nat.le_refl _, Nat.le_refl _⟩ ?_
      refine z_if_eq CX 36 dX6_runHook_4 (by decide) (fun q9 => absurd q9 (by rw [bI_1 h0]; decide)) (fun _ => ?_)
      refine z_aload_n CX 0 dX6_runHook_7 rfl rfl ?_
      refine z_get CX dX6_runHook_8 fg_X6_13 mo_0 rfl ?_
      refine z_iload_n CX 2 dX6_runHook_11 rfl rfl ?_
      refine z_iload_n CX 3 dX6_runHook_12 rfl rfl ?_
      refine z_callS1 CX dX6_runHook_13 cs_X6_111 (Cn.row mq_1 mq_1 (a := k + 2) (c_isC hO.1.1 _ _)) rfl rfl (Nat.le_of_ble_eq_true rfl) ⟨Nat.le_of_ble_eq_true rfl, Nat.le_of_ble_eq_true rfl⟩ ⟨Nat.le_refl _, Nat.le_refl _⟩ ?_
      refine z_if_eq CX 36 dX6_runHook_16 (by decide) (fun _ => ?_) (fun q9 => absurd (by rw [Bool.eq_false_iff.mpr h1]; rfl) q9)
      refine z_iconst CX (v := 0) dX6_runHook_36 (by decide) ?_
      exact z_zret CX dX6_runHook_37 rfl (by first | rfl | exact bI_nar _) rfl (by show _ = modH w hs k u (upA A 1 (A 1)); rw [upA_id]) (Or.inl rfl)
  · rw [show pfH (A 1) a b x = (false, A 1) from if_neg (fun z => h0 z.1)]
    refine Cn.of (d := mX6_runHook) (by decide +kernel) (Nat.le_of_ble_eq_true rfl) ?_
    intro p e R s m args below meth c CX
    replace CX : Ctx p s m args meth c R w RX6 "runHook" cX6_runHook 4 (some .boolean) 5 112 0 0 := CX
    show ZW p l e R s m args below meth c w 4 _ _ 0 0 (MQ below (Qn w _ _ _) args s 0 0 (wA w)) 0 [(0, .ref (wB w + k)), (1, .int _), (2, .int _), (3, .int _)] []
    refine z_iload_n CX 1 dX6_runHook_0 rfl rfl ?_
    refine z_callS1 CX dX6_runHook_1 cs_X6_232 (c_isO _) rfl rfl (Nat.le_of_ble_eq_true rfl) ⟨Nat.le_of_ble_eq_true rfl, Nat.le_of_ble_eq_true rfl⟩ ⟨Nat.le_refl _, Nat.le_refl _⟩ ?_
    refine z_if_eq CX 36 dX6_runHook_4 (by decide) (fun _ => ?_) (fun q9 => absurd (bI_0 h0) q9)
    refine z_iconst CX (v := 0) dX6_runHook_36 (by decide) ?_
    exact z_zret CX dX6_runHook_37 rfl (by first | rfl | exact bI_nar _) rfl (by show _ = modH w hs k u (upA A 1 (A 1)); rw [upA_id]) (Or.inl rfl)
set_option maxHeartbeats 4000000 in
set_option maxRecDepth 100000 in
theorem r_claim {l : Launch} {w : Wt} {hs : Hs} {n : Option Nat} {k : Nat} {u : Nat → Int32} {A : Nat → Nat → Int32} (hO : OKr (A 1)) (a b : Int32) : Cn l w mX6_runClaim 0 0 [.ref (wB w + k), .int a, .int b] (modH w hs k u A) n (modH w hs k u (upA A 1 (pfT (A 1) a b).2)) n (some (.int (bI (pfT (A 1) a b).1))) := by
  have h9 := hO.2.2
  by_cases h0 : 0 ≤ a ∧ a ≤ 3
  · by_cases h1 : 0 ≤ b ∧ b < nI (bN (A 1))
    · obtain ⟨o, o0, o1, o2, o3⟩ := nI_le9 (a := 0) (b := 3) (by omega) (by omega) h0
      obtain ⟨i, i1, i2, i3⟩ := nI_box (by omega) h1
      rw [show pfT (A 1) a b = (decide (whyF (A 1) o i = 0), clmF (A 1) o i) by unfold pfT; rw [if_pos ⟨h0, h1⟩, o3, i3]]
      subst o2
      subst i2
      by_cases hw : whyF (A 1) o i = 0
      · rw [decide_eq_true hw]
        refine Cn.of (d := mX6_runClaim) (by decide +kernel) (Nat.le_of_ble_eq_true rfl) ?_
        intro p e R s m args below meth c CX
        replace CX : Ctx p s m args meth c R w RX6 "runClaim" cX6_runClaim 3 (some .boolean) 4 89 0 0 := CX
        show ZW p l e R s m args below meth c w 3 _ _ 0 0 (MQ below (Qn w _ _ _) args s 0 0 (wA w)) 0 [(0, .ref (wB w + k)), (1, .int _), (2, .int _)] []
        refine z_iload_n CX 1 dX6_runClaim_0 rfl rfl ?_
        refine z_callS1 CX dX6_runClaim_1 cs_X6_232 (c_isO _) rfl rfl (Nat.le_of_ble_eq_true rfl) ⟨Nat.le_of_ble_eq_true rfl, Nat.le_of_ble_eq_true rfl⟩ ⟨Nat.le_refl _, Nat.le_refl _⟩ ?_
        refine z_if_eq CX 34 dX6_runClaim_4 (by decide) (fun q9 => absurd q9 (by rw [bI_1 h0]; decide)) (fun _ => ?_)
        refine z_aload_n CX 0 dX6_runClaim_7 rfl rfl ?_
        refine z_get CX dX6_runClaim_8 fg_X6_13 mo_0 rfl ?_
        refine z_iload_n CX 2 dX6_runClaim_11 rfl rfl ?_
        refine z_callS1 CX dX6_runClaim_12 cs_X6_166 (Cn.row mq_1 mq_1 (a := k + 2) (c_isB hO.1.2.1 (by have := hO.2.2; omega) _)) rfl rfl (Nat.le_of_ble_eq_true rfl) ⟨Nat.le_of_ble_eq_true rfl, Nat.le_of_ble_eq_true rfl⟩ ⟨Nat.le_refl _, Nat.le_refl _⟩ ?_
        refine z_if_eq CX 34 dX6_runClaim_15 (by decide) (fun q9 => absurd q9 (by rw [bI_1 h1]; decide)) (fun _ => ?_)
        refine z_aload_n CX 0 dX6_runClaim_18 rfl rfl ?_
        refine z_get CX dX6_runClaim_19 fg_X6_13 mo_0 rfl ?_
        refine z_iload_n CX 1 dX6_runClaim_22 rfl rfl ?_
        refine z_iload_n CX 2 dX6_runClaim_23 rfl rfl ?_
        refine z_callS1 CX dX6_runClaim_24 cs_X6_175 (Cn.row mq_1 mr_1 (a := k + 2) (c_goCl (o := o) (b := i) (by omega) (by omega))) rfl rfl (Nat.le_of_ble_eq_true rfl) ⟨Nat.le_of_ble_eq_true rfl, Nat.le_of_ble_eq_true rfl⟩ ⟨Nat.le_refl _, Nat.le_refl _⟩ ?_
        refine z_if_ne CX 34 dX6_runClaim_27 (by decide) (fun q9 => absurd q9 (fun z => z hw)) (fun _ => ?_)
        refine z_iconst CX (v := 1) dX6_runClaim_30 (by decide) ?_
        refine z_goto CX 35 dX6_runClaim_31 (by decide) ?_
        exact z_zret CX dX6_runClaim_35 rfl (by first | rfl | exact bI_nar _) rfl rfl (Or.inl rfl)
      · rw [decide_eq_false hw]
        refine Cn.of (d := mX6_runClaim) (by decide +kernel) (Nat.le_of_ble_eq_true rfl) ?_
        intro p e R s m args below meth c CX
        replace CX : Ctx p s m args meth c R w RX6 "runClaim" cX6_runClaim 3 (some .boolean) 4 89 0 0 := CX
        show ZW p l e R s m args below meth c w 3 _ _ 0 0 (MQ below (Qn w _ _ _) args s 0 0 (wA w)) 0 [(0, .ref (wB w + k)), (1, .int _), (2, .int _)] []
        refine z_iload_n CX 1 dX6_runClaim_0 rfl rfl ?_
        refine z_callS1 CX dX6_runClaim_1 cs_X6_232 (c_isO _) rfl rfl (Nat.le_of_ble_eq_true rfl) ⟨Nat.le_of_ble_eq_true rfl, Nat.le_of_ble_eq_true rfl⟩ ⟨Nat.le_refl _, Nat.le_refl _⟩ ?_
        refine z_if_eq CX 34 dX6_runClaim_4 (by decide) (fun q9 => absurd q9 (by rw [bI_1 h0]; decide)) (fun _ => ?_)
        refine z_aload_n CX 0 dX6_runClaim_7 rfl rfl ?_
        refine z_get CX dX6_runClaim_8 fg_X6_13 mo_0 rfl ?_
        refine z_iload_n CX 2 dX6_runClaim_11 rfl rfl ?_
        refine z_callS1 CX dX6_runClaim_12 cs_X6_166 (Cn.row mq_1 mq_1 (a := k + 2) (c_isB hO.1.2.1 (by have := hO.2.2; omega) _)) rfl rfl (Nat.le_of_ble_eq_true rfl) ⟨Nat.le_of_ble_eq_true rfl, Nat.le_of_ble_eq_true rfl⟩ ⟨Nat.le_refl _, Nat.le_refl _⟩ ?_
        refine z_if_eq CX 34 dX6_runClaim_15 (by decide) (fun q9 => absurd q9 (by rw [bI_1 h1]; decide)) (fun _ => ?_)
        refine z_aload_n CX 0 dX6_runClaim_18 rfl rfl ?_
        refine z_get CX dX6_runClaim_19 fg_X6_13 mo_0 rfl ?_
        refine z_iload_n CX 1 dX6_runClaim_22 rfl rfl ?_
        refine z_iload_n CX 2 dX6_runClaim_23 rfl rfl ?_
        refine z_callS1 CX dX6_runClaim_24 cs_X6_175 (Cn.row mq_1 mr_1 (a := k + 2) (c_goCl (o := o) (b := i) (by omega) (by omega))) rfl rfl (Nat.le_of_ble_eq_true rfl) ⟨Nat.le_of_ble_eq_true rfl, Nat.le_of_ble_eq_true rfl⟩ ⟨Nat.le_refl _, Nat.le_refl _⟩ ?_
        refine z_if_ne CX 34 dX6_runClaim_27 (by decide) (fun _ => ?_) (fun q9 => absurd q9 hw)
        refine z_iconst CX (v := 0) dX6_runClaim_34 (by decide) ?_
        exact z_zret CX dX6_runClaim_35 rfl (by first | rfl | exact bI_nar _) rfl rfl (Or.inl rfl)
    · rw [show pfT (A 1) a b = (false, A 1) from if_neg (fun z => h1 z.2)]
      refine Cn.of (d := mX6_runClaim) (by decide +kernel) (Nat.le_of_ble_eq_true rfl) ?_
      intro p e R s m args below meth c CX
      replace CX : Ctx p s m args meth c R w RX6 "runClaim" cX6_runClaim 3 (some .boolean) 4 89 0 0 := CX
      show ZW p l e R s m args below meth c w 3 _ _ 0 0 (MQ below (Qn w _ _ _) args s 0 0 (wA w)) 0 [(0, .ref (wB w + k)), (1, .int _), (2, .int _)] []
      refine z_iload_n CX 1 dX6_runClaim_0 rfl rfl ?_
      refine z_callS1 CX dX6_runClaim_1 cs_X6_232 (c_isO _) rfl rfl (Nat.le_of_ble_eq_true rfl) ⟨Nat.le_of_ble_eq_true rfl, Nat.le_of_ble_eq_true rfl⟩ ⟨Nat.le_refl _, Nat.le_refl _⟩ ?_
      refine z_if_eq CX 34 dX6_runClaim_4 (by decide) (fun q9 => absurd q9 (by rw [bI_1 h0]; decide)) (fun _ => ?_)
      refine z_aload_n CX 0 dX6_runClaim_7 rfl rfl ?_
      refine z_get CX dX6_runClaim_8 fg_X6_13 mo_0 rfl ?_
      refine z_iload_n CX 2 dX6_runClaim_11 rfl rfl ?_
      refine z_callS1 CX dX6_runClaim_12 cs_X6_166 (Cn.row mq_1 mq_1 (a := k + 2) (c_isB hO.1.2.1 (by have := hO.2.2; omega) _)) rfl rfl (Nat.le_of_ble_eq_true rfl) ⟨Nat.le_of_ble_eq_true rfl, Nat.le_of_ble_eq_true rfl⟩ ⟨Nat.le_refl _, Nat.le_refl _⟩ ?_
      refine z_if_eq CX 34 dX6_runClaim_15 (by decide) (fun _ => ?_) (fun q9 => absurd (bI_0 h1) q9)
      refine z_iconst CX (v := 0) dX6_runClaim_34 (by decide) ?_
      exact z_zret CX dX6_runClaim_35 rfl (by first | rfl | exact bI_nar _) rfl (by show _ = modH w hs k u (upA A 1 (A 1)); rw [upA_id]) (Or.inl rfl)
  · rw [show pfT (A 1) a b = (false, A 1) from if_neg (fun z => h0 z.1)]
    refine Cn.of (d := mX6_runClaim) (by decide +kernel) (Nat.le_of_ble_eq_true rfl) ?_
    intro p e R s m args below meth c CX
    replace CX : Ctx p s m args meth c R w RX6 "runClaim" cX6_runClaim 3 (some .boolean) 4 89 0 0 := CX
    show ZW p l e R s m args below meth c w 3 _ _ 0 0 (MQ below (Qn w _ _ _) args s 0 0 (wA w)) 0 [(0, .ref (wB w + k)), (1, .int _), (2, .int _)] []
    refine z_iload_n CX 1 dX6_runClaim_0 rfl rfl ?_
    refine z_callS1 CX dX6_runClaim_1 cs_X6_232 (c_isO _) rfl rfl (Nat.le_of_ble_eq_true rfl) ⟨Nat.le_of_ble_eq_true rfl, Nat.le_of_ble_eq_true rfl⟩ ⟨Nat.le_refl _, Nat.le_refl _⟩ ?_
    refine z_if_eq CX 34 dX6_runClaim_4 (by decide) (fun _ => ?_) (fun q9 => absurd (bI_0 h0) q9)
    refine z_iconst CX (v := 0) dX6_runClaim_34 (by decide) ?_
    exact z_zret CX dX6_runClaim_35 rfl (by first | rfl | exact bI_nar _) rfl (by show _ = modH w hs k u (upA A 1 (A 1)); rw [upA_id]) (Or.inl rfl)
theorem RI.set0 {f : Nat → Int32} {ng nb i : Nat} (h : RI f ng nb) (hi : i < 3) : ∃ m, m ≤ 9 ∧ f (154 + i) = nI m := by
  obtain ⟨r, m, d, b1, b2, b3, b4, b5, b6, b7⟩ := h.2.2.2.2.1
  match i, hi with
  | 0, _ => exact ⟨r, by omega, b5⟩
  | 1, _ => exact ⟨m, by omega, b6⟩
  | 2, _ => exact ⟨d, by omega, b7⟩
set_option maxHeartbeats 4000000 in
set_option maxRecDepth 100000 in
theorem r_set {l : Launch} {w : Wt} {hs : Hs} {n : Option Nat} {k : Nat} {u : Nat → Int32} {A : Nat → Nat → Int32} (hO : OKr (A 1)) (a b : Int32) : Cn l w mX6_runSet 0 0 [.ref (wB w + k), .int a, .int b] (modH w hs k u A) n (modH w hs k u (upA A 1 (pfS (A 1) a b).2)) n (some (.int (bI (pfS (A 1) a b).1))) := by
  by_cases h0 : isSetP a b
  · obtain ⟨i, i1, i2, i3⟩ := isSetP_k h0
    rw [show pfS (A 1) a b = (true, upd (A 1) (154 + i) b) by unfold pfS; rw [if_pos h0, i3]]
    obtain ⟨m9, m1, m2⟩ := hO.1.set0 i1
    subst i2
    refine Cn.of (d := mX6_runSet) (by decide +kernel) (Nat.le_of_ble_eq_true rfl) ?_
    intro p e R s m args below meth c CX
    replace CX : Ctx p s m args meth c R w RX6 "runSet" cX6_runSet 3 (some .boolean) 2 46 0 0 := CX
    show ZW p l e R s m args below meth c w 3 _ _ 0 0 (MQ below (Qn w _ _ _) args s 0 0 (wA w)) 0 [(0, .ref (wB w + k)), (1, .int _), (2, .int _)] []
    refine z_iload_n CX 1 dX6_runSet_0 rfl rfl ?_
    refine z_iload_n CX 2 dX6_runSet_1 rfl rfl ?_
    refine z_callS1 CX dX6_runSet_2 cs_X6_181 (c_isSet _ _) rfl rfl (Nat.le_of_ble_eq_true rfl) ⟨Nat.le_of_ble_eq_true rfl, Nat.le_of_ble_eq_true rfl⟩ ⟨Nat.le_refl _, Nat.le_refl _⟩ ?_
    refine z_if_eq CX 28 dX6_runSet_5 (by decide) (fun q9 => absurd q9 (by rw [bI_1 h0]; decide)) (fun _ => ?_)
    refine z_aload_n CX 0 dX6_runSet_8 rfl rfl ?_
    refine z_get CX dX6_runSet_9 fg_X6_13 mo_0 rfl ?_
    refine z_sipush CX (v := 154) dX6_runSet_12 (by decide) ?_
    refine z_iload_n CX 1 dX6_runSet_15 rfl rfl ?_
    refine z_iadd CX dX6_runSet_16 ?_
    rw [show (154 : Int32) + nI i = nI (154 + i) from nI_add 154 i]
    refine z_iload_n CX 2 dX6_runSet_17 rfl rfl ?_
    refine z_callS1 CX dX6_runSet_18 cs_X6_185 (Cn.row mq_1 mr_1 (a := k + 2) (c_putM (k := 154 + i) (by omega) b)) rfl rfl (Nat.le_of_ble_eq_true rfl) ⟨Nat.le_of_ble_eq_true rfl, Nat.le_of_ble_eq_true rfl⟩ ⟨Nat.le_refl _, Nat.le_refl _⟩ ?_
    refine z_if_lt CX 28 dX6_runSet_21 (by decide) (fun q9 => absurd q9 (by rw [m2]; exact nI_pos (by omega))) (fun _ => ?_)
    refine z_iconst CX (v := 1) dX6_runSet_24 (by decide) ?_
    refine z_goto CX 29 dX6_runSet_25 (by decide) ?_
    exact z_zret CX dX6_runSet_29 rfl (by first | rfl | exact bI_nar _) rfl rfl (Or.inl rfl)
  · rw [show pfS (A 1) a b = (false, A 1) from if_neg h0]
    refine Cn.of (d := mX6_runSet) (by decide +kernel) (Nat.le_of_ble_eq_true rfl) ?_
    intro p e R s m args below meth c CX
    replace CX : Ctx p s m args meth c R w RX6 "runSet" cX6_runSet 3 (some .boolean) 2 46 0 0 := CX
    show ZW p l e R s m args below meth c w 3 _ _ 0 0 (MQ below (Qn w _ _ _) args s 0 0 (wA w)) 0 [(0, .ref (wB w + k)), (1, .int _), (2, .int _)] []
    refine z_iload_n CX 1 dX6_runSet_0 rfl rfl ?_
    refine z_iload_n CX 2 dX6_runSet_1 rfl rfl ?_
    refine z_callS1 CX dX6_runSet_2 cs_X6_181 (c_isSet _ _) rfl rfl (Nat.le_of_ble_eq_true rfl) ⟨Nat.le_of_ble_eq_true rfl, Nat.le_of_ble_eq_true rfl⟩ ⟨Nat.le_refl _, Nat.le_refl _⟩ ?_
    refine z_if_eq CX 28 dX6_runSet_5 (by decide) (fun _ => ?_) (fun q9 => absurd (bI_0 h0) q9)
    refine z_iconst CX (v := 0) dX6_runSet_28 (by decide) ?_
    exact z_zret CX dX6_runSet_29 rfl (by first | rfl | exact bI_nar _) rfl (by show _ = modH w hs k u (upA A 1 (A 1)); rw [upA_id]) (Or.inl rfl)
set_option maxHeartbeats 4000000 in
set_option maxRecDepth 100000 in
theorem r_boat {l : Launch} {w : Wt} {hs : Hs} {n : Option Nat} {k : Nat} {u : Nat → Int32} {A : Nat → Nat → Int32} (hO : OKr (A 1)) (a b x : Int32) : Cn l w mX6_runBoat 0 0 [.ref (wB w + k), .int a, .int b, .int x] (modH w hs k u A) n (modH w hs k u (upA A 1 (pfB (A 1) a b x).2)) n (some (.int (bI (pfB (A 1) a b x).1))) := by
  have h9 := hO.2.2
  by_cases h0 : 0 ≤ x ∧ x ≤ 3
  · by_cases h1 : (1 ≤ a ∧ a ≤ 9) ∧ (0 ≤ b ∧ b ≤ 3)
    · by_cases h2 : bN (A 1) < 10
      · rw [show pfB (A 1) a b x = (true, adbF (A 1) (bN (A 1)) a b x) from if_pos ⟨h0, h1, h2⟩]
        refine Cn.of (d := mX6_runBoat) (by decide +kernel) (Nat.le_of_ble_eq_true rfl) ?_
        intro p e R s m args below meth c CX
        replace CX : Ctx p s m args meth c R w RX6 "runBoat" cX6_runBoat 5 (some .boolean) 2 46 0 0 := CX
        show ZW p l e R s m args below meth c w 5 _ _ 0 0 (MQ below (Qn w _ _ _) args s 0 0 (wA w)) 0 [(0, .ref (wB w + k)), (1, .int _), (2, .int _), (3, .int _)] []
        refine z_iload_n CX 3 dX6_runBoat_0 rfl rfl ?_
        refine z_callS1 CX dX6_runBoat_1 cs_X6_232 (c_isO _) rfl rfl (Nat.le_of_ble_eq_true rfl) ⟨Nat.le_of_ble_eq_true rfl, Nat.le_of_ble_eq_true rfl⟩ ⟨Nat.le_refl _, Nat.le_refl _⟩ ?_
        refine z_if_eq CX 32 dX6_runBoat_4 (by decide) (fun q9 => absurd q9 (by rw [bI_1 h0]; decide)) (fun _ => ?_)
        refine z_iload_n CX 1 dX6_runBoat_7 rfl rfl ?_
        refine z_iload_n CX 2 dX6_runBoat_8 rfl rfl ?_
        refine z_callS1 CX dX6_runBoat_9 cs_X6_246 (c_isFolded _ _) rfl rfl (Nat.le_of_ble_eq_true rfl) ⟨Nat.le_of_ble_eq_true rfl, Nat.le_of_ble_eq_true rfl⟩ ⟨Nat.le_refl _, Nat.le_refl _⟩ ?_
        refine z_if_eq CX 32 dX6_runBoat_12 (by decide) (fun q9 => absurd q9 (by rw [bI_1 h1]; decide)) (fun _ => ?_)
        refine z_aload_n CX 0 dX6_runBoat_15 rfl rfl ?_
        refine z_get CX dX6_runBoat_16 fg_X6_13 mo_0 rfl ?_
        refine z_sipush CX (v := 147) dX6_runBoat_19 (by decide) ?_
        refine z_ia CX (j := 147) dX6_runBoat_22 mo_2 rfl (by omega) (by decide) ?_
        refine z_bipush CX (v := 10) dX6_runBoat_23 (by decide) ?_
        rw [show A 1 147 = nI (bN (A 1)) from hO.1.2.1]
        refine z_icmp_ge CX 32 dX6_runBoat_25 (by decide) (fun q9 => absurd q9 (nI_ge (b := 10) h2 (by omega))) (fun _ => ?_)
        refine z_iconst CX (v := 1) dX6_runBoat_28 (by decide) ?_
        refine z_goto CX 33 dX6_runBoat_29 (by decide) ?_
        refine z_istore CX dX6_runBoat_33 (by decide) ?_
        refine z_iload CX dX6_runBoat_35 rfl ?_
        refine z_if_eq CX 57 dX6_runBoat_37 (by decide) (fun q9 => absurd q9 (by decide)) (fun _ => ?_)
        refine z_aload_n CX 0 dX6_runBoat_40 rfl rfl ?_
        refine z_get CX dX6_runBoat_41 fg_X6_13 mo_0 rfl ?_
        refine z_iload_n CX 1 dX6_runBoat_44 rfl rfl ?_
        refine z_iload_n CX 2 dX6_runBoat_45 rfl rfl ?_
        refine z_iload_n CX 3 dX6_runBoat_46 rfl rfl ?_
        refine z_callS1 CX dX6_runBoat_47 cs_X6_162 (Cn.row mq_1 mr_1 (a := k + 2) (c_addB hO.1.2.1 (by omega) a b x)) rfl rfl (Nat.le_of_ble_eq_true rfl) ⟨Nat.le_of_ble_eq_true rfl, Nat.le_of_ble_eq_true rfl⟩ ⟨Nat.le_refl _, Nat.le_refl _⟩ ?_
        refine z_if_lt CX 57 dX6_runBoat_50 (by decide) (fun q9 => absurd q9 (nI_pos (by omega))) (fun _ => ?_)
        refine z_iconst CX (v := 1) dX6_runBoat_53 (by decide) ?_
        refine z_goto CX 58 dX6_runBoat_54 (by decide) ?_
        exact z_zret CX dX6_runBoat_58 rfl (by first | rfl | exact bI_nar _) rfl rfl (Or.inl rfl)
      · rw [show pfB (A 1) a b x = (false, A 1) from if_neg (fun z => h2 z.2.2)]
        refine Cn.of (d := mX6_runBoat) (by decide +kernel) (Nat.le_of_ble_eq_true rfl) ?_
        intro p e R s m args below meth c CX
        replace CX : Ctx p s m args meth c R w RX6 "runBoat" cX6_runBoat 5 (some .boolean) 2 46 0 0 := CX
        show ZW p l e R s m args below meth c w 5 _ _ 0 0 (MQ below (Qn w _ _ _) args s 0 0 (wA w)) 0 [(0, .ref (wB w + k)), (1, .int _), (2, .int _), (3, .int _)] []
        refine z_iload_n CX 3 dX6_runBoat_0 rfl rfl ?_
        refine z_callS1 CX dX6_runBoat_1 cs_X6_232 (c_isO _) rfl rfl (Nat.le_of_ble_eq_true rfl) ⟨Nat.le_of_ble_eq_true rfl, Nat.le_of_ble_eq_true rfl⟩ ⟨Nat.le_refl _, Nat.le_refl _⟩ ?_
        refine z_if_eq CX 32 dX6_runBoat_4 (by decide) (fun q9 => absurd q9 (by rw [bI_1 h0]; decide)) (fun _ => ?_)
        refine z_iload_n CX 1 dX6_runBoat_7 rfl rfl ?_
        refine z_iload_n CX 2 dX6_runBoat_8 rfl rfl ?_
        refine z_callS1 CX dX6_runBoat_9 cs_X6_246 (c_isFolded _ _) rfl rfl (Nat.le_of_ble_eq_true rfl) ⟨Nat.le_of_ble_eq_true rfl, Nat.le_of_ble_eq_true rfl⟩ ⟨Nat.le_refl _, Nat.le_refl _⟩ ?_
        refine z_if_eq CX 32 dX6_runBoat_12 (by decide) (fun q9 => absurd q9 (by rw [bI_1 h1]; decide)) (fun _ => ?_)
        refine z_aload_n CX 0 dX6_runBoat_15 rfl rfl ?_
        refine z_get CX dX6_runBoat_16 fg_X6_13 mo_0 rfl ?_
        refine z_sipush CX (v := 147) dX6_runBoat_19 (by decide) ?_
        refine z_ia CX (j := 147) dX6_runBoat_22 mo_2 rfl (by omega) (by decide) ?_
        refine z_bipush CX (v := 10) dX6_runBoat_23 (by decide) ?_
        rw [show A 1 147 = nI (bN (A 1)) from hO.1.2.1]
        refine z_icmp_ge CX 32 dX6_runBoat_25 (by decide) (fun _ => ?_) (fun q9 => absurd (nI_le (a := 10) (by omega) (by omega)) q9)
        refine z_iconst CX (v := 0) dX6_runBoat_32 (by decide) ?_
        refine z_istore CX dX6_runBoat_33 (by decide) ?_
        refine z_iload CX dX6_runBoat_35 rfl ?_
        refine z_if_eq CX 57 dX6_runBoat_37 (by decide) (fun _ => ?_) (fun q9 => absurd rfl q9)
        refine z_iconst CX (v := 0) dX6_runBoat_57 (by decide) ?_
        exact z_zret CX dX6_runBoat_58 rfl (by first | rfl | exact bI_nar _) rfl (by show _ = modH w hs k u (upA A 1 (A 1)); rw [upA_id]) (Or.inl rfl)
    · rw [show pfB (A 1) a b x = (false, A 1) from if_neg (fun z => h1 z.2.1)]
      refine Cn.of (d := mX6_runBoat) (by decide +kernel) (Nat.le_of_ble_eq_true rfl) ?_
      intro p e R s m args below meth c CX
      replace CX : Ctx p s m args meth c R w RX6 "runBoat" cX6_runBoat 5 (some .boolean) 2 46 0 0 := CX
      show ZW p l e R s m args below meth c w 5 _ _ 0 0 (MQ below (Qn w _ _ _) args s 0 0 (wA w)) 0 [(0, .ref (wB w + k)), (1, .int _), (2, .int _), (3, .int _)] []
      refine z_iload_n CX 3 dX6_runBoat_0 rfl rfl ?_
      refine z_callS1 CX dX6_runBoat_1 cs_X6_232 (c_isO _) rfl rfl (Nat.le_of_ble_eq_true rfl) ⟨Nat.le_of_ble_eq_true rfl, Nat.le_of_ble_eq_true rfl⟩ ⟨Nat.le_refl _, Nat.le_refl _⟩ ?_
      refine z_if_eq CX 32 dX6_runBoat_4 (by decide) (fun q9 => absurd q9 (by rw [bI_1 h0]; decide)) (fun _ => ?_)
      refine z_iload_n CX 1 dX6_runBoat_7 rfl rfl ?_
      refine z_iload_n CX 2 dX6_runBoat_8 rfl rfl ?_
      refine z_callS1 CX dX6_runBoat_9 cs_X6_246 (c_isFolded _ _) rfl rfl (Nat.le_of_ble_eq_true rfl) ⟨Nat.le_of_ble_eq_true rfl, Nat.le_of_ble_eq_true rfl⟩ ⟨Nat.le_refl _, Nat.le_refl _⟩ ?_
      refine z_if_eq CX 32 dX6_runBoat_12 (by decide) (fun _ => ?_) (fun q9 => absurd (bI_0 h1) q9)
      refine z_iconst CX (v := 0) dX6_runBoat_32 (by decide) ?_
      refine z_istore CX dX6_runBoat_33 (by decide) ?_
      refine z_iload CX dX6_runBoat_35 rfl ?_
      refine z_if_eq CX 57 dX6_runBoat_37 (by decide) (fun _ => ?_) (fun q9 => absurd rfl q9)
      refine z_iconst CX (v := 0) dX6_runBoat_57 (by decide) ?_
      exact z_zret CX dX6_runBoat_58 rfl (by first | rfl | exact bI_nar _) rfl (by show _ = modH w hs k u (upA A 1 (A 1)); rw [upA_id]) (Or.inl rfl)
  · rw [show pfB (A 1) a b x = (false, A 1) from if_neg (fun z => h0 z.1)]
    refine Cn.of (d := mX6_runBoat) (by decide +kernel) (Nat.le_of_ble_eq_true rfl) ?_
    intro p e R s m args below meth c CX
    replace CX : Ctx p s m args meth c R w RX6 "runBoat" cX6_runBoat 5 (some .boolean) 2 46 0 0 := CX
    show ZW p l e R s m args below meth c w 5 _ _ 0 0 (MQ below (Qn w _ _ _) args s 0 0 (wA w)) 0 [(0, .ref (wB w + k)), (1, .int _), (2, .int _), (3, .int _)] []
    refine z_iload_n CX 3 dX6_runBoat_0 rfl rfl ?_
    refine z_callS1 CX dX6_runBoat_1 cs_X6_232 (c_isO _) rfl rfl (Nat.le_of_ble_eq_true rfl) ⟨Nat.le_of_ble_eq_true rfl, Nat.le_of_ble_eq_true rfl⟩ ⟨Nat.le_refl _, Nat.le_refl _⟩ ?_
    refine z_if_eq CX 32 dX6_runBoat_4 (by decide) (fun _ => ?_) (fun q9 => absurd (bI_0 h0) q9)
    refine z_iconst CX (v := 0) dX6_runBoat_32 (by decide) ?_
    refine z_istore CX dX6_runBoat_33 (by decide) ?_
    refine z_iload CX dX6_runBoat_35 rfl ?_
    refine z_if_eq CX 57 dX6_runBoat_37 (by decide) (fun _ => ?_) (fun q9 => absurd rfl q9)
    refine z_iconst CX (v := 0) dX6_runBoat_57 (by decide) ?_
    exact z_zret CX dX6_runBoat_58 rfl (by first | rfl | exact bI_nar _) rfl (by show _ = modH w hs k u (upA A 1 (A 1)); rw [upA_id]) (Or.inl rfl)
set_option maxHeartbeats 4000000 in
set_option maxRecDepth 100000 in
theorem r_gutter {l : Launch} {w : Wt} {hs : Hs} {n : Option Nat} {k : Nat} {u : Nat → Int32} {A : Nat → Nat → Int32} (hO : OKr (A 1)) (a b x y : Int32) : Cn l w mX6_runGutter 0 0 [.ref (wB w + k), .int a, .int b, .int x, .int y] (modH w hs k u A) n (modH w hs k u (upA A 1 (pfG (A 1) a b x y).2)) n (some (.int (bI (pfG (A 1) a b x y).1))) := by
  have h6 := hO.1.1.2.1
  by_cases h0 : (4 ≤ a ∧ a ≤ 40) ∧ (0 ≤ b ∧ b ≤ 5)
  · by_cases h1 : gN (A 1) < 6
    · by_cases h2 : gN (A 1) = 0 ∨ icl (A 1) (gN (A 1)) x y = true
      · rw [show pfG (A 1) a b x y = (true, adgF (A 1) (gN (A 1)) a b x y) from if_pos ⟨h0, h1, h2⟩]
        have hf : (decide (gN (A 1) = 0) || icl (A 1) (gN (A 1)) x y) = true := Bool.or_eq_true_iff.mpr (h2.imp decide_eq_true id)
        refine Cn.of (d := mX6_runGutter) (by decide +kernel) (Nat.le_of_ble_eq_true rfl) ?_
        intro p e R s m args below meth c CX
        replace CX : Ctx p s m args meth c R w RX6 "runGutter" cX6_runGutter 6 (some .boolean) 4 90 0 0 := CX
        show ZW p l e R s m args below meth c w 6 _ _ 0 0 (MQ below (Qn w _ _ _) args s 0 0 (wA w)) 0 [(0, .ref (wB w + k)), (1, .int _), (2, .int _), (3, .int _), (4, .int _)] []
        refine z_iload_n CX 1 dX6_runGutter_0 rfl rfl ?_
        refine z_iload_n CX 2 dX6_runGutter_1 rfl rfl ?_
        refine z_callS1 CX dX6_runGutter_2 cs_X6_240 (c_isFlow _ _) rfl rfl (Nat.le_of_ble_eq_true rfl) ⟨Nat.le_of_ble_eq_true rfl, Nat.le_of_ble_eq_true rfl⟩ ⟨Nat.le_refl _, Nat.le_refl _⟩ ?_
        refine z_if_eq CX 38 dX6_runGutter_5 (by decide) (fun q9 => absurd q9 (by rw [bI_1 h0]; decide)) (fun _ => ?_)
        refine z_aload_n CX 0 dX6_runGutter_8 rfl rfl ?_
        refine z_get CX dX6_runGutter_9 fg_X6_13 mo_0 rfl ?_
        refine z_sipush CX (v := 146) dX6_runGutter_12 (by decide) ?_
        refine z_ia CX (j := 146) dX6_runGutter_15 mo_2 rfl (by omega) (by decide) ?_
        refine z_bipush CX (v := 6) dX6_runGutter_16 (by decide) ?_
        rw [show A 1 146 = nI (gN (A 1)) from hO.1.1.1]
        refine z_icmp_ge CX 38 dX6_runGutter_18 (by decide) (fun q9 => absurd q9 (nI_ge (b := 6) h1 (by omega))) (fun _ => ?_)
        refine z_aload_n CX 0 dX6_runGutter_21 rfl rfl ?_
        refine z_get CX dX6_runGutter_22 fg_X6_13 mo_0 rfl ?_
        refine z_iload_n CX 3 dX6_runGutter_25 rfl rfl ?_
        refine z_iload CX dX6_runGutter_26 rfl ?_
        refine z_callS1 CX dX6_runGutter_28 cs_X6_151 (Cn.row mq_1 mq_1 (a := k + 2) (c_flow hO.1.1 x y)) rfl rfl (Nat.le_of_ble_eq_true rfl) ⟨Nat.le_of_ble_eq_true rfl, Nat.le_of_ble_eq_true rfl⟩ ⟨Nat.le_refl _, Nat.le_refl _⟩ ?_
        refine z_if_eq CX 38 dX6_runGutter_31 (by decide) (fun q9 => absurd q9 (by rw [hf]; decide)) (fun _ => ?_)
        refine z_iconst CX (v := 1) dX6_runGutter_34 (by decide) ?_
        refine z_goto CX 39 dX6_runGutter_35 (by decide) ?_
        refine z_istore CX dX6_runGutter_39 (by decide) ?_
        refine z_iload CX dX6_runGutter_41 rfl ?_
        refine z_if_eq CX 65 dX6_runGutter_43 (by decide) (fun q9 => absurd q9 (by decide)) (fun _ => ?_)
        refine z_aload_n CX 0 dX6_runGutter_46 rfl rfl ?_
        refine z_get CX dX6_runGutter_47 fg_X6_13 mo_0 rfl ?_
        refine z_iload_n CX 1 dX6_runGutter_50 rfl rfl ?_
        refine z_iload_n CX 2 dX6_runGutter_51 rfl rfl ?_
        refine z_iload_n CX 3 dX6_runGutter_52 rfl rfl ?_
        refine z_iload CX dX6_runGutter_53 rfl ?_
        refine z_callS1 CX dX6_runGutter_55 cs_X6_158 (Cn.row mq_1 mr_1 (a := k + 2) (c_addG hO.1.1.1 h1 a b x y)) rfl rfl (Nat.le_of_ble_eq_true rfl) ⟨Nat.le_of_ble_eq_true rfl, Nat.le_of_ble_eq_true rfl⟩ ⟨Nat.le_refl _, Nat.le_refl _⟩ ?_
        refine z_if_lt CX 65 dX6_runGutter_58 (by decide) (fun q9 => absurd q9 (nI_pos (by omega))) (fun _ => ?_)
        refine z_iconst CX (v := 1) dX6_runGutter_61 (by decide) ?_
        refine z_goto CX 66 dX6_runGutter_62 (by decide) ?_
        exact z_zret CX dX6_runGutter_66 rfl (by first | rfl | exact bI_nar _) rfl rfl (Or.inl rfl)
      · rw [show pfG (A 1) a b x y = (false, A 1) from if_neg (fun z => h2 z.2.2)]
        have hf : (decide (gN (A 1) = 0) || icl (A 1) (gN (A 1)) x y) = false := Bool.eq_false_iff.mpr (fun z => h2 ((Bool.or_eq_true_iff.mp z).imp of_decide_eq_true id))
        refine Cn.of (d := mX6_runGutter) (by decide +kernel) (Nat.le_of_ble_eq_true rfl) ?_
        intro p e R s m args below meth c CX
        replace CX : Ctx p s m args meth c R w RX6 "runGutter" cX6_runGutter 6 (some .boolean) 4 90 0 0 := CX
        show ZW p l e R s m args below meth c w 6 _ _ 0 0 (MQ below (Qn w _ _ _) args s 0 0 (wA w)) 0 [(0, .ref (wB w + k)), (1, .int _), (2, .int _), (3, .int _), (4, .int _)] []
        refine z_iload_n CX 1 dX6_runGutter_0 rfl rfl ?_
        refine z_iload_n CX 2 dX6_runGutter_1 rfl rfl ?_
        refine z_callS1 CX dX6_runGutter_2 cs_X6_240 (c_isFlow _ _) rfl rfl (Nat.le_of_ble_eq_true rfl) ⟨Nat.le_of_ble_eq_true rfl, Nat.le_of_ble_eq_true rfl⟩ ⟨Nat.le_refl _, Nat.le_refl _⟩ ?_
        refine z_if_eq CX 38 dX6_runGutter_5 (by decide) (fun q9 => absurd q9 (by rw [bI_1 h0]; decide)) (fun _ => ?_)
        refine z_aload_n CX 0 dX6_runGutter_8 rfl rfl ?_
        refine z_get CX dX6_runGutter_9 fg_X6_13 mo_0 rfl ?_
        refine z_sipush CX (v := 146) dX6_runGutter_12 (by decide) ?_
        refine z_ia CX (j := 146) dX6_runGutter_15 mo_2 rfl (by omega) (by decide) ?_
        refine z_bipush CX (v := 6) dX6_runGutter_16 (by decide) ?_
        rw [show A 1 146 = nI (gN (A 1)) from hO.1.1.1]
        refine z_icmp_ge CX 38 dX6_runGutter_18 (by decide) (fun q9 => absurd q9 (nI_ge (b := 6) h1 (by omega))) (fun _ => ?_)
        refine z_aload_n CX 0 dX6_runGutter_21 rfl rfl ?_
        refine z_get CX dX6_runGutter_22 fg_X6_13 mo_0 rfl ?_
        refine z_iload_n CX 3 dX6_runGutter_25 rfl rfl ?_
        refine z_iload CX dX6_runGutter_26 rfl ?_
        refine z_callS1 CX dX6_runGutter_28 cs_X6_151 (Cn.row mq_1 mq_1 (a := k + 2) (c_flow hO.1.1 x y)) rfl rfl (Nat.le_of_ble_eq_true rfl) ⟨Nat.le_of_ble_eq_true rfl, Nat.le_of_ble_eq_true rfl⟩ ⟨Nat.le_refl _, Nat.le_refl _⟩ ?_
        refine z_if_eq CX 38 dX6_runGutter_31 (by decide) (fun _ => ?_) (fun q9 => absurd (by rw [hf]; rfl) q9)
        refine z_iconst CX (v := 0) dX6_runGutter_38 (by decide) ?_
        refine z_istore CX dX6_runGutter_39 (by decide) ?_
        refine z_iload CX dX6_runGutter_41 rfl ?_
        refine z_if_eq CX 65 dX6_runGutter_43 (by decide) (fun _ => ?_) (fun q9 => absurd rfl q9)
        refine z_iconst CX (v := 0) dX6_runGutter_65 (by decide) ?_
        exact z_zret CX dX6_runGutter_66 rfl (by first | rfl | exact bI_nar _) rfl (by show _ = modH w hs k u (upA A 1 (A 1)); rw [upA_id]) (Or.inl rfl)
    · rw [show pfG (A 1) a b x y = (false, A 1) from if_neg (fun z => h1 z.2.1)]
      refine Cn.of (d := mX6_runGutter) (by decide +kernel) (Nat.le_of_ble_eq_true rfl) ?_
      intro p e R s m args below meth c CX
      replace CX : Ctx p s m args meth c R w RX6 "runGutter" cX6_runGutter 6 (some .boolean) 4 90 0 0 := CX
      show ZW p l e R s m args below meth c w 6 _ _ 0 0 (MQ below (Qn w _ _ _) args s 0 0 (wA w)) 0 [(0, .ref (wB w + k)), (1, .int _), (2, .int _), (3, .int _), (4, .int _)] []
      refine z_iload_n CX 1 dX6_runGutter_0 rfl rfl ?_
      refine z_iload_n CX 2 dX6_runGutter_1 rfl rfl ?_
      refine z_callS1 CX dX6_runGutter_2 cs_X6_240 (c_isFlow _ _) rfl rfl (Nat.le_of_ble_eq_true rfl) ⟨Nat.le_of_ble_eq_true rfl, Nat.le_of_ble_eq_true rfl⟩ ⟨Nat.le_refl _, Nat.le_refl _⟩ ?_
      refine z_if_eq CX 38 dX6_runGutter_5 (by decide) (fun q9 => absurd q9 (by rw [bI_1 h0]; decide)) (fun _ => ?_)
      refine z_aload_n CX 0 dX6_runGutter_8 rfl rfl ?_
      refine z_get CX dX6_runGutter_9 fg_X6_13 mo_0 rfl ?_
      refine z_sipush CX (v := 146) dX6_runGutter_12 (by decide) ?_
      refine z_ia CX (j := 146) dX6_runGutter_15 mo_2 rfl (by omega) (by decide) ?_
      refine z_bipush CX (v := 6) dX6_runGutter_16 (by decide) ?_
      rw [show A 1 146 = nI (gN (A 1)) from hO.1.1.1]
      refine z_icmp_ge CX 38 dX6_runGutter_18 (by decide) (fun _ => ?_) (fun q9 => absurd (nI_le (a := 6) (by omega) (by omega)) q9)
      refine z_iconst CX (v := 0) dX6_runGutter_38 (by decide) ?_
      refine z_istore CX dX6_runGutter_39 (by decide) ?_
      refine z_iload CX dX6_runGutter_41 rfl ?_
      refine z_if_eq CX 65 dX6_runGutter_43 (by decide) (fun _ => ?_) (fun q9 => absurd rfl q9)
      refine z_iconst CX (v := 0) dX6_runGutter_65 (by decide) ?_
      exact z_zret CX dX6_runGutter_66 rfl (by first | rfl | exact bI_nar _) rfl (by show _ = modH w hs k u (upA A 1 (A 1)); rw [upA_id]) (Or.inl rfl)
  · rw [show pfG (A 1) a b x y = (false, A 1) from if_neg (fun z => h0 z.1)]
    refine Cn.of (d := mX6_runGutter) (by decide +kernel) (Nat.le_of_ble_eq_true rfl) ?_
    intro p e R s m args below meth c CX
    replace CX : Ctx p s m args meth c R w RX6 "runGutter" cX6_runGutter 6 (some .boolean) 4 90 0 0 := CX
    show ZW p l e R s m args below meth c w 6 _ _ 0 0 (MQ below (Qn w _ _ _) args s 0 0 (wA w)) 0 [(0, .ref (wB w + k)), (1, .int _), (2, .int _), (3, .int _), (4, .int _)] []
    refine z_iload_n CX 1 dX6_runGutter_0 rfl rfl ?_
    refine z_iload_n CX 2 dX6_runGutter_1 rfl rfl ?_
    refine z_callS1 CX dX6_runGutter_2 cs_X6_240 (c_isFlow _ _) rfl rfl (Nat.le_of_ble_eq_true rfl) ⟨Nat.le_of_ble_eq_true rfl, Nat.le_of_ble_eq_true rfl⟩ ⟨Nat.le_refl _, Nat.le_refl _⟩ ?_
    refine z_if_eq CX 38 dX6_runGutter_5 (by decide) (fun _ => ?_) (fun q9 => absurd (bI_0 h0) q9)
    refine z_iconst CX (v := 0) dX6_runGutter_38 (by decide) ?_
    refine z_istore CX dX6_runGutter_39 (by decide) ?_
    refine z_iload CX dX6_runGutter_41 rfl ?_
    refine z_if_eq CX 65 dX6_runGutter_43 (by decide) (fun _ => ?_) (fun q9 => absurd rfl q9)
    refine z_iconst CX (v := 0) dX6_runGutter_65 (by decide) ?_
    exact z_zret CX dX6_runGutter_66 rfl (by first | rfl | exact bI_nar _) rfl (by show _ = modH w hs k u (upA A 1 (A 1)); rw [upA_id]) (Or.inl rfl)
