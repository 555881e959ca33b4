/-! the text's commands, done to a tournament -/
theorem xt_th {w : Wt} {hs : Hs} {k k2 : Nat} {sg c d f : Nat → Int32} {x : Int32} {z : Nat → Nat → Int32} (hd : k2 + 7 ≤ k ∨ k + 3 ≤ k2) : XT w (TH w hs k2 f x z) k sg c d = TH w (XT w hs k sg c d) k2 f x z := by
  funext j
  unfold XT TH TT
  by_cases h : k2 ≤ j ∧ j < k2 + 7
  · rw [if_neg (show ¬ j = k by omega), if_neg (show ¬ j = k + 1 by omega), if_neg (show ¬ j = k + 2 by omega), if_pos h, if_pos h]
  · rw [if_neg h, if_neg h]
abbrev RE : Type := (Nat → Int32) × (Nat → Int32) × (Nat → Int32) × Int32
noncomputable def reR (t : Nat → Int32) (len : Nat) : Nat → Nat → (Nat → Int32) → (Nat → Int32) → (Nat → Int32) → Int32 → RE
  | 0, _, sg, dg, f, cn => (sg, dg, f, cn)
  | j + 1, y, sg, dg, f, cn => if y < len then reR t len j (cpT9 t len y).1 (upd (upd sg 2 (hrF t len y)) 1 (nI (cpT9 t len y).1)) (rcD t len y dg) (pfV t len y f).2 (if (pfV t len y f).1 = true then cn else cn + 1) else (sg, dg, f, cn)
theorem reR_0 {t : Nat → Int32} {len : Nat} : ∀ (j y : Nat) (sg dg f : Nat → Int32) (cn : Int32), (reR t len j y sg dg f cn).1 0 = sg 0
  | 0, _, _, _, _, _ => rfl
  | j + 1, y, sg, dg, f, cn => by
    rw [reR]
    split
    · rw [reR_0 j]; rfl
    · rfl
theorem cmS_2 {t : Nat → Int32} {len y : Nat} {f : Nat → Int32} {x5 : Int32} (h : (cpT9 t len y).2 = true) : (cmS t len f y x5).2 = ((pfV t len y f).2, if (pfV t len y f).1 = true then x5 else x5 + 1) := by
  unfold cpT9 at h
  unfold cmS pfV
  by_cases c : isLet (hrF t len y)
  · rw [if_pos c] at h
    rw [if_pos c]
    show exR _ _ f x5 = _
    unfold exR
    exact if_pos h
  · rw [if_neg c] at h; exact absurd h Bool.false_ne_true
theorem re_rd {t : Nat → Int32} {len : Nat} : ∀ (j i y : Nat) (sg dg f : Nat → Int32) (x5 : Int32), len ≤ y + j → len ≤ y + i → (rdA t len i ((y, true), (f, x5))).1.2 = true → (reR t len j y sg dg f x5).2.2 = (rdA t len i ((y, true), (f, x5))).2
  | 0, i, y, sg, dg, f, x5, h1, h2, _ => by
    have q : rdA t len i ((y, true), (f, x5)) = ((y, true), (f, x5)) := by
      cases i with
      | zero => rfl
      | succ i => rw [rdA, if_neg (fun q => absurd q.2 (by show ¬ y < len; omega))]
    rw [q]; rfl
  | j + 1, i, y, sg, dg, f, x5, h1, h2, hg => by
    rw [reR]
    by_cases hl : y < len
    · obtain ⟨i', rfl⟩ : ∃ i', i = i' + 1 := ⟨i - 1, by omega⟩
      have r : rdA t len (i' + 1) ((y, true), (f, x5)) = rdA t len i' (cmS t len f y x5) := by rw [rdA, if_pos ⟨rfl, hl⟩]
      rw [r] at hg
      rw [if_pos hl, r]
      have e := cmS_1 (t := t) (len := len) (y := y) (f := f) (x5 := x5)
      by_cases hc : (cpT9 t len y).2 = true
      · have e2 := cmS_2 (f := f) (x5 := x5) hc
        have e3 : cmS t len f y x5 = (((cpT9 t len y).1, true), ((pfV t len y f).2, if (pfV t len y f).1 = true then x5 else x5 + 1)) := Prod.ext (e.trans (Prod.ext rfl hc)) e2
        have g := cpT9_ge hc
        rw [e3] at hg ⊢
        exact re_rd j i' _ _ _ _ _ (by omega) (by omega) hg
      · rw [rdA_f (by rw [e]; exact Bool.eq_false_iff.mpr hc), e] at hg
        exact absurd hg hc
    · rw [if_neg hl]
      have q : rdA t len i ((y, true), (f, x5)) = ((y, true), (f, x5)) := by
        cases i with
        | zero => rfl
        | succ i => rw [rdA, if_neg (fun q => absurd q.2 hl)]
      rw [q]
theorem pfV_ok {t : Nat → Int32} {len y : Nat} {f : Nat → Int32} (h : OKr f) : OKr (pfV t len y f).2 := pf_ok h
set_option maxHeartbeats 4000000 in
set_option maxRecDepth 100000 in
theorem x_nat {l : Launch} {w : Wt} {hs : Hs} {n : Option Nat} {k : Nat} {s9 c9 d9 : Nat → Int32} {i : Nat} {v9 : Int32} (e9 : v9 = nI i) (hi : i < 4) : Cn l w mX3_numberAt 0 0 [.ref (wB w + k), .int v9] (XT w hs k s9 c9 d9) n (XT w hs k s9 c9 d9) n (some (.int (d9 i))) := by
  subst e9
  refine Cn.of (d := mX3_numberAt) (by decide +kernel) (Nat.le_of_ble_eq_true rfl) ?_
  intro p e R s m args below meth c CX
  replace CX : Ctx p s m args meth c R w RX3 "numberAt" cX3_numberAt 2 (some .int) 0 0 0 0 := CX
  show ZW p l e R s m args below meth c w 2 _ _ 0 0 (MQ below (Qn w _ _ _) args s 0 0 (wA w)) 0 [(0, .ref (wB w + k)), (1, .int _)] []
  refine z_iload_n CX 1 dX3_numberAt_0 rfl rfl ?_
  refine z_if_lt CX 22 dX3_numberAt_1 (by decide) (fun q9 => absurd q9 (Int32.not_lt.mpr (nI_le (Nat.zero_le _) (by omega)))) (fun _ => ?_)
  refine z_iload_n CX 1 dX3_numberAt_4 rfl rfl ?_
  refine z_aload_n CX 0 dX3_numberAt_5 rfl rfl ?_
  refine z_get CX dX3_numberAt_6 fg_X3_15 xt_0 rfl ?_
  refine z_alen CX 0 dX3_numberAt_9 xt_2 rfl rfl ?_
  refine z_icmp_ge CX 22 dX3_numberAt_10 (by decide) (fun q9 => absurd q9 (nI_ge (b := 4) hi (by omega))) (fun _ => ?_)
  refine z_aload_n CX 0 dX3_numberAt_13 rfl rfl ?_
  refine z_get CX dX3_numberAt_14 fg_X3_15 xt_0 rfl ?_
  refine z_iload_n CX 1 dX3_numberAt_17 rfl rfl ?_
  refine z_ia CX (j := i) dX3_numberAt_18 xt_2 rfl (by omega) (by decide) ?_
  refine z_goto CX 23 dX3_numberAt_19 (by decide) ?_
  exact z_iret CX dX3_numberAt_23 rfl rfl rfl (Or.inl rfl)
set_option maxHeartbeats 4000000 in
set_option maxRecDepth 100000 in
theorem x_run {l : Launch} {w : Wt} {hs : Hs} {n : Option Nat} {k : Nat} {s9 c9 d9 : Nat → Int32} {k2 len : Nat} {f9 : Nat → Int32} {x : Int32} {z : Nat → Nat → Int32} (hd : k2 + 7 ≤ k ∨ k + 3 ≤ k2) (h0 : s9 0 = nI len) (hl : len ≤ 120) (h1 : 1 ≤ len) (hO : OKr f9) (hg : (feR c9 len 120 1 (upd s9 1 (nI 1)) d9).1.2 = true) : Cn l w mX3_runCommands 0 0 [.ref (wB w + k), .ref (wB w + k2)] (XT w (TH w hs k2 f9 x z) k s9 c9 d9) n (XT w (TH w hs k2 (reR c9 len 120 1 (upd s9 1 (nI 1)) d9 f9 0).2.2.1 x z) k (reR c9 len 120 1 (upd s9 1 (nI 1)) d9 f9 0).1 c9 (reR c9 len 120 1 (upd s9 1 (nI 1)) d9 f9 0).2.1) n (some (.int (reR c9 len 120 1 (upd s9 1 (nI 1)) d9 f9 0).2.2.2)) := by
  refine Cn.of (d := mX3_runCommands) (by decide +kernel) (Nat.le_of_ble_eq_true rfl) ?_
  intro p e R s m args below meth c CX
  replace CX : Ctx p s m args meth c R w RX3 "runCommands" cX3_runCommands 4 (some .int) 5 121 0 0 := CX
  show ZW p l e R s m args below meth c w 4 _ _ 0 0 (MQ below (Qn w _ _ _) args s 0 0 (wA w)) 0 [(0, .ref (wB w + k)), (1, .ref (wB w + k2))] []
  have LP : ∀ (j i y : Nat) (sg dg f9 : Nat → Int32) (cn : Int32), i + j = 120 → y ≤ len → i + 1 ≤ y → sg 0 = nI len → sg 1 = nI y → OKr f9 → (feR c9 len j y sg dg).1.2 = true → ZW p l e R s m args below meth c w 4 (XT w (TH w hs k2 f9 x z) k sg c9 dg) n 0 0 (MQ below (Qn w (XT w (TH w hs k2 (reR c9 len j y sg dg f9 cn).2.2.1 x z) k (reR c9 len j y sg dg f9 cn).1 c9 (reR c9 len j y sg dg f9 cn).2.1) n (some (.int (reR c9 len j y sg dg f9 cn).2.2.2))) args s 0 0 (wA w)) 9 [(0, .ref (wB w + k)), (1, .ref (wB w + k2)), (2, .int cn), (3, .int (nI i))] [] := by
    intro j
    induction j with
    | zero =>
      intro i y sg dg f9 cn hi hyl hyi q0 q1 hO hg
      exact absurd hyl (by omega)
    | succ j ih =>
      intro i y sg dg f9 cn hi hyl hyi q0 q1 hO hg
      refine z_iload_n CX 3 dX3_runCommands_9 rfl rfl ?_
      refine z_bipush CX (v := 120) dX3_runCommands_10 (by decide) ?_
      refine z_icmp_ge CX 71 dX3_runCommands_12 (by decide) (fun q9 => absurd q9 (nI_ge (b := 120) (by omega) (by omega))) (fun _ => ?_)
      refine z_aload_n CX 0 dX3_runCommands_15 rfl rfl ?_
      refine z_get CX dX3_runCommands_16 fg_X3_22 xt_0 rfl ?_
      refine z_aload_n CX 0 dX3_runCommands_19 rfl rfl ?_
      refine z_get CX dX3_runCommands_20 fg_X3_18 xt_0 rfl ?_
      refine z_icmp_ge CX 71 dX3_runCommands_23 (by decide) (fun c_23 => ?_) (fun c_23 => ?_)
      · skip
        rw [q0, q1] at c_23
        have hlt : ¬ y < len := fun q => absurd c_23 (nI_ge q (by omega))
        rw [show reR c9 len (j + 1) y sg dg f9 cn = (sg, dg, f9, cn) from if_neg hlt]
        refine z_iload_n CX 2 dX3_runCommands_71 rfl rfl ?_
        exact z_iret CX dX3_runCommands_72 rfl rfl rfl (Or.inl rfl)
      · skip
        rw [q0, q1] at c_23
        have hlt : y < len := Nat.lt_of_not_le (fun q => c_23 (nI_le q (by omega)))
        have hc9 : (cpT9 c9 len y).2 = true := by
          rw [feR, if_pos hlt] at hg
          by_cases hq : (cpT9 c9 len y).2 = true
          · exact hq
          · rw [if_neg hq] at hg; exact absurd hg Bool.false_ne_true
        rw [feR, if_pos hlt, if_pos hc9] at hg
        have hp9 : Cn l w mX4_perform 0 0 [.ref (wB w + k2), .int ((upd (upd sg 2 (hrF c9 len y)) 1 (nI (cpT9 c9 len y).1)) 2), .int ((rcD c9 len y dg) 0), .int ((rcD c9 len y dg) 1), .int ((rcD c9 len y dg) 2), .int ((rcD c9 len y dg) 3)] (XT w (TH w hs k2 f9 x z) k (upd (upd sg 2 (hrF c9 len y)) 1 (nI (cpT9 c9 len y).1)) c9 (rcD c9 len y dg)) n (XT w (TH w hs k2 (pfV c9 len y f9).2 x z) k (upd (upd sg 2 (hrF c9 len y)) 1 (nI (cpT9 c9 len y).1)) c9 (rcD c9 len y dg)) n (some (.int (bI (pfV c9 len y f9).1))) := by
          rw [xt_th hd, xt_th hd, ← (x_rcD (c9 := c9) (d9 := dg) hl (by omega)).2 hc9 f9]
          exact t_perf hO _ _ _ _ _
        refine z_aload_n CX 0 dX3_runCommands_26 rfl rfl ?_
        refine z_callV1 CX dX3_runCommands_27 cv_X3_29 ((x_rcD hl (by omega)).1 q0 q1) xt_0 rfl rfl (Nat.le_of_ble_eq_true rfl) ⟨Nat.le_of_ble_eq_true rfl, Nat.le_of_ble_eq_true rfl⟩ ⟨Nat.le_refl _, Nat.le_refl _⟩ ?_
        refine z_pop CX dX3_runCommands_30 rfl ?_
        refine z_aload_n CX 1 dX3_runCommands_31 rfl rfl ?_
        refine z_aload_n CX 0 dX3_runCommands_32 rfl rfl ?_
        refine z_get CX dX3_runCommands_33 fg_X3_33 xt_0 rfl ?_
        refine z_aload_n CX 0 dX3_runCommands_36 rfl rfl ?_
        refine z_iconst CX (v := 0) dX3_runCommands_37 (by decide) ?_
        refine z_callV1 CX dX3_runCommands_38 cv_X3_36 (x_nat (i := 0) rfl (by omega)) xt_0 rfl rfl (Nat.le_of_ble_eq_true rfl) ⟨Nat.le_of_ble_eq_true rfl, Nat.le_of_ble_eq_true rfl⟩ ⟨Nat.le_refl _, Nat.le_refl _⟩ ?_
        refine z_aload_n CX 0 dX3_runCommands_41 rfl rfl ?_
        refine z_iconst CX (v := 1) dX3_runCommands_42 (by decide) ?_
        refine z_callV1 CX dX3_runCommands_43 cv_X3_36 (x_nat (i := 1) rfl (by omega)) xt_0 rfl rfl (Nat.le_of_ble_eq_true rfl) ⟨Nat.le_of_ble_eq_true rfl, Nat.le_of_ble_eq_true rfl⟩ ⟨Nat.le_refl _, Nat.le_refl _⟩ ?_
        refine z_aload_n CX 0 dX3_runCommands_46 rfl rfl ?_
        refine z_iconst CX (v := 2) dX3_runCommands_47 (by decide) ?_
        refine z_callV1 CX dX3_runCommands_48 cv_X3_36 (x_nat (i := 2) rfl (by omega)) xt_0 rfl rfl (Nat.le_of_ble_eq_true rfl) ⟨Nat.le_of_ble_eq_true rfl, Nat.le_of_ble_eq_true rfl⟩ ⟨Nat.le_refl _, Nat.le_refl _⟩ ?_
        refine z_aload_n CX 0 dX3_runCommands_51 rfl rfl ?_
        refine z_iconst CX (v := 3) dX3_runCommands_52 (by decide) ?_
        refine z_callV1 CX dX3_runCommands_53 cv_X3_36 (x_nat (i := 3) rfl (by omega)) xt_0 rfl rfl (Nat.le_of_ble_eq_true rfl) ⟨Nat.le_of_ble_eq_true rfl, Nat.le_of_ble_eq_true rfl⟩ ⟨Nat.le_refl _, Nat.le_refl _⟩ ?_
        refine z_callV1 CX dX3_runCommands_56 cv_X3_40 hp9 ((xt_n (by omega)).trans to_0) rfl rfl (Nat.le_of_ble_eq_true rfl) ⟨Nat.le_of_ble_eq_true rfl, Nat.le_of_ble_eq_true rfl⟩ ⟨Nat.le_refl _, Nat.le_refl _⟩ ?_
        refine z_if_ne CX 65 dX3_runCommands_59 (by decide) (fun c_59 => ?_) (fun c_59 => ?_)
        · skip
          have hv9 : (pfV c9 len y f9).1 = true := by cases hq : (pfV c9 len y f9).1 with | true => rfl | false => rw [hq] at c_59; exact absurd rfl c_59
          rw [show reR c9 len (j + 1) y sg dg f9 cn = reR c9 len j (cpT9 c9 len y).1 (upd (upd sg 2 (hrF c9 len y)) 1 (nI (cpT9 c9 len y).1)) (rcD c9 len y dg) (pfV c9 len y f9).2 cn from by rw [reR, if_pos hlt, if_pos hv9]]
          refine z_iinc CX (v := nI (i + 1)) dX3_runCommands_65 rfl (nI_1 i) (by decide) ?_
          refine z_goto CX 9 dX3_runCommands_68 (by decide) ?_
          refine z_loc [(0, .ref (wB w + k)), (1, .ref (wB w + k2)), (2, .int cn), (3, .int (nI (i + 1)))] ⟨rfl, rfl, rfl, rfl, trivial⟩ ?_
          exact ih (i + 1) (cpT9 c9 len y).1 (upd (upd sg 2 (hrF c9 len y)) 1 (nI (cpT9 c9 len y).1)) (rcD c9 len y dg) (pfV c9 len y f9).2 cn (by omega) (cpT9_le hlt) (by have g := cpT9_ge hc9; omega) q0 pk_us (pfV_ok hO) hg
        · skip
          have hv9 : ¬ (pfV c9 len y f9).1 = true := fun q => by rw [q] at c_59; exact absurd c_59 (by decide)
          rw [show reR c9 len (j + 1) y sg dg f9 cn = reR c9 len j (cpT9 c9 len y).1 (upd (upd sg 2 (hrF c9 len y)) 1 (nI (cpT9 c9 len y).1)) (rcD c9 len y dg) (pfV c9 len y f9).2 (cn + 1) from by rw [reR, if_pos hlt, if_neg hv9]]
          refine z_iinc CX (v := (cn + 1)) dX3_runCommands_62 rfl rfl (by decide) ?_
          refine z_iinc CX (v := nI (i + 1)) dX3_runCommands_65 rfl (nI_1 i) (by decide) ?_
          refine z_goto CX 9 dX3_runCommands_68 (by decide) ?_
          refine z_loc [(0, .ref (wB w + k)), (1, .ref (wB w + k2)), (2, .int (cn + 1)), (3, .int (nI (i + 1)))] ⟨rfl, rfl, rfl, rfl, trivial⟩ ?_
          exact ih (i + 1) (cpT9 c9 len y).1 (upd (upd sg 2 (hrF c9 len y)) 1 (nI (cpT9 c9 len y).1)) (rcD c9 len y dg) (pfV c9 len y f9).2 (cn + 1) (by omega) (cpT9_le hlt) (by have g := cpT9_ge hc9; omega) q0 pk_us (pfV_ok hO) hg
  refine z_iconst CX (v := 0) dX3_runCommands_0 (by decide) ?_
  refine z_istore_n CX 2 dX3_runCommands_1 rfl (by decide) ?_
  refine z_aload_n CX 0 dX3_runCommands_2 rfl rfl ?_
  refine z_iconst CX (v := 1) dX3_runCommands_3 (by decide) ?_
  refine z_put CX dX3_runCommands_4 fg_X3_22 fp_X3_3 xt_0 (Nat.le_of_ble_eq_true rfl) rfl rfl ?_
  refine z_heap xt_f1 ?_
  refine z_iconst CX (v := 0) dX3_runCommands_7 (by decide) ?_
  refine z_istore_n CX 3 dX3_runCommands_8 rfl (by decide) ?_
  refine z_loc [(0, .ref (wB w + k)), (1, .ref (wB w + k2)), (2, .int 0), (3, .int (nI 0))] ⟨rfl, rfl, rfl, rfl, trivial⟩ ?_
  exact LP 120 0 1 (upd s9 1 (nI 1)) d9 f9 0 (by omega) h1 (by omega) h0 rfl hO hg
