/-! the text's first error -/
theorem pz_ge {t : Nat → Int32} {len y : Nat} {z : Int32} : y ≤ (pz t len z y).1.1 := by
  unfold pz
  split
  · exact Nat.le_trans (twS_le (q := (y, true))).1 (Nat.le_trans dgS_le.1 (Nat.le_trans dgS_le.1 twS_le.1))
  split
  · exact Nat.le_trans (dgS_le (q := (y, true))).1 (Nat.le_trans dgS_le.1 dgS_le.1)
  split
  · exact Nat.le_trans (dgS_le (q := (y, true))).1 dgS_le.1
  split
  · exact (twS_le (q := (y, true))).1
  split
  · exact Nat.le_trans (dgS_le (q := (y, true))).1 (Nat.le_trans dgS_le.1 twS_le.1)
  split
  · exact Nat.le_trans (dgS_le (q := (y, true))).1 dgS_le.1
  split
  · exact Nat.le_trans (dgS_le (q := (y, true))).1 dgS_le.1
  · exact Nat.le_refl _
theorem cpT9_ge {t : Nat → Int32} {len y : Nat} (h : (cpT9 t len y).2 = true) : y + 1 ≤ (cpT9 t len y).1 := by
  unfold cpT9 at h ⊢
  by_cases c : isLet (hrF t len y)
  · rw [if_pos c]; exact pz_ge
  · rw [if_neg c] at h; exact absurd h Bool.false_ne_true
theorem cpT9_le {t : Nat → Int32} {len y : Nat} (h : y < len) : (cpT9 t len y).1 ≤ len := by
  unfold cpT9
  split
  · exact pz_len (by omega)
  · exact Nat.le_of_lt h
abbrev FE : Type := (Nat × Bool) × (Nat → Int32) × (Nat → Int32)
noncomputable def feR (t : Nat → Int32) (len : Nat) : Nat → Nat → (Nat → Int32) → (Nat → Int32) → FE
  | 0, y, sg, dg => ((y, true), sg, dg)
  | j + 1, y, sg, dg => if y < len then (if (cpT9 t len y).2 = true then feR t len j (cpT9 t len y).1 (upd (upd sg 2 (hrF t len y)) 1 (nI (cpT9 t len y).1)) (rcD t len y dg) else (((cpT9 t len y).1, false), upd (upd sg 2 (hrF t len y)) 1 (nI (cpT9 t len y).1), rcD t len y dg)) else ((y, true), sg, dg)
noncomputable def feA (t : Nat → Int32) (len : Nat) (sg dg : Nat → Int32) : FE := if hrF t len 0 = 84 then feR t len 120 1 (upd sg 1 (nI 1)) dg else ((0, false), upd sg 1 0, dg)
theorem feR_0 {t : Nat → Int32} {len : Nat} : ∀ (j y : Nat) (sg dg : Nat → Int32), (feR t len j y sg dg).2.1 0 = sg 0
  | 0, _, _, _ => rfl
  | j + 1, y, sg, dg => by
    rw [feR]
    split
    · split
      · rw [feR_0 j]; rfl
      · rfl
    · rfl
theorem feA_0 {t : Nat → Int32} {len : Nat} {sg dg : Nat → Int32} : (feA t len sg dg).2.1 0 = sg 0 := by
  unfold feA
  split
  · rw [feR_0]; rfl
  · rfl
theorem cmS_1 {t : Nat → Int32} {len y : Nat} {f : Nat → Int32} {x5 : Int32} : (cmS t len f y x5).1 = cpT9 t len y := by
  unfold cmS cpT9
  split <;> rfl
theorem rdA_f {t : Nat → Int32} {len : Nat} {S : TS} (h : S.1.2 = false) : ∀ j, rdA t len j S = S
  | 0 => rfl
  | j + 1 => by rw [rdA, if_neg (fun q => absurd q.1 (by rw [h]; exact Bool.false_ne_true))]
theorem fe_rd {t : Nat → Int32} {len : Nat} : ∀ (j i y : Nat) (sg dg f : Nat → Int32) (x5 : Int32), len ≤ y + j → len ≤ y + i → (feR t len j y sg dg).1 = (rdA t len i ((y, true), (f, x5))).1
  | 0, i, y, sg, dg, f, x5, h1, h2 => by
    have q : rdA t len i ((y, true), (f, x5)) = ((y, true), (f, x5)) := by
      cases i with
      | zero => rfl
      | succ i => rw [rdA, if_neg (fun q => absurd q.2 (by show ¬ y < len; omega))]
    rw [q]; rfl
  | j + 1, i, y, sg, dg, f, x5, h1, h2 => by
    rw [feR]
    by_cases hl : y < len
    · obtain ⟨i', rfl⟩ : ∃ i', i = i' + 1 := ⟨i - 1, by omega⟩
      have r : rdA t len (i' + 1) ((y, true), (f, x5)) = rdA t len i' (cmS t len f y x5) := by rw [rdA, if_pos ⟨rfl, hl⟩]
      rw [if_pos hl, r]
      have e := cmS_1 (t := t) (len := len) (y := y) (f := f) (x5 := x5)
      by_cases hc : (cpT9 t len y).2 = true
      · rw [if_pos hc]
        have g := cpT9_ge hc
        rw [fe_rd j i' _ _ _ (cmS t len f y x5).2.1 (cmS t len f y x5).2.2 (by omega) (by omega)]
        congr 2
        refine Prod.ext ?_ rfl
        rw [e]
        exact Prod.ext rfl hc.symm
      · rw [if_neg hc, rdA_f (by rw [e]; exact Bool.eq_false_iff.mpr hc), e]
        exact Prod.ext rfl (Bool.eq_false_iff.mpr hc).symm
    · rw [if_neg hl]
      have q : rdA t len i ((y, true), (f, x5)) = ((y, true), (f, x5)) := by
        cases i with
        | zero => rfl
        | succ i => rw [rdA, if_neg (fun q => absurd q.2 hl)]
      rw [q]
theorem fe_ts {t : Nat → Int32} {len : Nat} (hl : len ≤ 120) {sg dg f : Nat → Int32} : (feA t len sg dg).1 = (tsF t len f).1 := by
  unfold feA tsF
  by_cases c : hrF t len 0 = 84
  · rw [if_pos c, if_pos c]
    exact fe_rd 120 121 1 _ _ _ _ (by omega) (by omega)
  · rw [if_neg c, if_neg c, rdA_f rfl]
set_option maxHeartbeats 4000000 in
set_option maxRecDepth 100000 in
theorem x_fe {l : Launch} {w : Wt} {hs : Hs} {n : Option Nat} {k : Nat} {s9 c9 d9 : Nat → Int32} {len : Nat} (h0 : s9 0 = nI len) (hl : len ≤ 120) : Cn l w mX3_firstError 0 0 [.ref (wB w + k)] (XT w hs k s9 c9 d9) n (XT w hs k (feA c9 len s9 d9).2.1 c9 (feA c9 len s9 d9).2.2) n (some (.int (if (feA c9 len s9 d9).1.2 = true then -1 else nI (feA c9 len s9 d9).1.1))) := by
  refine Cn.of (d := mX3_firstError) (by decide +kernel) (Nat.le_of_ble_eq_true rfl) ?_
  intro p e R s m args below meth c CX
  replace CX : Ctx p s m args meth c R w RX3 "firstError" cX3_firstError 2 (some .int) 3 69 0 0 := CX
  show ZW p l e R s m args below meth c w 2 _ _ 0 0 (MQ below (Qn w _ _ _) args s 0 0 (wA w)) 0 [(0, .ref (wB w + k))] []
  have LP : ∀ (j i y : Nat) (sg dg : Nat → Int32), i + j = 120 → y ≤ len → i + 1 ≤ y → sg 0 = nI len → sg 1 = nI y → ZW p l e R s m args below meth c w 2 (XT w hs k sg c9 dg) n 0 0 (MQ below (Qn w (XT w hs k (feR c9 len j y sg dg).2.1 c9 (feR c9 len j y sg dg).2.2) n (some (.int (if (feR c9 len j y sg dg).1.2 = true then -1 else nI (feR c9 len j y sg dg).1.1)))) args s 0 0 (wA w)) 23 [(0, .ref (wB w + k)), (1, .int (nI i))] [] := by
    intro j
    induction j with
    | zero =>
      intro i y sg dg hi hyl hyi q0 q1
      exact absurd hyl (by omega)
    | succ j ih =>
      intro i y sg dg hi hyl hyi q0 q1
      refine z_iload_n CX 1 dX3_firstError_23 rfl rfl ?_
      refine z_bipush CX (v := 120) dX3_firstError_24 (by decide) ?_
      refine z_icmp_ge CX 58 dX3_firstError_26 (by decide) (fun q9 => absurd q9 (nI_ge (b := 120) (by omega) (by omega))) (fun _ => ?_)
      refine z_aload_n CX 0 dX3_firstError_29 rfl rfl ?_
      refine z_get CX dX3_firstError_30 fg_X3_22 xt_0 rfl ?_
      refine z_aload_n CX 0 dX3_firstError_33 rfl rfl ?_
      refine z_get CX dX3_firstError_34 fg_X3_18 xt_0 rfl ?_
      refine z_icmp_ge CX 58 dX3_firstError_37 (by decide) (fun c_37 => ?_) (fun c_37 => ?_)
      · skip
        rw [q0, q1] at c_37
        have hlt : ¬ y < len := fun q => absurd c_37 (nI_ge q (by omega))
        rw [show feR c9 len (j + 1) y sg dg = ((y, true), sg, dg) from if_neg hlt]
        refine z_iconst CX (v := (-1 : Int32)) dX3_firstError_58 (by decide) ?_
        exact z_iret CX dX3_firstError_59 rfl rfl rfl (Or.inl rfl)
      · skip
        rw [q0, q1] at c_37
        have hlt : y < len := Nat.lt_of_not_le (fun q => c_37 (nI_le q (by omega)))
        refine z_aload_n CX 0 dX3_firstError_40 rfl rfl ?_
        refine z_callV1 CX dX3_firstError_41 cv_X3_29 ((x_rcD hl (by omega)).1 q0 q1) xt_0 rfl rfl (Nat.le_of_ble_eq_true rfl) ⟨Nat.le_of_ble_eq_true rfl, Nat.le_of_ble_eq_true rfl⟩ ⟨Nat.le_refl _, Nat.le_refl _⟩ ?_
        refine z_if_ne CX 52 dX3_firstError_44 (by decide) (fun c_44 => ?_) (fun c_44 => ?_)
        · skip
          have hc9 : (cpT9 c9 len y).2 = true := by cases hq : (cpT9 c9 len y).2 with | true => rfl | false => rw [hq] at c_44; exact absurd rfl c_44
          rw [show feR c9 len (j + 1) y sg dg = feR c9 len j (cpT9 c9 len y).1 (upd (upd sg 2 (hrF c9 len y)) 1 (nI (cpT9 c9 len y).1)) (rcD c9 len y dg) from by rw [feR, if_pos hlt, if_pos hc9]]
          refine z_iinc CX (v := nI (i + 1)) dX3_firstError_52 rfl (nI_1 i) (by decide) ?_
          refine z_goto CX 23 dX3_firstError_55 (by decide) ?_
          refine z_loc [(0, .ref (wB w + k)), (1, .int (nI (i + 1)))] ⟨rfl, rfl, trivial⟩ ?_
          exact ih (i + 1) (cpT9 c9 len y).1 (upd (upd sg 2 (hrF c9 len y)) 1 (nI (cpT9 c9 len y).1)) (rcD c9 len y dg) (by omega) (cpT9_le hlt) (by have g := cpT9_ge hc9; omega) q0 pk_us
        · skip
          have hc9 : ¬ (cpT9 c9 len y).2 = true := fun q => by rw [q] at c_44; exact absurd c_44 (by decide)
          rw [show feR c9 len (j + 1) y sg dg = (((cpT9 c9 len y).1, false), (upd (upd sg 2 (hrF c9 len y)) 1 (nI (cpT9 c9 len y).1)), rcD c9 len y dg) from by rw [feR, if_pos hlt, if_neg hc9]]
          refine z_aload_n CX 0 dX3_firstError_47 rfl rfl ?_
          refine z_get CX dX3_firstError_48 fg_X3_22 xt_0 rfl ?_
          exact z_iret CX dX3_firstError_51 rfl rfl rfl (Or.inl rfl)
  refine z_aload_n CX 0 dX3_firstError_0 rfl rfl ?_
  refine z_iconst CX (v := 0) dX3_firstError_1 (by decide) ?_
  refine z_put CX dX3_firstError_2 fg_X3_22 fp_X3_3 xt_0 (Nat.le_of_ble_eq_true rfl) rfl rfl ?_
  refine z_heap xt_f1 ?_
  refine z_aload_n CX 0 dX3_firstError_5 rfl rfl ?_
  refine z_callV1 CX dX3_firstError_6 cv_X3_25 (x_hand (s9 := upd s9 1 0) (y := 0) (show upd s9 1 0 0 = nI len from h0) hl rfl (by omega)) xt_0 rfl rfl (Nat.le_of_ble_eq_true rfl) ⟨Nat.le_of_ble_eq_true rfl, Nat.le_of_ble_eq_true rfl⟩ ⟨Nat.le_refl _, Nat.le_refl _⟩ ?_
  refine z_bipush CX (v := 84) dX3_firstError_9 (by decide) ?_
  refine z_icmp_eq CX 16 dX3_firstError_11 (by decide) (fun c_11 => ?_) (fun c_11 => ?_)
  · skip
    rw [show feA c9 len s9 d9 = feR c9 len 120 1 (upd s9 1 (nI 1)) d9 from if_pos c_11]
    have hlt : 0 < len := by
      refine Nat.pos_of_ne_zero (fun q => ?_)
      rw [q] at c_11
      exact absurd c_11 (by unfold hrF; rw [if_neg (by omega)]; decide)
    refine z_aload_n CX 0 dX3_firstError_16 rfl rfl ?_
    refine z_iconst CX (v := 1) dX3_firstError_17 (by decide) ?_
    refine z_put CX dX3_firstError_18 fg_X3_22 fp_X3_3 xt_0 (Nat.le_of_ble_eq_true rfl) rfl rfl ?_
    refine z_heap xt_f1 ?_
    rw [upd_up9]
    refine z_iconst CX (v := 0) dX3_firstError_21 (by decide) ?_
    refine z_istore_n CX 1 dX3_firstError_22 rfl (by decide) ?_
    refine z_loc [(0, .ref (wB w + k)), (1, .int (nI 0))] ⟨rfl, rfl, trivial⟩ ?_
    exact LP 120 0 1 (upd s9 1 (nI 1)) d9 (by omega) (by omega) (by omega) h0 rfl
  · skip
    rw [show feA c9 len s9 d9 = ((0, false), upd s9 1 0, d9) from if_neg c_11]
    refine z_iconst CX (v := 0) dX3_firstError_14 (by decide) ?_
    exact z_iret CX dX3_firstError_15 rfl rfl rfl (Or.inl rfl)
