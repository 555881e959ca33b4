/-! the tournament: hooks, counts, numbers -/
def absM (v : Int32) : Int32 := if 0 ≤ v then v else 0 - v
theorem absM_e (v : Int32) : absM v = abI v := by
  unfold absM abI
  by_cases h : 0 ≤ v
  · rw [if_pos h, if_neg (Int32.not_lt.mpr h)]
  · rw [if_neg h, if_pos (Int32.not_le.mp h), Int32.zero_sub]
theorem abI_n {a b : Nat} (ha : a < 1000) (hb : b < 1000) : ∃ d, d < 1000 ∧ abI (nI a - nI b) = nI d := by
  unfold abI
  rcases Nat.lt_or_ge a b with h | h
  · rw [if_pos (pk_sneg (by omega) h)]
    refine ⟨b - a, by omega, ?_⟩
    rw [Int32.neg_sub, pk_sub (by omega)]
  · rw [pk_sub h, if_neg (nI_pos (by omega))]
    exact ⟨a - b, by omega, rfl⟩
/-- a hook at a wreck's gutter is at a cell of it: it is some cells off -/
theorem far_n {f : Nat → Int32} {o b : Nat} (hR : RIs f) (ho : o < 4) (hb : b < bN f) (hs : f (24 + 10 * b + 3) = 3) (hk : hkd f o b) : ∃ d, d < 1000 ∧ farF f o b = nI d := by
  have h6 := hR.1.2.1
  obtain ⟨g, c, L, a1, a2, a3, a4, a5, a6⟩ := hR.inC hb (Or.inr hs)
  rcases hR.2.2.2.2.2.1 o ho with ⟨q1, q2⟩ | ⟨g', c', L', q1, q2, q3, q4, q5, q6⟩
  · rw [hkd, q1, a2] at hk
    exact absurd hk.symm (nI_nm1 (by omega))
  · unfold farF
    rw [q3, a3]
    exact abI_n (by omega) (by omega)
def dstF (f : Nat → Int32) (o b : Nat) : Int32 := if f (134 + 3 * o + 1) = f (24 + 10 * b + 4) then farF f o b else -1
set_option maxHeartbeats 4000000 in
set_option maxRecDepth 100000 in
theorem t_hookD {l : Launch} {w : Wt} {hs : Hs} {n : Option Nat} {k : Nat} {f : Nat → Int32} {x : Int32} {z : Nat → Nat → Int32} (hR : RIs f) {o b : Nat} (ho : o < 4) (hb : b < bN f) (hs9 : f (24 + 10 * b + 3) = 3) : Cn l w mX4_hookDistance 0 0 [.ref (wB w + k), .int (nI o), .int (nI b)] (TH w hs k f x z) n (TH w hs k f x z) n (some (.int (dstF f o b))) := by
  have h9 := hR.2.2.1
  refine Cn.of (d := mX4_hookDistance) (by decide +kernel) (Nat.le_of_ble_eq_true rfl) ?_
  intro p e R s m args below meth c CX
  replace CX : Ctx p s m args meth c R w RX4 "hookDistance" cX4_hookDistance 3 (some .int) 1 23 0 0 := CX
  show ZW p l e R s m args below meth c w 3 _ _ 0 0 (MQ below (Qn w _ _ _) args s 0 0 (wA w)) 0 [(0, .ref (wB w + k)), (1, .int _), (2, .int _)] []
  refine z_aload_n CX 0 dX4_hookDistance_0 rfl rfl ?_
  refine z_get CX dX4_hookDistance_1 fg_X4_23 to_0 rfl ?_
  refine z_iload_n CX 1 dX4_hookDistance_4 rfl rfl ?_
  refine z_iconst CX (v := 1) dX4_hookDistance_5 (by decide) ?_
  refine z_callV1 CX dX4_hookDistance_6 cv_X4_71 (hO_at (b := o) (c := 1) (by omega) (by omega)) to_5 rfl rfl (Nat.le_of_ble_eq_true rfl) ⟨Nat.le_of_ble_eq_true rfl, Nat.le_of_ble_eq_true rfl⟩ ⟨Nat.le_refl _, Nat.le_refl _⟩ ?_
  refine z_aload_n CX 0 dX4_hookDistance_9 rfl rfl ?_
  refine z_get CX dX4_hookDistance_10 fg_X4_20 to_0 rfl ?_
  refine z_iload_n CX 2 dX4_hookDistance_13 rfl rfl ?_
  refine z_iconst CX (v := 4) dX4_hookDistance_14 (by decide) ?_
  refine z_callV1 CX dX4_hookDistance_15 cv_X4_71 (hB_4 hR hb (Or.inr hs9)) to_3 rfl rfl (Nat.le_of_ble_eq_true rfl) ⟨Nat.le_of_ble_eq_true rfl, Nat.le_of_ble_eq_true rfl⟩ ⟨Nat.le_refl _, Nat.le_refl _⟩ ?_
  refine z_icmp_eq CX 23 dX4_hookDistance_18 (by decide) (fun c_18 => ?_) (fun c_18 => ?_)
  · skip
    refine z_aload_n CX 0 dX4_hookDistance_23 rfl rfl ?_
    refine z_get CX dX4_hookDistance_24 fg_X4_23 to_0 rfl ?_
    refine z_iload_n CX 1 dX4_hookDistance_27 rfl rfl ?_
    refine z_iconst CX (v := 2) dX4_hookDistance_28 (by decide) ?_
    refine z_callV1 CX dX4_hookDistance_29 cv_X4_71 (hO_at (b := o) (c := 2) (by omega) (by omega)) to_5 rfl rfl (Nat.le_of_ble_eq_true rfl) ⟨Nat.le_of_ble_eq_true rfl, Nat.le_of_ble_eq_true rfl⟩ ⟨Nat.le_refl _, Nat.le_refl _⟩ ?_
    refine z_aload_n CX 0 dX4_hookDistance_32 rfl rfl ?_
    refine z_get CX dX4_hookDistance_33 fg_X4_20 to_0 rfl ?_
    refine z_iload_n CX 2 dX4_hookDistance_36 rfl rfl ?_
    refine z_iconst CX (v := 5) dX4_hookDistance_37 (by decide) ?_
    refine z_callV1 CX dX4_hookDistance_38 cv_X4_71 (hB_5 hR hb (Or.inr hs9)) to_3 rfl rfl (Nat.le_of_ble_eq_true rfl) ⟨Nat.le_of_ble_eq_true rfl, Nat.le_of_ble_eq_true rfl⟩ ⟨Nat.le_refl _, Nat.le_refl _⟩ ?_
    refine z_isub CX dX4_hookDistance_41 ?_
    refine z_abs CX dX4_hookDistance_42 (wa_mem 468 (by decide +kernel) rfl) (wa_mem 469 (by decide +kernel) rfl) (wa_mem 5 (by decide +kernel) rfl) (wa_mem 470 (by decide +kernel) rfl) (by decide) (Nat.le_of_ble_eq_true rfl) (Nat.zero_le _) (Nat.zero_le _) ?_
    exact z_iret CX dX4_hookDistance_45 rfl (congrArg Value.int (by unfold dstF; rw [if_pos c_18]; exact ((absM_e _).symm : abI _ = absM _))) rfl (Or.inl rfl)
  · skip
    refine z_iconst CX (v := (-1 : Int32)) dX4_hookDistance_21 (by decide) ?_
    exact z_iret CX dX4_hookDistance_22 rfl (congrArg Value.int (by unfold dstF; rw [if_neg c_18])) rfl (Or.inl rfl)
theorem dst_1 {f : Nat → Int32} {o b : Nat} (h : hkd f o b) : dstF f o b = farF f o b := if_pos h
theorem dst_0 {f : Nat → Int32} {o b : Nat} (h : ¬ hkd f o b) : dstF f o b = -1 := if_neg h
theorem rs_n {f : Nat → Int32} {q b : Nat} (hR : RIs f) (hq : q < 4) (hb : b < bN f) (hs : f (24 + 10 * b + 3) = 3) (hk : hkd f q b) (h : dstF f q b = -1) : False := by
  obtain ⟨d, d1, d2⟩ := far_n hR hq hb hs hk
  rw [dst_1 hk, d2] at h
  exact nI_nm1 (by omega) h
theorem rs_m {f : Nat → Int32} {q b : Nat} {x : Int32} (hk : hkd f q b) (h : farF f q b < x) : dstF f q b < x := by rw [dst_1 hk]; exact h
theorem rs_y {f : Nat → Int32} {q o b : Nat} (hR : RIs f) (hk : hkd f o b) (ho : o < 4) (hb : b < bN f) (hs : f (24 + 10 * b + 3) = 3) (h1 : ¬ dstF f q b = -1) (h2 : ¬ farF f o b ≤ dstF f q b) : q ≠ o ∧ hkd f q b ∧ farF f q b < farF f o b := by
  have hk2 : hkd f q b := Decidable.byContradiction (fun z => h1 (dst_0 z))
  rw [dst_1 hk2] at h2
  refine ⟨fun e => ?_, hk2, Int32.not_le.mp h2⟩
  rw [e] at h2
  exact h2 (Int32.le_refl _)
set_option maxHeartbeats 4000000 in
set_option maxRecDepth 100000 in
theorem t_why {l : Launch} {w : Wt} {hs : Hs} {n : Option Nat} {k : Nat} {f : Nat → Int32} {x : Int32} {z : Nat → Nat → Int32} (hR : RIs f) {o b : Nat} (ho : o < 4) (hb : b < bN f) : Cn l w mX4_reasonAgainst 0 0 [.ref (wB w + k), .int (nI o), .int (nI b)] (TH w hs k f x z) n (TH w hs k f x z) n (some (.int (whyF f o b))) := by
  have h9 := hR.2.2.1
  by_cases hs9 : f (24 + 10 * b + 3) = 3
  · by_cases hk : hkd f o b
    · obtain ⟨d9, d1, d2⟩ := far_n hR ho hb hs9 hk
      by_cases hfar : f 156 < farF f o b
      · skip
        refine Cn.of (d := mX4_reasonAgainst) (by decide +kernel) (Nat.le_of_ble_eq_true rfl) ?_
        intro p e R s m args below meth c CX
        replace CX : Ctx p s m args meth c R w RX4 "reasonAgainst" cX4_reasonAgainst 6 (some .int) 2 45 0 0 := CX
        show ZW p l e R s m args below meth c w 6 _ _ 0 0 (MQ below (Qn w _ _ _) args s 0 0 (wA w)) 0 [(0, .ref (wB w + k)), (1, .int _), (2, .int _)] []
        refine z_aload_n CX 0 dX4_reasonAgainst_0 rfl rfl ?_
        refine z_get CX dX4_reasonAgainst_1 fg_X4_20 to_0 rfl ?_
        refine z_iload_n CX 2 dX4_reasonAgainst_4 rfl rfl ?_
        refine z_iconst CX (v := 3) dX4_reasonAgainst_5 (by decide) ?_
        refine z_callV1 CX dX4_reasonAgainst_6 cv_X4_71 (hB_o hR (b := b) (c := 3) (by omega) (by omega) (by decide)) to_3 rfl rfl (Nat.le_of_ble_eq_true rfl) ⟨Nat.le_of_ble_eq_true rfl, Nat.le_of_ble_eq_true rfl⟩ ⟨Nat.le_refl _, Nat.le_refl _⟩ ?_
        refine z_iconst CX (v := 3) dX4_reasonAgainst_9 (by decide) ?_
        refine z_icmp_eq CX 15 dX4_reasonAgainst_10 (by decide) (fun _ => ?_) (fun q9 => absurd hs9 q9)
        refine z_aload_n CX 0 dX4_reasonAgainst_15 rfl rfl ?_
        refine z_iload_n CX 1 dX4_reasonAgainst_16 rfl rfl ?_
        refine z_iload_n CX 2 dX4_reasonAgainst_17 rfl rfl ?_
        refine z_callV1 CX dX4_reasonAgainst_18 cv_X4_173 (t_hookD hR (o := o) (b := b) (by omega) hb hs9) to_0 rfl rfl (Nat.le_of_ble_eq_true rfl) ⟨Nat.le_of_ble_eq_true rfl, Nat.le_of_ble_eq_true rfl⟩ ⟨Nat.le_refl _, Nat.le_refl _⟩ ?_
        refine z_istore_n CX 3 dX4_reasonAgainst_21 rfl (by decide) ?_
        rw [dst_1 hk]
        refine z_iload_n CX 3 dX4_reasonAgainst_22 rfl rfl ?_
        refine z_iconst CX (v := (-1 : Int32)) dX4_reasonAgainst_23 (by decide) ?_
        refine z_icmp_eq CX 35 dX4_reasonAgainst_24 (by decide) (fun q9 => absurd q9 (by rw [d2]; exact nI_nm1 (by omega))) (fun _ => ?_)
        refine z_iload_n CX 3 dX4_reasonAgainst_27 rfl rfl ?_
        refine z_aload_n CX 0 dX4_reasonAgainst_28 rfl rfl ?_
        refine z_get CX dX4_reasonAgainst_29 fg_X4_47 to_0 rfl ?_
        refine z_icmp_le CX 37 dX4_reasonAgainst_32 (by decide) (fun q9 => absurd q9 (Int32.not_le.mpr hfar)) (fun _ => ?_)
        refine z_iconst CX (v := 2) dX4_reasonAgainst_35 (by decide) ?_
        exact z_iret CX dX4_reasonAgainst_36 rfl (congrArg Value.int (by unfold whyF; rw [if_neg (fun z => z hs9), if_pos (Or.inr hfar)])) rfl (Or.inl rfl)
      · have hn2 : ¬ (¬ hkd f o b ∨ f 156 < farF f o b) := fun z => z.elim (fun y => y hk) hfar
        refine Cn.of (d := mX4_reasonAgainst) (by decide +kernel) (Nat.le_of_ble_eq_true rfl) ?_
        intro p e R s m args below meth c CX
        replace CX : Ctx p s m args meth c R w RX4 "reasonAgainst" cX4_reasonAgainst 6 (some .int) 2 45 0 0 := CX
        show ZW p l e R s m args below meth c w 6 _ _ 0 0 (MQ below (Qn w _ _ _) args s 0 0 (wA w)) 0 [(0, .ref (wB w + k)), (1, .int _), (2, .int _)] []
        have LP : ∀ (j i : Nat), i + j = 4 → anyN (fun q => decide (q ≠ o ∧ hkd f q b ∧ farF f q b < farF f o b)) i = false → ZW p l e R s m args below meth c w 6 (TH w hs k f x z) n 0 0 (MQ below (Qn w (TH w hs k f x z) n (some (.int (whyF f o b)))) args s 0 0 (wA w)) 40 [(0, .ref (wB w + k)), (1, .int (nI o)), (2, .int (nI b)), (3, .int (farF f o b)), (4, .int (nI i))] [] := by
          intro j
          induction j with
          | zero =>
            intro i hi hn
            have hi9 : i = 4 := by omega
            subst hi9
            refine z_iload CX dX4_reasonAgainst_40 rfl ?_
            refine z_iconst CX (v := 4) dX4_reasonAgainst_42 (by decide) ?_
            refine z_icmp_ge CX 75 dX4_reasonAgainst_43 (by decide) (fun _ => ?_) (fun q9 => absurd (by decide) q9)
            refine z_iconst CX (v := 0) dX4_reasonAgainst_75 (by decide) ?_
            exact z_iret CX dX4_reasonAgainst_76 rfl (congrArg Value.int (by unfold whyF; rw [if_neg (fun z => z hs9), if_neg hn2, if_neg (fun z => absurd ((show nrr f o b = false from hn).symm.trans z) (by decide))])) rfl (Or.inl rfl)
          | succ j ih =>
            intro i hi hn
            refine z_iload CX dX4_reasonAgainst_40 rfl ?_
            refine z_iconst CX (v := 4) dX4_reasonAgainst_42 (by decide) ?_
            refine z_icmp_ge CX 75 dX4_reasonAgainst_43 (by decide) (fun q9 => absurd q9 (nI_ge (b := 4) (by omega) (by omega))) (fun _ => ?_)
            refine z_aload_n CX 0 dX4_reasonAgainst_46 rfl rfl ?_
            refine z_iload CX dX4_reasonAgainst_47 rfl ?_
            refine z_iload_n CX 2 dX4_reasonAgainst_49 rfl rfl ?_
            refine z_callV1 CX dX4_reasonAgainst_50 cv_X4_173 (t_hookD hR (o := i) (b := b) (by omega) hb hs9) to_0 rfl rfl (Nat.le_of_ble_eq_true rfl) ⟨Nat.le_of_ble_eq_true rfl, Nat.le_of_ble_eq_true rfl⟩ ⟨Nat.le_refl _, Nat.le_refl _⟩ ?_
            refine z_istore CX dX4_reasonAgainst_53 (by decide) ?_
            refine z_iload CX dX4_reasonAgainst_55 rfl ?_
            refine z_iconst CX (v := (-1 : Int32)) dX4_reasonAgainst_57 (by decide) ?_
            refine z_icmp_eq CX 69 dX4_reasonAgainst_58 (by decide) (fun c_58 => ?_) (fun c_58 => ?_)
            · skip
              refine z_iinc CX (v := nI (i + 1)) dX4_reasonAgainst_69 rfl (nI_1 i) (by decide) ?_
              refine z_goto CX 40 dX4_reasonAgainst_72 (by decide) ?_
              refine z_loc [(0, .ref (wB w + k)), (1, .int (nI o)), (2, .int (nI b)), (3, .int (farF f o b)), (4, .int (nI (i + 1)))] ⟨rfl, rfl, rfl, rfl, rfl, trivial⟩ ?_
              exact ih (i + 1) (by omega) (anyN_f hn (decide_eq_false (fun q => rs_n hR (by omega) hb hs9 q.2.1 c_58)))
            · skip
              refine z_iload CX dX4_reasonAgainst_61 rfl ?_
              refine z_iload_n CX 3 dX4_reasonAgainst_63 rfl rfl ?_
              refine z_icmp_ge CX 69 dX4_reasonAgainst_64 (by decide) (fun c_64 => ?_) (fun c_64 => ?_)
              · skip
                refine z_iinc CX (v := nI (i + 1)) dX4_reasonAgainst_69 rfl (nI_1 i) (by decide) ?_
                refine z_goto CX 40 dX4_reasonAgainst_72 (by decide) ?_
                refine z_loc [(0, .ref (wB w + k)), (1, .int (nI o)), (2, .int (nI b)), (3, .int (farF f o b)), (4, .int (nI (i + 1)))] ⟨rfl, rfl, rfl, rfl, rfl, trivial⟩ ?_
                exact ih (i + 1) (by omega) (anyN_f hn (decide_eq_false (fun q => absurd (rs_m q.2.1 q.2.2) (Int32.not_lt.mpr c_64))))
              · skip
                refine z_iconst CX (v := 3) dX4_reasonAgainst_67 (by decide) ?_
                exact z_iret CX dX4_reasonAgainst_68 rfl (congrArg Value.int (by unfold whyF; rw [if_neg (fun z => z hs9), if_neg hn2, if_pos (show nrr f o b = true from (anyN_iff _ _).mpr ⟨i, by omega, decide_eq_true (rs_y hR hk ho hb hs9 c_58 c_64)⟩)])) rfl (Or.inl rfl)
        refine z_aload_n CX 0 dX4_reasonAgainst_0 rfl rfl ?_
        refine z_get CX dX4_reasonAgainst_1 fg_X4_20 to_0 rfl ?_
        refine z_iload_n CX 2 dX4_reasonAgainst_4 rfl rfl ?_
        refine z_iconst CX (v := 3) dX4_reasonAgainst_5 (by decide) ?_
        refine z_callV1 CX dX4_reasonAgainst_6 cv_X4_71 (hB_o hR (b := b) (c := 3) (by omega) (by omega) (by decide)) to_3 rfl rfl (Nat.le_of_ble_eq_true rfl) ⟨Nat.le_of_ble_eq_true rfl, Nat.le_of_ble_eq_true rfl⟩ ⟨Nat.le_refl _, Nat.le_refl _⟩ ?_
        refine z_iconst CX (v := 3) dX4_reasonAgainst_9 (by decide) ?_
        refine z_icmp_eq CX 15 dX4_reasonAgainst_10 (by decide) (fun _ => ?_) (fun q9 => absurd hs9 q9)
        refine z_aload_n CX 0 dX4_reasonAgainst_15 rfl rfl ?_
        refine z_iload_n CX 1 dX4_reasonAgainst_16 rfl rfl ?_
        refine z_iload_n CX 2 dX4_reasonAgainst_17 rfl rfl ?_
        refine z_callV1 CX dX4_reasonAgainst_18 cv_X4_173 (t_hookD hR (o := o) (b := b) (by omega) hb hs9) to_0 rfl rfl (Nat.le_of_ble_eq_true rfl) ⟨Nat.le_of_ble_eq_true rfl, Nat.le_of_ble_eq_true rfl⟩ ⟨Nat.le_refl _, Nat.le_refl _⟩ ?_
        refine z_istore_n CX 3 dX4_reasonAgainst_21 rfl (by decide) ?_
        rw [dst_1 hk]
        refine z_iload_n CX 3 dX4_reasonAgainst_22 rfl rfl ?_
        refine z_iconst CX (v := (-1 : Int32)) dX4_reasonAgainst_23 (by decide) ?_
        refine z_icmp_eq CX 35 dX4_reasonAgainst_24 (by decide) (fun q9 => absurd q9 (by rw [d2]; exact nI_nm1 (by omega))) (fun _ => ?_)
        refine z_iload_n CX 3 dX4_reasonAgainst_27 rfl rfl ?_
        refine z_aload_n CX 0 dX4_reasonAgainst_28 rfl rfl ?_
        refine z_get CX dX4_reasonAgainst_29 fg_X4_47 to_0 rfl ?_
        refine z_icmp_le CX 37 dX4_reasonAgainst_32 (by decide) (fun _ => ?_) (fun q9 => absurd (Int32.not_lt.mp hfar) q9)
        refine z_iconst CX (v := 0) dX4_reasonAgainst_37 (by decide) ?_
        refine z_istore CX dX4_reasonAgainst_38 (by decide) ?_
        refine z_loc [(0, .ref (wB w + k)), (1, .int (nI o)), (2, .int (nI b)), (3, .int (farF f o b)), (4, .int (nI 0))] ⟨rfl, rfl, rfl, rfl, rfl, trivial⟩ ?_
        exact LP 4 0 (by omega) rfl
    · skip
      refine Cn.of (d := mX4_reasonAgainst) (by decide +kernel) (Nat.le_of_ble_eq_true rfl) ?_
      intro p e R s m args below meth c CX
      replace CX : Ctx p s m args meth c R w RX4 "reasonAgainst" cX4_reasonAgainst 6 (some .int) 2 45 0 0 := CX
      show ZW p l e R s m args below meth c w 6 _ _ 0 0 (MQ below (Qn w _ _ _) args s 0 0 (wA w)) 0 [(0, .ref (wB w + k)), (1, .int _), (2, .int _)] []
      refine z_aload_n CX 0 dX4_reasonAgainst_0 rfl rfl ?_
      refine z_get CX dX4_reasonAgainst_1 fg_X4_20 to_0 rfl ?_
      refine z_iload_n CX 2 dX4_reasonAgainst_4 rfl rfl ?_
      refine z_iconst CX (v := 3) dX4_reasonAgainst_5 (by decide) ?_
      refine z_callV1 CX dX4_reasonAgainst_6 cv_X4_71 (hB_o hR (b := b) (c := 3) (by omega) (by omega) (by decide)) to_3 rfl rfl (Nat.le_of_ble_eq_true rfl) ⟨Nat.le_of_ble_eq_true rfl, Nat.le_of_ble_eq_true rfl⟩ ⟨Nat.le_refl _, Nat.le_refl _⟩ ?_
      refine z_iconst CX (v := 3) dX4_reasonAgainst_9 (by decide) ?_
      refine z_icmp_eq CX 15 dX4_reasonAgainst_10 (by decide) (fun _ => ?_) (fun q9 => absurd hs9 q9)
      refine z_aload_n CX 0 dX4_reasonAgainst_15 rfl rfl ?_
      refine z_iload_n CX 1 dX4_reasonAgainst_16 rfl rfl ?_
      refine z_iload_n CX 2 dX4_reasonAgainst_17 rfl rfl ?_
      refine z_callV1 CX dX4_reasonAgainst_18 cv_X4_173 (t_hookD hR (o := o) (b := b) (by omega) hb hs9) to_0 rfl rfl (Nat.le_of_ble_eq_true rfl) ⟨Nat.le_of_ble_eq_true rfl, Nat.le_of_ble_eq_true rfl⟩ ⟨Nat.le_refl _, Nat.le_refl _⟩ ?_
      refine z_istore_n CX 3 dX4_reasonAgainst_21 rfl (by decide) ?_
      rw [dst_0 hk]
      refine z_iload_n CX 3 dX4_reasonAgainst_22 rfl rfl ?_
      refine z_iconst CX (v := (-1 : Int32)) dX4_reasonAgainst_23 (by decide) ?_
      refine z_icmp_eq CX 35 dX4_reasonAgainst_24 (by decide) (fun _ => ?_) (fun q9 => absurd rfl q9)
      refine z_iconst CX (v := 2) dX4_reasonAgainst_35 (by decide) ?_
      exact z_iret CX dX4_reasonAgainst_36 rfl (congrArg Value.int (by unfold whyF; rw [if_neg (fun z => z hs9), if_pos (Or.inl hk)])) rfl (Or.inl rfl)
  · skip
    refine Cn.of (d := mX4_reasonAgainst) (by decide +kernel) (Nat.le_of_ble_eq_true rfl) ?_
    intro p e R s m args below meth c CX
    replace CX : Ctx p s m args meth c R w RX4 "reasonAgainst" cX4_reasonAgainst 6 (some .int) 2 45 0 0 := CX
    show ZW p l e R s m args below meth c w 6 _ _ 0 0 (MQ below (Qn w _ _ _) args s 0 0 (wA w)) 0 [(0, .ref (wB w + k)), (1, .int _), (2, .int _)] []
    refine z_aload_n CX 0 dX4_reasonAgainst_0 rfl rfl ?_
    refine z_get CX dX4_reasonAgainst_1 fg_X4_20 to_0 rfl ?_
    refine z_iload_n CX 2 dX4_reasonAgainst_4 rfl rfl ?_
    refine z_iconst CX (v := 3) dX4_reasonAgainst_5 (by decide) ?_
    refine z_callV1 CX dX4_reasonAgainst_6 cv_X4_71 (hB_o hR (b := b) (c := 3) (by omega) (by omega) (by decide)) to_3 rfl rfl (Nat.le_of_ble_eq_true rfl) ⟨Nat.le_of_ble_eq_true rfl, Nat.le_of_ble_eq_true rfl⟩ ⟨Nat.le_refl _, Nat.le_refl _⟩ ?_
    refine z_iconst CX (v := 3) dX4_reasonAgainst_9 (by decide) ?_
    refine z_icmp_eq CX 15 dX4_reasonAgainst_10 (by decide) (fun q9 => absurd q9 hs9) (fun _ => ?_)
    refine z_iconst CX (v := 1) dX4_reasonAgainst_13 (by decide) ?_
    exact z_iret CX dX4_reasonAgainst_14 rfl (congrArg Value.int (by unfold whyF; rw [if_pos hs9])) rfl (Or.inl rfl)
set_option maxHeartbeats 4000000 in
set_option maxRecDepth 100000 in
theorem t_clb {l : Launch} {w : Wt} {hs : Hs} {n : Option Nat} {k : Nat} {f : Nat → Int32} {x : Int32} {z : Nat → Nat → Int32} (hR : RIs f) {o : Nat} (ho : o < 4) : Cn l w mX4_countClaimable 0 0 [.ref (wB w + k), .int (nI o)] (TH w hs k f x z) n (TH w hs k f x z) n (some (.int (nI (clbF f (bN f) o)))) := by
  refine Cn.of (d := mX4_countClaimable) (by decide +kernel) (Nat.le_of_ble_eq_true rfl) ?_
  intro p e R s m args below meth c CX
  replace CX : Ctx p s m args meth c R w RX4 "countClaimable" cX4_countClaimable 4 (some .int) 3 70 0 0 := CX
  show ZW p l e R s m args below meth c w 4 _ _ 0 0 (MQ below (Qn w _ _ _) args s 0 0 (wA w)) 0 [(0, .ref (wB w + k)), (1, .int _)] []
  have h9 := hR.2.2.1
  have LP : ∀ (j i : Nat), i + j = bN f → ZW p l e R s m args below meth c w 4 (TH w hs k f x z) n 0 0 (MQ below (Qn w (TH w hs k f x z) n (some (.int (nI (cntN (fun b => decide (whyF f o b = 0)) (bN f)))))) args s 0 0 (wA w)) 4 [(0, .ref (wB w + k)), (1, .int (nI o)), (2, .int (nI (cntN (fun b => decide (whyF f o b = 0)) i))), (3, .int (nI i))] [] := by
    intro j
    induction j with
    | zero =>
      intro i hi
      refine z_iload_n CX 3 dX4_countClaimable_4 rfl rfl ?_
      refine z_aload_n CX 0 dX4_countClaimable_5 rfl rfl ?_
      refine z_get CX dX4_countClaimable_6 fg_X4_20 to_0 rfl ?_
      refine z_get CX dX4_countClaimable_9 fg_X4_29 to_3 rfl ?_
      refine z_icmp_ge CX 33 dX4_countClaimable_12 (by decide) (fun _ => ?_) (fun q9 => absurd (show nI (bN f) ≤ nI i from nI_le (by omega) (by omega)) q9)
      refine z_iload_n CX 2 dX4_countClaimable_33 rfl rfl ?_
      exact z_iret CX dX4_countClaimable_34 rfl (by rw [show i = bN f by omega]) rfl (Or.inl rfl)
    | succ j ih =>
      intro i hi
      refine z_iload_n CX 3 dX4_countClaimable_4 rfl rfl ?_
      refine z_aload_n CX 0 dX4_countClaimable_5 rfl rfl ?_
      refine z_get CX dX4_countClaimable_6 fg_X4_20 to_0 rfl ?_
      refine z_get CX dX4_countClaimable_9 fg_X4_29 to_3 rfl ?_
      refine z_icmp_ge CX 33 dX4_countClaimable_12 (by decide) (fun q9 => absurd q9 (show ¬ nI (bN f) ≤ nI i from nI_ge (by omega) (by omega))) (fun _ => ?_)
      refine z_aload_n CX 0 dX4_countClaimable_15 rfl rfl ?_
      refine z_iload_n CX 1 dX4_countClaimable_16 rfl rfl ?_
      refine z_iload_n CX 3 dX4_countClaimable_17 rfl rfl ?_
      refine z_callV1 CX dX4_countClaimable_18 cv_X4_121 (t_why hR (o := o) (b := i) (by omega) (by omega)) to_0 rfl rfl (Nat.le_of_ble_eq_true rfl) ⟨Nat.le_of_ble_eq_true rfl, Nat.le_of_ble_eq_true rfl⟩ ⟨Nat.le_refl _, Nat.le_refl _⟩ ?_
      refine z_if_ne CX 27 dX4_countClaimable_21 (by decide) (fun c_21 => ?_) (fun c_21 => ?_)
      · skip
        refine z_iinc CX (v := nI (i + 1)) dX4_countClaimable_27 rfl (nI_1 i) (by decide) ?_
        refine z_goto CX 4 dX4_countClaimable_30 (by decide) ?_
        refine z_loc [(0, .ref (wB w + k)), (1, .int (nI o)), (2, .int (nI (cntN (fun b => decide (whyF f o b = 0)) (i + 1)))), (3, .int (nI (i + 1)))] ⟨rfl, rfl, congrArg (fun z => some (Value.int z)) (by show nI (cntN _ i) = nI (cntN _ i + _); simp [c_21]), rfl, trivial⟩ ?_
        exact ih (i + 1) (by omega)
      · skip
        refine z_iinc CX (v := nI (cntN (fun b => decide (whyF f o b = 0)) i + 1)) dX4_countClaimable_24 rfl (nI_1 _) (by decide) ?_
        refine z_iinc CX (v := nI (i + 1)) dX4_countClaimable_27 rfl (nI_1 i) (by decide) ?_
        refine z_goto CX 4 dX4_countClaimable_30 (by decide) ?_
        refine z_loc [(0, .ref (wB w + k)), (1, .int (nI o)), (2, .int (nI (cntN (fun b => decide (whyF f o b = 0)) (i + 1)))), (3, .int (nI (i + 1)))] ⟨rfl, rfl, congrArg (fun z => some (Value.int z)) (by show nI (cntN _ i + 1) = nI (cntN _ i + _); simp [c_21]), rfl, trivial⟩ ?_
        exact ih (i + 1) (by omega)
  refine z_iconst CX (v := 0) dX4_countClaimable_0 (by decide) ?_
  refine z_istore_n CX 2 dX4_countClaimable_1 rfl (by decide) ?_
  refine z_iconst CX (v := 0) dX4_countClaimable_2 (by decide) ?_
  refine z_istore_n CX 3 dX4_countClaimable_3 rfl (by decide) ?_
  refine z_loc [(0, .ref (wB w + k)), (1, .int (nI o)), (2, .int (nI (cntN (fun b => decide (whyF f o b = 0)) 0))), (3, .int (nI 0))] ⟨rfl, rfl, rfl, rfl, trivial⟩ ?_
  exact LP (bN f) 0 (by omega)
set_option maxHeartbeats 4000000 in
set_option maxRecDepth 100000 in
theorem t_cig {l : Launch} {w : Wt} {hs : Hs} {n : Option Nat} {k : Nat} {f : Nat → Int32} {x : Int32} {z : Nat → Nat → Int32} (hR : RIs f) (y v : Int32) (hv : v = 1 ∨ v = 3) : Cn l w mX4_countInGutter 0 0 [.ref (wB w + k), .int y, .int v] (TH w hs k f x z) n (TH w hs k f x z) n (some (.int (nI (igF f (bN f) y v)))) := by
  refine Cn.of (d := mX4_countInGutter) (by decide +kernel) (Nat.le_of_ble_eq_true rfl) ?_
  intro p e R s m args below meth c CX
  replace CX : Ctx p s m args meth c R w RX4 "countInGutter" cX4_countInGutter 5 (some .int) 1 23 0 0 := CX
  show ZW p l e R s m args below meth c w 5 _ _ 0 0 (MQ below (Qn w _ _ _) args s 0 0 (wA w)) 0 [(0, .ref (wB w + k)), (1, .int _), (2, .int _)] []
  have h9 := hR.2.2.1
  have LP : ∀ (j i : Nat), i + j = bN f → ZW p l e R s m args below meth c w 5 (TH w hs k f x z) n 0 0 (MQ below (Qn w (TH w hs k f x z) n (some (.int (nI (cntN (fun b => decide (f (24 + 10 * b + 3) = v ∧ f (24 + 10 * b + 4) = y)) (bN f)))))) args s 0 0 (wA w)) 5 [(0, .ref (wB w + k)), (1, .int y), (2, .int v), (3, .int (nI (cntN (fun b => decide (f (24 + 10 * b + 3) = v ∧ f (24 + 10 * b + 4) = y)) i))), (4, .int (nI i))] [] := by
    intro j
    induction j with
    | zero =>
      intro i hi
      refine z_iload CX dX4_countInGutter_5 rfl ?_
      refine z_aload_n CX 0 dX4_countInGutter_7 rfl rfl ?_
      refine z_get CX dX4_countInGutter_8 fg_X4_20 to_0 rfl ?_
      refine z_get CX dX4_countInGutter_11 fg_X4_29 to_3 rfl ?_
      refine z_icmp_ge CX 54 dX4_countInGutter_14 (by decide) (fun _ => ?_) (fun q9 => absurd (show nI (bN f) ≤ nI i from nI_le (by omega) (by omega)) q9)
      refine z_iload_n CX 3 dX4_countInGutter_54 rfl rfl ?_
      exact z_iret CX dX4_countInGutter_55 rfl (by rw [show i = bN f by omega]) rfl (Or.inl rfl)
    | succ j ih =>
      intro i hi
      refine z_iload CX dX4_countInGutter_5 rfl ?_
      refine z_aload_n CX 0 dX4_countInGutter_7 rfl rfl ?_
      refine z_get CX dX4_countInGutter_8 fg_X4_20 to_0 rfl ?_
      refine z_get CX dX4_countInGutter_11 fg_X4_29 to_3 rfl ?_
      refine z_icmp_ge CX 54 dX4_countInGutter_14 (by decide) (fun q9 => absurd q9 (show ¬ nI (bN f) ≤ nI i from nI_ge (by omega) (by omega))) (fun _ => ?_)
      refine z_aload_n CX 0 dX4_countInGutter_17 rfl rfl ?_
      refine z_get CX dX4_countInGutter_18 fg_X4_20 to_0 rfl ?_
      refine z_iload CX dX4_countInGutter_21 rfl ?_
      refine z_iconst CX (v := 3) dX4_countInGutter_23 (by decide) ?_
      refine z_callV1 CX dX4_countInGutter_24 cv_X4_71 (hB_o hR (b := i) (c := 3) (by omega) (by omega) (by decide)) to_3 rfl rfl (Nat.le_of_ble_eq_true rfl) ⟨Nat.le_of_ble_eq_true rfl, Nat.le_of_ble_eq_true rfl⟩ ⟨Nat.le_refl _, Nat.le_refl _⟩ ?_
      refine z_iload_n CX 2 dX4_countInGutter_27 rfl rfl ?_
      refine z_icmp_ne CX 48 dX4_countInGutter_28 (by decide) (fun c_28 => ?_) (fun c_28 => ?_)
      · skip
        refine z_iinc CX (v := nI (i + 1)) dX4_countInGutter_48 rfl (nI_1 i) (by decide) ?_
        refine z_goto CX 5 dX4_countInGutter_51 (by decide) ?_
        refine z_loc [(0, .ref (wB w + k)), (1, .int y), (2, .int v), (3, .int (nI (cntN (fun b => decide (f (24 + 10 * b + 3) = v ∧ f (24 + 10 * b + 4) = y)) (i + 1)))), (4, .int (nI (i + 1)))] ⟨rfl, rfl, rfl, congrArg (fun z => some (Value.int z)) (by show nI (cntN _ i) = nI (cntN _ i + _); simp [c_28]), rfl, trivial⟩ ?_
        exact ih (i + 1) (by omega)
      · skip
        refine z_aload_n CX 0 dX4_countInGutter_31 rfl rfl ?_
        refine z_get CX dX4_countInGutter_32 fg_X4_20 to_0 rfl ?_
        refine z_iload CX dX4_countInGutter_35 rfl ?_
        refine z_iconst CX (v := 4) dX4_countInGutter_37 (by decide) ?_
        refine z_callV1 CX dX4_countInGutter_38 cv_X4_71 (hB_4 hR (b := i) (by omega) (hv.imp (fun q => c_28.trans q) (fun q => c_28.trans q))) to_3 rfl rfl (Nat.le_of_ble_eq_true rfl) ⟨Nat.le_of_ble_eq_true rfl, Nat.le_of_ble_eq_true rfl⟩ ⟨Nat.le_refl _, Nat.le_refl _⟩ ?_
        refine z_iload_n CX 1 dX4_countInGutter_41 rfl rfl ?_
        refine z_icmp_ne CX 48 dX4_countInGutter_42 (by decide) (fun c_42 => ?_) (fun c_42 => ?_)
        · skip
          refine z_iinc CX (v := nI (i + 1)) dX4_countInGutter_48 rfl (nI_1 i) (by decide) ?_
          refine z_goto CX 5 dX4_countInGutter_51 (by decide) ?_
          refine z_loc [(0, .ref (wB w + k)), (1, .int y), (2, .int v), (3, .int (nI (cntN (fun b => decide (f (24 + 10 * b + 3) = v ∧ f (24 + 10 * b + 4) = y)) (i + 1)))), (4, .int (nI (i + 1)))] ⟨rfl, rfl, rfl, congrArg (fun z => some (Value.int z)) (by show nI (cntN _ i) = nI (cntN _ i + _); simp [c_28, c_42]), rfl, trivial⟩ ?_
          exact ih (i + 1) (by omega)
        · skip
          refine z_iinc CX (v := nI (cntN (fun b => decide (f (24 + 10 * b + 3) = v ∧ f (24 + 10 * b + 4) = y)) i + 1)) dX4_countInGutter_45 rfl (nI_1 _) (by decide) ?_
          refine z_iinc CX (v := nI (i + 1)) dX4_countInGutter_48 rfl (nI_1 i) (by decide) ?_
          refine z_goto CX 5 dX4_countInGutter_51 (by decide) ?_
          refine z_loc [(0, .ref (wB w + k)), (1, .int y), (2, .int v), (3, .int (nI (cntN (fun b => decide (f (24 + 10 * b + 3) = v ∧ f (24 + 10 * b + 4) = y)) (i + 1)))), (4, .int (nI (i + 1)))] ⟨rfl, rfl, rfl, congrArg (fun z => some (Value.int z)) (by show nI (cntN _ i + 1) = nI (cntN _ i + _); simp [c_28, c_42]), rfl, trivial⟩ ?_
          exact ih (i + 1) (by omega)
  refine z_iconst CX (v := 0) dX4_countInGutter_0 (by decide) ?_
  refine z_istore_n CX 3 dX4_countInGutter_1 rfl (by decide) ?_
  refine z_iconst CX (v := 0) dX4_countInGutter_2 (by decide) ?_
  refine z_istore CX dX4_countInGutter_3 (by decide) ?_
  refine z_loc [(0, .ref (wB w + k)), (1, .int y), (2, .int v), (3, .int (nI (cntN (fun b => decide (f (24 + 10 * b + 3) = v ∧ f (24 + 10 * b + 4) = y)) 0))), (4, .int (nI 0))] ⟨rfl, rfl, rfl, rfl, rfl, trivial⟩ ?_
  exact LP (bN f) 0 (by omega)
set_option maxHeartbeats 4000000 in
set_option maxRecDepth 100000 in
theorem t_lowW {l : Launch} {w : Wt} {hs : Hs} {n : Option Nat} {k : Nat} {f : Nat → Int32} {x : Int32} {z : Nat → Nat → Int32} (hR : RIs f) {g9 L : Nat} (hg : g9 < gN f) (hL : f (4 * g9 + 0) = nI L) (h40 : L ≤ 40) : Cn l w mX4_lowestWreck 0 0 [.ref (wB w + k), .int (nI g9)] (TH w hs k f x z) n (TH w hs k f x z) n (some (.int (lwR f (bN f) (nI g9) L 0))) := by
  refine Cn.of (d := mX4_lowestWreck) (by decide +kernel) (Nat.le_of_ble_eq_true rfl) ?_
  intro p e R s m args below meth c CX
  replace CX : Ctx p s m args meth c R w RX4 "lowestWreck" cX4_lowestWreck 3 (some .int) 2 46 0 0 := CX
  show ZW p l e R s m args below meth c w 3 _ _ 0 0 (MQ below (Qn w _ _ _) args s 0 0 (wA w)) 0 [(0, .ref (wB w + k)), (1, .int _)] []
  have h9 := hR.2.2.1
  have h6 := hR.1.2.1
  have LP : ∀ (j i : Nat) (v : Int32), i + j = L → v = lwR f (bN f) (nI g9) j i → ZW p l e R s m args below meth c w 3 (TH w hs k f x z) n 0 0 (MQ below (Qn w (TH w hs k f x z) n (some (.int v))) args s 0 0 (wA w)) 2 [(0, .ref (wB w + k)), (1, .int (nI g9)), (2, .int (nI i))] [] := by
    intro j
    induction j with
    | zero =>
      intro i v hi hv
      refine z_iload_n CX 2 dX4_lowestWreck_2 rfl rfl ?_
      refine z_aload_n CX 0 dX4_lowestWreck_3 rfl rfl ?_
      refine z_get CX dX4_lowestWreck_4 fg_X4_14 to_0 rfl ?_
      refine z_iload_n CX 1 dX4_lowestWreck_7 rfl rfl ?_
      refine z_iconst CX (v := 0) dX4_lowestWreck_8 (by decide) ?_
      refine z_callV1 CX dX4_lowestWreck_9 cv_X4_71 (hG_at hR (b := g9) (c := 0) (by omega) (by omega)) to_1 rfl rfl (Nat.le_of_ble_eq_true rfl) ⟨Nat.le_of_ble_eq_true rfl, Nat.le_of_ble_eq_true rfl⟩ ⟨Nat.le_refl _, Nat.le_refl _⟩ ?_
      rw [show f (4 * g9 + 0) = nI L from hL]
      refine z_icmp_ge CX 32 dX4_lowestWreck_12 (by decide) (fun _ => ?_) (fun q9 => absurd (nI_le (by omega) (by omega)) q9)
      refine z_iconst CX (v := (-1 : Int32)) dX4_lowestWreck_32 (by decide) ?_
      exact z_iret CX dX4_lowestWreck_33 rfl (congrArg Value.int (by rw [hv]; rfl)) rfl (Or.inl rfl)
    | succ j ih =>
      intro i v hi hv
      refine z_iload_n CX 2 dX4_lowestWreck_2 rfl rfl ?_
      refine z_aload_n CX 0 dX4_lowestWreck_3 rfl rfl ?_
      refine z_get CX dX4_lowestWreck_4 fg_X4_14 to_0 rfl ?_
      refine z_iload_n CX 1 dX4_lowestWreck_7 rfl rfl ?_
      refine z_iconst CX (v := 0) dX4_lowestWreck_8 (by decide) ?_
      refine z_callV1 CX dX4_lowestWreck_9 cv_X4_71 (hG_at hR (b := g9) (c := 0) (by omega) (by omega)) to_1 rfl rfl (Nat.le_of_ble_eq_true rfl) ⟨Nat.le_of_ble_eq_true rfl, Nat.le_of_ble_eq_true rfl⟩ ⟨Nat.le_refl _, Nat.le_refl _⟩ ?_
      rw [show f (4 * g9 + 0) = nI L from hL]
      refine z_icmp_ge CX 32 dX4_lowestWreck_12 (by decide) (fun q9 => absurd q9 (nI_ge (by omega) (by omega))) (fun _ => ?_)
      refine z_aload_n CX 0 dX4_lowestWreck_15 rfl rfl ?_
      refine z_iload_n CX 1 dX4_lowestWreck_16 rfl rfl ?_
      refine z_iload_n CX 2 dX4_lowestWreck_17 rfl rfl ?_
      refine z_callV1 CX dX4_lowestWreck_18 cv_X4_167 (t_hasW hR _ _) to_0 rfl rfl (Nat.le_of_ble_eq_true rfl) ⟨Nat.le_of_ble_eq_true rfl, Nat.le_of_ble_eq_true rfl⟩ ⟨Nat.le_refl _, Nat.le_refl _⟩ ?_
      refine z_if_eq CX 26 dX4_lowestWreck_21 (by decide) (fun c_21 => ?_) (fun c_21 => ?_)
      · skip
        refine z_iinc CX (v := nI (i + 1)) dX4_lowestWreck_26 rfl (nI_1 i) (by decide) ?_
        refine z_goto CX 2 dX4_lowestWreck_29 (by decide) ?_
        refine z_loc [(0, .ref (wB w + k)), (1, .int (nI g9)), (2, .int (nI (i + 1)))] ⟨rfl, rfl, rfl, trivial⟩ ?_
        exact ih (i + 1) v (by omega) (by rw [hv]; exact if_neg (fun q => absurd ((congrArg bI q).symm.trans c_21) (by decide)))
      · skip
        refine z_iload_n CX 2 dX4_lowestWreck_24 rfl rfl ?_
        exact z_iret CX dX4_lowestWreck_25 rfl (congrArg Value.int (by rw [hv]; exact if_pos (bI_t c_21))) rfl (Or.inl rfl)
  refine z_iconst CX (v := 0) dX4_lowestWreck_0 (by decide) ?_
  refine z_istore_n CX 2 dX4_lowestWreck_1 rfl (by decide) ?_
  refine z_loc [(0, .ref (wB w + k)), (1, .int (nI g9)), (2, .int (nI 0))] ⟨rfl, rfl, rfl, trivial⟩ ?_
  exact LP L 0 _ (by omega) rfl
set_option maxHeartbeats 4000000 in
set_option maxRecDepth 100000 in
theorem t_num {l : Launch} {w : Wt} {hs : Hs} {n : Option Nat} {k : Nat} {f : Nat → Int32} {x : Int32} {z : Nat → Nat → Int32} (hR : RIs f) (hU : f 150 = 1 ∨ f 150 = 0) (hx : f 152 = x) {i : Nat} (hi : i < 14) : Cn l w mX4_number 0 0 [.ref (wB w + k), .int (nI i)] (TH w hs k f x z) n (TH w hs k f x z) n (some (.int (abV f i))) := by
  match i, hi with
  | 0, _ =>
    refine Cn.of (d := mX4_number) (by decide +kernel) (Nat.le_of_ble_eq_true rfl) ?_
    intro p e R s m args below meth c CX
    replace CX : Ctx p s m args meth c R w RX4 "number" cX4_number 2 (some .int) 2 47 0 0 := CX
    show ZW p l e R s m args below meth c w 2 _ _ 0 0 (MQ below (Qn w _ _ _) args s 0 0 (wA w)) 0 [(0, .ref (wB w + k)), (1, .int _)] []
    refine z_iload_n CX 1 dX4_number_0 rfl rfl ?_
    refine z_tabIn CX 72 dX4_number_1 (by decide) (by decide) rfl (by decide) ?_
    refine z_aload_n CX 0 dX4_number_72 rfl rfl ?_
    refine z_get CX dX4_number_73 fg_X4_14 to_0 rfl ?_
    refine z_get CX dX4_number_76 fg_X4_29 to_1 rfl ?_
    exact z_iret CX dX4_number_79 rfl (congrArg Value.int (show f 146 = nI (gN f) from hR.1.1)) rfl (Or.inl rfl)
  | 1, _ =>
    refine Cn.of (d := mX4_number) (by decide +kernel) (Nat.le_of_ble_eq_true rfl) ?_
    intro p e R s m args below meth c CX
    replace CX : Ctx p s m args meth c R w RX4 "number" cX4_number 2 (some .int) 2 47 0 0 := CX
    show ZW p l e R s m args below meth c w 2 _ _ 0 0 (MQ below (Qn w _ _ _) args s 0 0 (wA w)) 0 [(0, .ref (wB w + k)), (1, .int _)] []
    refine z_iload_n CX 1 dX4_number_0 rfl rfl ?_
    refine z_tabIn CX 80 dX4_number_1 (by decide) (by decide) rfl (by decide) ?_
    refine z_aload_n CX 0 dX4_number_80 rfl rfl ?_
    refine z_get CX dX4_number_81 fg_X4_20 to_0 rfl ?_
    refine z_get CX dX4_number_84 fg_X4_29 to_3 rfl ?_
    exact z_iret CX dX4_number_87 rfl (congrArg Value.int (show f 147 = nI (bN f) from hR.2.1)) rfl (Or.inl rfl)
  | 2, _ =>
    refine Cn.of (d := mX4_number) (by decide +kernel) (Nat.le_of_ble_eq_true rfl) ?_
    intro p e R s m args below meth c CX
    replace CX : Ctx p s m args meth c R w RX4 "number" cX4_number 2 (some .int) 2 47 0 0 := CX
    show ZW p l e R s m args below meth c w 2 _ _ 0 0 (MQ below (Qn w _ _ _) args s 0 0 (wA w)) 0 [(0, .ref (wB w + k)), (1, .int _)] []
    refine z_iload_n CX 1 dX4_number_0 rfl rfl ?_
    refine z_tabIn CX 145 dX4_number_1 (by decide) (by decide) rfl (by decide) ?_
    refine z_aload_n CX 0 dX4_number_145 rfl rfl ?_
    refine z_get CX dX4_number_146 fg_X4_20 to_0 rfl ?_
    refine z_iconst CX (v := 3) dX4_number_149 (by decide) ?_
    refine z_iload_n CX 1 dX4_number_150 rfl rfl ?_
    refine z_iconst CX (v := 2) dX4_number_151 (by decide) ?_
    refine z_isub CX dX4_number_152 ?_
    refine z_callV1 CX dX4_number_153 cv_X4_136 (hB_cnt hR (c := 3) (by omega) (by decide) _) to_3 rfl rfl (Nat.le_of_ble_eq_true rfl) ⟨Nat.le_of_ble_eq_true rfl, Nat.le_of_ble_eq_true rfl⟩ ⟨Nat.le_refl _, Nat.le_refl _⟩ ?_
    exact z_iret CX dX4_number_156 rfl rfl rfl (Or.inl rfl)
  | 3, _ =>
    refine Cn.of (d := mX4_number) (by decide +kernel) (Nat.le_of_ble_eq_true rfl) ?_
    intro p e R s m args below meth c CX
    replace CX : Ctx p s m args meth c R w RX4 "number" cX4_number 2 (some .int) 2 47 0 0 := CX
    show ZW p l e R s m args below meth c w 2 _ _ 0 0 (MQ below (Qn w _ _ _) args s 0 0 (wA w)) 0 [(0, .ref (wB w + k)), (1, .int _)] []
    refine z_iload_n CX 1 dX4_number_0 rfl rfl ?_
    refine z_tabIn CX 145 dX4_number_1 (by decide) (by decide) rfl (by decide) ?_
    refine z_aload_n CX 0 dX4_number_145 rfl rfl ?_
    refine z_get CX dX4_number_146 fg_X4_20 to_0 rfl ?_
    refine z_iconst CX (v := 3) dX4_number_149 (by decide) ?_
    refine z_iload_n CX 1 dX4_number_150 rfl rfl ?_
    refine z_iconst CX (v := 2) dX4_number_151 (by decide) ?_
    refine z_isub CX dX4_number_152 ?_
    refine z_callV1 CX dX4_number_153 cv_X4_136 (hB_cnt hR (c := 3) (by omega) (by decide) _) to_3 rfl rfl (Nat.le_of_ble_eq_true rfl) ⟨Nat.le_of_ble_eq_true rfl, Nat.le_of_ble_eq_true rfl⟩ ⟨Nat.le_refl _, Nat.le_refl _⟩ ?_
    exact z_iret CX dX4_number_156 rfl rfl rfl (Or.inl rfl)
  | 4, _ =>
    refine Cn.of (d := mX4_number) (by decide +kernel) (Nat.le_of_ble_eq_true rfl) ?_
    intro p e R s m args below meth c CX
    replace CX : Ctx p s m args meth c R w RX4 "number" cX4_number 2 (some .int) 2 47 0 0 := CX
    show ZW p l e R s m args below meth c w 2 _ _ 0 0 (MQ below (Qn w _ _ _) args s 0 0 (wA w)) 0 [(0, .ref (wB w + k)), (1, .int _)] []
    refine z_iload_n CX 1 dX4_number_0 rfl rfl ?_
    refine z_tabIn CX 145 dX4_number_1 (by decide) (by decide) rfl (by decide) ?_
    refine z_aload_n CX 0 dX4_number_145 rfl rfl ?_
    refine z_get CX dX4_number_146 fg_X4_20 to_0 rfl ?_
    refine z_iconst CX (v := 3) dX4_number_149 (by decide) ?_
    refine z_iload_n CX 1 dX4_number_150 rfl rfl ?_
    refine z_iconst CX (v := 2) dX4_number_151 (by decide) ?_
    refine z_isub CX dX4_number_152 ?_
    refine z_callV1 CX dX4_number_153 cv_X4_136 (hB_cnt hR (c := 3) (by omega) (by decide) _) to_3 rfl rfl (Nat.le_of_ble_eq_true rfl) ⟨Nat.le_of_ble_eq_true rfl, Nat.le_of_ble_eq_true rfl⟩ ⟨Nat.le_refl _, Nat.le_refl _⟩ ?_
    exact z_iret CX dX4_number_156 rfl rfl rfl (Or.inl rfl)
  | 5, _ =>
    refine Cn.of (d := mX4_number) (by decide +kernel) (Nat.le_of_ble_eq_true rfl) ?_
    intro p e R s m args below meth c CX
    replace CX : Ctx p s m args meth c R w RX4 "number" cX4_number 2 (some .int) 2 47 0 0 := CX
    show ZW p l e R s m args below meth c w 2 _ _ 0 0 (MQ below (Qn w _ _ _) args s 0 0 (wA w)) 0 [(0, .ref (wB w + k)), (1, .int _)] []
    refine z_iload_n CX 1 dX4_number_0 rfl rfl ?_
    refine z_tabIn CX 145 dX4_number_1 (by decide) (by decide) rfl (by decide) ?_
    refine z_aload_n CX 0 dX4_number_145 rfl rfl ?_
    refine z_get CX dX4_number_146 fg_X4_20 to_0 rfl ?_
    refine z_iconst CX (v := 3) dX4_number_149 (by decide) ?_
    refine z_iload_n CX 1 dX4_number_150 rfl rfl ?_
    refine z_iconst CX (v := 2) dX4_number_151 (by decide) ?_
    refine z_isub CX dX4_number_152 ?_
    refine z_callV1 CX dX4_number_153 cv_X4_136 (hB_cnt hR (c := 3) (by omega) (by decide) _) to_3 rfl rfl (Nat.le_of_ble_eq_true rfl) ⟨Nat.le_of_ble_eq_true rfl, Nat.le_of_ble_eq_true rfl⟩ ⟨Nat.le_refl _, Nat.le_refl _⟩ ?_
    exact z_iret CX dX4_number_156 rfl rfl rfl (Or.inl rfl)
  | 6, _ =>
    refine Cn.of (d := mX4_number) (by decide +kernel) (Nat.le_of_ble_eq_true rfl) ?_
    intro p e R s m args below meth c CX
    replace CX : Ctx p s m args meth c R w RX4 "number" cX4_number 2 (some .int) 2 47 0 0 := CX
    show ZW p l e R s m args below meth c w 2 _ _ 0 0 (MQ below (Qn w _ _ _) args s 0 0 (wA w)) 0 [(0, .ref (wB w + k)), (1, .int _)] []
    refine z_iload_n CX 1 dX4_number_0 rfl rfl ?_
    refine z_tabIn CX 145 dX4_number_1 (by decide) (by decide) rfl (by decide) ?_
    refine z_aload_n CX 0 dX4_number_145 rfl rfl ?_
    refine z_get CX dX4_number_146 fg_X4_20 to_0 rfl ?_
    refine z_iconst CX (v := 3) dX4_number_149 (by decide) ?_
    refine z_iload_n CX 1 dX4_number_150 rfl rfl ?_
    refine z_iconst CX (v := 2) dX4_number_151 (by decide) ?_
    refine z_isub CX dX4_number_152 ?_
    refine z_callV1 CX dX4_number_153 cv_X4_136 (hB_cnt hR (c := 3) (by omega) (by decide) _) to_3 rfl rfl (Nat.le_of_ble_eq_true rfl) ⟨Nat.le_of_ble_eq_true rfl, Nat.le_of_ble_eq_true rfl⟩ ⟨Nat.le_refl _, Nat.le_refl _⟩ ?_
    exact z_iret CX dX4_number_156 rfl rfl rfl (Or.inl rfl)
  | 7, _ =>
    refine Cn.of (d := mX4_number) (by decide +kernel) (Nat.le_of_ble_eq_true rfl) ?_
    intro p e R s m args below meth c CX
    replace CX : Ctx p s m args meth c R w RX4 "number" cX4_number 2 (some .int) 2 47 0 0 := CX
    show ZW p l e R s m args below meth c w 2 _ _ 0 0 (MQ below (Qn w _ _ _) args s 0 0 (wA w)) 0 [(0, .ref (wB w + k)), (1, .int _)] []
    refine z_iload_n CX 1 dX4_number_0 rfl rfl ?_
    refine z_tabIn CX 88 dX4_number_1 (by decide) (by decide) rfl (by decide) ?_
    refine z_aload_n CX 0 dX4_number_88 rfl rfl ?_
    refine z_get CX dX4_number_89 fg_X4_50 to_0 rfl ?_
    exact z_iret CX dX4_number_92 rfl rfl rfl (Or.inl rfl)
  | 8, _ =>
    refine Cn.of (d := mX4_number) (by decide +kernel) (Nat.le_of_ble_eq_true rfl) ?_
    intro p e R s m args below meth c CX
    replace CX : Ctx p s m args meth c R w RX4 "number" cX4_number 2 (some .int) 2 47 0 0 := CX
    show ZW p l e R s m args below meth c w 2 _ _ 0 0 (MQ below (Qn w _ _ _) args s 0 0 (wA w)) 0 [(0, .ref (wB w + k)), (1, .int _)] []
    refine z_iload_n CX 1 dX4_number_0 rfl rfl ?_
    refine z_tabIn CX 93 dX4_number_1 (by decide) (by decide) rfl (by decide) ?_
    refine z_aload_n CX 0 dX4_number_93 rfl rfl ?_
    refine z_get CX dX4_number_94 fg_X4_53 to_0 rfl ?_
    exact z_iret CX dX4_number_97 rfl rfl rfl (Or.inl rfl)
  | 9, _ =>
    refine Cn.of (d := mX4_number) (by decide +kernel) (Nat.le_of_ble_eq_true rfl) ?_
    intro p e R s m args below meth c CX
    replace CX : Ctx p s m args meth c R w RX4 "number" cX4_number 2 (some .int) 2 47 0 0 := CX
    show ZW p l e R s m args below meth c w 2 _ _ 0 0 (MQ below (Qn w _ _ _) args s 0 0 (wA w)) 0 [(0, .ref (wB w + k)), (1, .int _)] []
    refine z_iload_n CX 1 dX4_number_0 rfl rfl ?_
    refine z_tabIn CX 98 dX4_number_1 (by decide) (by decide) rfl (by decide) ?_
    refine z_aload_n CX 0 dX4_number_98 rfl rfl ?_
    refine z_get CX dX4_number_99 fg_X4_56 to_0 rfl ?_
    refine z_if_eq CX 109 dX4_number_102 (by decide) (fun c_102 => ?_) (fun c_102 => ?_)
    · skip
      refine z_iconst CX (v := 0) dX4_number_109 (by decide) ?_
      exact z_iret CX dX4_number_110 rfl (congrArg Value.int (show f 150 = 0 from c_102)) rfl (Or.inl rfl)
    · skip
      refine z_iconst CX (v := 1) dX4_number_105 (by decide) ?_
      refine z_goto CX 110 dX4_number_106 (by decide) ?_
      exact z_iret CX dX4_number_110 rfl (congrArg Value.int (show f 150 = 1 from hU.elim id (fun q => absurd q c_102))) rfl (Or.inl rfl)
  | 10, _ =>
    refine Cn.of (d := mX4_number) (by decide +kernel) (Nat.le_of_ble_eq_true rfl) ?_
    intro p e R s m args below meth c CX
    replace CX : Ctx p s m args meth c R w RX4 "number" cX4_number 2 (some .int) 2 47 0 0 := CX
    show ZW p l e R s m args below meth c w 2 _ _ 0 0 (MQ below (Qn w _ _ _) args s 0 0 (wA w)) 0 [(0, .ref (wB w + k)), (1, .int _)] []
    refine z_iload_n CX 1 dX4_number_0 rfl rfl ?_
    refine z_tabIn CX 111 dX4_number_1 (by decide) (by decide) rfl (by decide) ?_
    refine z_aload_n CX 0 dX4_number_111 rfl rfl ?_
    refine z_get CX dX4_number_112 fg_X4_20 to_0 rfl ?_
    refine z_bipush CX (v := 8) dX4_number_115 (by decide) ?_
    refine z_callV1 CX dX4_number_117 cv_X4_181 (hB_sum hR (c := 8) (by omega) (by decide)) to_3 rfl rfl (Nat.le_of_ble_eq_true rfl) ⟨Nat.le_of_ble_eq_true rfl, Nat.le_of_ble_eq_true rfl⟩ ⟨Nat.le_refl _, Nat.le_refl _⟩ ?_
    exact z_iret CX dX4_number_120 rfl (congrArg Value.int (show f 151 = _ from hR.2.2.2.2.2.2.2)) rfl (Or.inl rfl)
  | 11, _ =>
    refine Cn.of (d := mX4_number) (by decide +kernel) (Nat.le_of_ble_eq_true rfl) ?_
    intro p e R s m args below meth c CX
    replace CX : Ctx p s m args meth c R w RX4 "number" cX4_number 2 (some .int) 2 47 0 0 := CX
    show ZW p l e R s m args below meth c w 2 _ _ 0 0 (MQ below (Qn w _ _ _) args s 0 0 (wA w)) 0 [(0, .ref (wB w + k)), (1, .int _)] []
    refine z_iload_n CX 1 dX4_number_0 rfl rfl ?_
    refine z_tabIn CX 121 dX4_number_1 (by decide) (by decide) rfl (by decide) ?_
    refine z_aload_n CX 0 dX4_number_121 rfl rfl ?_
    refine z_get CX dX4_number_122 fg_X4_60 to_0 rfl ?_
    exact z_iret CX dX4_number_125 rfl (congrArg Value.int (show f 152 = x from hx)) rfl (Or.inl rfl)
  | 12, _ =>
    refine Cn.of (d := mX4_number) (by decide +kernel) (Nat.le_of_ble_eq_true rfl) ?_
    intro p e R s m args below meth c CX
    replace CX : Ctx p s m args meth c R w RX4 "number" cX4_number 2 (some .int) 2 47 0 0 := CX
    show ZW p l e R s m args below meth c w 2 _ _ 0 0 (MQ below (Qn w _ _ _) args s 0 0 (wA w)) 0 [(0, .ref (wB w + k)), (1, .int _)] []
    refine z_iload_n CX 1 dX4_number_0 rfl rfl ?_
    refine z_tabIn CX 126 dX4_number_1 (by decide) (by decide) rfl (by decide) ?_
    refine z_aload_n CX 0 dX4_number_126 rfl rfl ?_
    refine z_get CX dX4_number_127 fg_X4_23 to_0 rfl ?_
    refine z_iconst CX (v := 0) dX4_number_130 (by decide) ?_
    refine z_callV1 CX dX4_number_131 cv_X4_181 hO_sum to_5 rfl rfl (Nat.le_of_ble_eq_true rfl) ⟨Nat.le_of_ble_eq_true rfl, Nat.le_of_ble_eq_true rfl⟩ ⟨Nat.le_refl _, Nat.le_refl _⟩ ?_
    exact z_iret CX dX4_number_134 rfl rfl rfl (Or.inl rfl)
  | 13, _ =>
    refine Cn.of (d := mX4_number) (by decide +kernel) (Nat.le_of_ble_eq_true rfl) ?_
    intro p e R s m args below meth c CX
    replace CX : Ctx p s m args meth c R w RX4 "number" cX4_number 2 (some .int) 2 47 0 0 := CX
    show ZW p l e R s m args below meth c w 2 _ _ 0 0 (MQ below (Qn w _ _ _) args s 0 0 (wA w)) 0 [(0, .ref (wB w + k)), (1, .int _)] []
    refine z_iload_n CX 1 dX4_number_0 rfl rfl ?_
    refine z_tabIn CX 135 dX4_number_1 (by decide) (by decide) rfl (by decide) ?_
    refine z_aload_n CX 0 dX4_number_135 rfl rfl ?_
    refine z_get CX dX4_number_136 fg_X4_20 to_0 rfl ?_
    refine z_bipush CX (v := 9) dX4_number_139 (by decide) ?_
    refine z_callV1 CX dX4_number_141 cv_X4_181 (hB_sum hR (c := 9) (by omega) (by decide)) to_3 rfl rfl (Nat.le_of_ble_eq_true rfl) ⟨Nat.le_of_ble_eq_true rfl, Nat.le_of_ble_eq_true rfl⟩ ⟨Nat.le_refl _, Nat.le_refl _⟩ ?_
    exact z_iret CX dX4_number_144 rfl rfl rfl (Or.inl rfl)
  | i + 14, h => omega
set_option maxHeartbeats 4000000 in
set_option maxRecDepth 100000 in
theorem t_numG {l : Launch} {w : Wt} {hs : Hs} {n : Option Nat} {k : Nat} {f : Nat → Int32} {x : Int32} {z : Nat → Nat → Int32} (hR : RIs f) {j i : Nat} (hj : j < gN f) (hi : i < 7) : Cn l w mX4_numberOfGutter 0 0 [.ref (wB w + k), .int (nI j), .int (nI i)] (TH w hs k f x z) n (TH w hs k f x z) n (some (.int (gtV f j i))) := by
  have h6 := hR.1.2.1
  obtain ⟨⟨L, l1, l2, l3⟩, -⟩ := hR.1.2.2.2 j hj
  match i, hi with
  | 0, _ =>
    refine Cn.of (d := mX4_numberOfGutter) (by decide +kernel) (Nat.le_of_ble_eq_true rfl) ?_
    intro p e R s m args below meth c CX
    replace CX : Ctx p s m args meth c R w RX4 "numberOfGutter" cX4_numberOfGutter 3 (some .int) 3 68 0 0 := CX
    show ZW p l e R s m args below meth c w 3 _ _ 0 0 (MQ below (Qn w _ _ _) args s 0 0 (wA w)) 0 [(0, .ref (wB w + k)), (1, .int _), (2, .int _)] []
    refine z_iload_n CX 2 dX4_numberOfGutter_0 rfl rfl ?_
    refine z_tabOut CX 48 dX4_numberOfGutter_1 (by decide) (by decide) ?_
    refine z_aload_n CX 0 dX4_numberOfGutter_48 rfl rfl ?_
    refine z_get CX dX4_numberOfGutter_49 fg_X4_14 to_0 rfl ?_
    refine z_iload_n CX 1 dX4_numberOfGutter_52 rfl rfl ?_
    refine z_iload_n CX 2 dX4_numberOfGutter_53 rfl rfl ?_
    refine z_callV1 CX dX4_numberOfGutter_54 cv_X4_71 (hG_at hR (b := j) (c := 0) (by omega) (by omega)) to_1 rfl rfl (Nat.le_of_ble_eq_true rfl) ⟨Nat.le_of_ble_eq_true rfl, Nat.le_of_ble_eq_true rfl⟩ ⟨Nat.le_refl _, Nat.le_refl _⟩ ?_
    exact z_iret CX dX4_numberOfGutter_57 rfl rfl rfl (Or.inl rfl)
  | 1, _ =>
    refine Cn.of (d := mX4_numberOfGutter) (by decide +kernel) (Nat.le_of_ble_eq_true rfl) ?_
    intro p e R s m args below meth c CX
    replace CX : Ctx p s m args meth c R w RX4 "numberOfGutter" cX4_numberOfGutter 3 (some .int) 3 68 0 0 := CX
    show ZW p l e R s m args below meth c w 3 _ _ 0 0 (MQ below (Qn w _ _ _) args s 0 0 (wA w)) 0 [(0, .ref (wB w + k)), (1, .int _), (2, .int _)] []
    refine z_iload_n CX 2 dX4_numberOfGutter_0 rfl rfl ?_
    refine z_tabOut CX 48 dX4_numberOfGutter_1 (by decide) (by decide) ?_
    refine z_aload_n CX 0 dX4_numberOfGutter_48 rfl rfl ?_
    refine z_get CX dX4_numberOfGutter_49 fg_X4_14 to_0 rfl ?_
    refine z_iload_n CX 1 dX4_numberOfGutter_52 rfl rfl ?_
    refine z_iload_n CX 2 dX4_numberOfGutter_53 rfl rfl ?_
    refine z_callV1 CX dX4_numberOfGutter_54 cv_X4_71 (hG_at hR (b := j) (c := 1) (by omega) (by omega)) to_1 rfl rfl (Nat.le_of_ble_eq_true rfl) ⟨Nat.le_of_ble_eq_true rfl, Nat.le_of_ble_eq_true rfl⟩ ⟨Nat.le_refl _, Nat.le_refl _⟩ ?_
    exact z_iret CX dX4_numberOfGutter_57 rfl rfl rfl (Or.inl rfl)
  | 2, _ =>
    refine Cn.of (d := mX4_numberOfGutter) (by decide +kernel) (Nat.le_of_ble_eq_true rfl) ?_
    intro p e R s m args below meth c CX
    replace CX : Ctx p s m args meth c R w RX4 "numberOfGutter" cX4_numberOfGutter 3 (some .int) 3 68 0 0 := CX
    show ZW p l e R s m args below meth c w 3 _ _ 0 0 (MQ below (Qn w _ _ _) args s 0 0 (wA w)) 0 [(0, .ref (wB w + k)), (1, .int _), (2, .int _)] []
    refine z_iload_n CX 2 dX4_numberOfGutter_0 rfl rfl ?_
    refine z_tabOut CX 48 dX4_numberOfGutter_1 (by decide) (by decide) ?_
    refine z_aload_n CX 0 dX4_numberOfGutter_48 rfl rfl ?_
    refine z_get CX dX4_numberOfGutter_49 fg_X4_14 to_0 rfl ?_
    refine z_iload_n CX 1 dX4_numberOfGutter_52 rfl rfl ?_
    refine z_iload_n CX 2 dX4_numberOfGutter_53 rfl rfl ?_
    refine z_callV1 CX dX4_numberOfGutter_54 cv_X4_71 (hG_at hR (b := j) (c := 2) (by omega) (by omega)) to_1 rfl rfl (Nat.le_of_ble_eq_true rfl) ⟨Nat.le_of_ble_eq_true rfl, Nat.le_of_ble_eq_true rfl⟩ ⟨Nat.le_refl _, Nat.le_refl _⟩ ?_
    exact z_iret CX dX4_numberOfGutter_57 rfl rfl rfl (Or.inl rfl)
  | 3, _ =>
    refine Cn.of (d := mX4_numberOfGutter) (by decide +kernel) (Nat.le_of_ble_eq_true rfl) ?_
    intro p e R s m args below meth c CX
    replace CX : Ctx p s m args meth c R w RX4 "numberOfGutter" cX4_numberOfGutter 3 (some .int) 3 68 0 0 := CX
    show ZW p l e R s m args below meth c w 3 _ _ 0 0 (MQ below (Qn w _ _ _) args s 0 0 (wA w)) 0 [(0, .ref (wB w + k)), (1, .int _), (2, .int _)] []
    refine z_iload_n CX 2 dX4_numberOfGutter_0 rfl rfl ?_
    refine z_tabOut CX 48 dX4_numberOfGutter_1 (by decide) (by decide) ?_
    refine z_aload_n CX 0 dX4_numberOfGutter_48 rfl rfl ?_
    refine z_get CX dX4_numberOfGutter_49 fg_X4_14 to_0 rfl ?_
    refine z_iload_n CX 1 dX4_numberOfGutter_52 rfl rfl ?_
    refine z_iload_n CX 2 dX4_numberOfGutter_53 rfl rfl ?_
    refine z_callV1 CX dX4_numberOfGutter_54 cv_X4_71 (hG_at hR (b := j) (c := 3) (by omega) (by omega)) to_1 rfl rfl (Nat.le_of_ble_eq_true rfl) ⟨Nat.le_of_ble_eq_true rfl, Nat.le_of_ble_eq_true rfl⟩ ⟨Nat.le_refl _, Nat.le_refl _⟩ ?_
    exact z_iret CX dX4_numberOfGutter_57 rfl rfl rfl (Or.inl rfl)
  | 4, _ =>
    refine Cn.of (d := mX4_numberOfGutter) (by decide +kernel) (Nat.le_of_ble_eq_true rfl) ?_
    intro p e R s m args below meth c CX
    replace CX : Ctx p s m args meth c R w RX4 "numberOfGutter" cX4_numberOfGutter 3 (some .int) 3 68 0 0 := CX
    show ZW p l e R s m args below meth c w 3 _ _ 0 0 (MQ below (Qn w _ _ _) args s 0 0 (wA w)) 0 [(0, .ref (wB w + k)), (1, .int _), (2, .int _)] []
    refine z_iload_n CX 2 dX4_numberOfGutter_0 rfl rfl ?_
    refine z_tabIn CX 28 dX4_numberOfGutter_1 (by decide) (by decide) rfl (by decide) ?_
    refine z_aload_n CX 0 dX4_numberOfGutter_28 rfl rfl ?_
    refine z_iload_n CX 1 dX4_numberOfGutter_29 rfl rfl ?_
    refine z_iconst CX (v := 1) dX4_numberOfGutter_30 (by decide) ?_
    refine z_callV1 CX dX4_numberOfGutter_31 cv_X4_184 (t_cig hR _ _ (Or.inl rfl)) to_0 rfl rfl (Nat.le_of_ble_eq_true rfl) ⟨Nat.le_of_ble_eq_true rfl, Nat.le_of_ble_eq_true rfl⟩ ⟨Nat.le_refl _, Nat.le_refl _⟩ ?_
    exact z_iret CX dX4_numberOfGutter_34 rfl rfl rfl (Or.inl rfl)
  | 5, _ =>
    refine Cn.of (d := mX4_numberOfGutter) (by decide +kernel) (Nat.le_of_ble_eq_true rfl) ?_
    intro p e R s m args below meth c CX
    replace CX : Ctx p s m args meth c R w RX4 "numberOfGutter" cX4_numberOfGutter 3 (some .int) 3 68 0 0 := CX
    show ZW p l e R s m args below meth c w 3 _ _ 0 0 (MQ below (Qn w _ _ _) args s 0 0 (wA w)) 0 [(0, .ref (wB w + k)), (1, .int _), (2, .int _)] []
    refine z_iload_n CX 2 dX4_numberOfGutter_0 rfl rfl ?_
    refine z_tabIn CX 35 dX4_numberOfGutter_1 (by decide) (by decide) rfl (by decide) ?_
    refine z_aload_n CX 0 dX4_numberOfGutter_35 rfl rfl ?_
    refine z_iload_n CX 1 dX4_numberOfGutter_36 rfl rfl ?_
    refine z_iconst CX (v := 3) dX4_numberOfGutter_37 (by decide) ?_
    refine z_callV1 CX dX4_numberOfGutter_38 cv_X4_184 (t_cig hR _ _ (Or.inr rfl)) to_0 rfl rfl (Nat.le_of_ble_eq_true rfl) ⟨Nat.le_of_ble_eq_true rfl, Nat.le_of_ble_eq_true rfl⟩ ⟨Nat.le_refl _, Nat.le_refl _⟩ ?_
    exact z_iret CX dX4_numberOfGutter_41 rfl rfl rfl (Or.inl rfl)
  | 6, _ =>
    refine Cn.of (d := mX4_numberOfGutter) (by decide +kernel) (Nat.le_of_ble_eq_true rfl) ?_
    intro p e R s m args below meth c CX
    replace CX : Ctx p s m args meth c R w RX4 "numberOfGutter" cX4_numberOfGutter 3 (some .int) 3 68 0 0 := CX
    show ZW p l e R s m args below meth c w 3 _ _ 0 0 (MQ below (Qn w _ _ _) args s 0 0 (wA w)) 0 [(0, .ref (wB w + k)), (1, .int _), (2, .int _)] []
    refine z_iload_n CX 2 dX4_numberOfGutter_0 rfl rfl ?_
    refine z_tabIn CX 42 dX4_numberOfGutter_1 (by decide) (by decide) rfl (by decide) ?_
    refine z_aload_n CX 0 dX4_numberOfGutter_42 rfl rfl ?_
    refine z_iload_n CX 1 dX4_numberOfGutter_43 rfl rfl ?_
    refine z_callV1 CX dX4_numberOfGutter_44 cv_X4_187 (t_lowW hR hj l3 l2) to_0 rfl rfl (Nat.le_of_ble_eq_true rfl) ⟨Nat.le_of_ble_eq_true rfl, Nat.le_of_ble_eq_true rfl⟩ ⟨Nat.le_refl _, Nat.le_refl _⟩ ?_
    exact z_iret CX dX4_numberOfGutter_47 rfl (congrArg Value.int (show lwR f (bN f) (nI j) (f (4 * j + 0)).toNatClampNeg 0 = _ by rw [l3, nI_clamp (by omega)])) rfl (Or.inl rfl)
  | i + 7, h => omega
set_option maxHeartbeats 4000000 in
set_option maxRecDepth 100000 in
theorem t_numO {l : Launch} {w : Wt} {hs : Hs} {n : Option Nat} {k : Nat} {f : Nat → Int32} {x : Int32} {z : Nat → Nat → Int32} (hR : RIs f) {j i : Nat} (hj : j < 4) (hi : i < 5) : Cn l w mX4_numberOfOwner 0 0 [.ref (wB w + k), .int (nI j), .int (nI i)] (TH w hs k f x z) n (TH w hs k f x z) n (some (.int (owV f j i))) := by
  have h9 := hR.2.2.1
  match i, hi with
  | 0, _ =>
    refine Cn.of (d := mX4_numberOfOwner) (by decide +kernel) (Nat.le_of_ble_eq_true rfl) ?_
    intro p e R s m args below meth c CX
    replace CX : Ctx p s m args meth c R w RX4 "numberOfOwner" cX4_numberOfOwner 3 (some .int) 4 93 0 0 := CX
    show ZW p l e R s m args below meth c w 3 _ _ 0 0 (MQ below (Qn w _ _ _) args s 0 0 (wA w)) 0 [(0, .ref (wB w + k)), (1, .int _), (2, .int _)] []
    refine z_iload_n CX 2 dX4_numberOfOwner_0 rfl rfl ?_
    refine z_tabIn CX 32 dX4_numberOfOwner_1 (by decide) (by decide) rfl (by decide) ?_
    refine z_aload_n CX 0 dX4_numberOfOwner_32 rfl rfl ?_
    refine z_get CX dX4_numberOfOwner_33 fg_X4_23 to_0 rfl ?_
    refine z_iload_n CX 1 dX4_numberOfOwner_36 rfl rfl ?_
    refine z_iconst CX (v := 0) dX4_numberOfOwner_37 (by decide) ?_
    refine z_callV1 CX dX4_numberOfOwner_38 cv_X4_71 (hO_at (b := j) (c := 0) (by omega) (by omega)) to_5 rfl rfl (Nat.le_of_ble_eq_true rfl) ⟨Nat.le_of_ble_eq_true rfl, Nat.le_of_ble_eq_true rfl⟩ ⟨Nat.le_refl _, Nat.le_refl _⟩ ?_
    exact z_iret CX dX4_numberOfOwner_41 rfl rfl rfl (Or.inl rfl)
  | 1, _ =>
    refine Cn.of (d := mX4_numberOfOwner) (by decide +kernel) (Nat.le_of_ble_eq_true rfl) ?_
    intro p e R s m args below meth c CX
    replace CX : Ctx p s m args meth c R w RX4 "numberOfOwner" cX4_numberOfOwner 3 (some .int) 4 93 0 0 := CX
    show ZW p l e R s m args below meth c w 3 _ _ 0 0 (MQ below (Qn w _ _ _) args s 0 0 (wA w)) 0 [(0, .ref (wB w + k)), (1, .int _), (2, .int _)] []
    refine z_iload_n CX 2 dX4_numberOfOwner_0 rfl rfl ?_
    refine z_tabIn CX 42 dX4_numberOfOwner_1 (by decide) (by decide) rfl (by decide) ?_
    refine z_aload_n CX 0 dX4_numberOfOwner_42 rfl rfl ?_
    refine z_get CX dX4_numberOfOwner_43 fg_X4_20 to_0 rfl ?_
    refine z_iconst CX (v := 2) dX4_numberOfOwner_46 (by decide) ?_
    refine z_iload_n CX 1 dX4_numberOfOwner_47 rfl rfl ?_
    refine z_callV1 CX dX4_numberOfOwner_48 cv_X4_136 (hB_cnt hR (c := 2) (by omega) (by decide) _) to_3 rfl rfl (Nat.le_of_ble_eq_true rfl) ⟨Nat.le_of_ble_eq_true rfl, Nat.le_of_ble_eq_true rfl⟩ ⟨Nat.le_refl _, Nat.le_refl _⟩ ?_
    exact z_iret CX dX4_numberOfOwner_51 rfl rfl rfl (Or.inl rfl)
  | 2, _ =>
    refine Cn.of (d := mX4_numberOfOwner) (by decide +kernel) (Nat.le_of_ble_eq_true rfl) ?_
    intro p e R s m args below meth c CX
    replace CX : Ctx p s m args meth c R w RX4 "numberOfOwner" cX4_numberOfOwner 3 (some .int) 4 93 0 0 := CX
    show ZW p l e R s m args below meth c w 3 _ _ 0 0 (MQ below (Qn w _ _ _) args s 0 0 (wA w)) 0 [(0, .ref (wB w + k)), (1, .int _), (2, .int _)] []
    refine z_iload_n CX 2 dX4_numberOfOwner_0 rfl rfl ?_
    refine z_tabIn CX 52 dX4_numberOfOwner_1 (by decide) (by decide) rfl (by decide) ?_
    refine z_aload_n CX 0 dX4_numberOfOwner_52 rfl rfl ?_
    refine z_get CX dX4_numberOfOwner_53 fg_X4_23 to_0 rfl ?_
    refine z_iload_n CX 1 dX4_numberOfOwner_56 rfl rfl ?_
    refine z_iconst CX (v := 1) dX4_numberOfOwner_57 (by decide) ?_
    refine z_callV1 CX dX4_numberOfOwner_58 cv_X4_71 (hO_at (b := j) (c := 1) (by omega) (by omega)) to_5 rfl rfl (Nat.le_of_ble_eq_true rfl) ⟨Nat.le_of_ble_eq_true rfl, Nat.le_of_ble_eq_true rfl⟩ ⟨Nat.le_refl _, Nat.le_refl _⟩ ?_
    exact z_iret CX dX4_numberOfOwner_61 rfl rfl rfl (Or.inl rfl)
  | 3, _ =>
    refine Cn.of (d := mX4_numberOfOwner) (by decide +kernel) (Nat.le_of_ble_eq_true rfl) ?_
    intro p e R s m args below meth c CX
    replace CX : Ctx p s m args meth c R w RX4 "numberOfOwner" cX4_numberOfOwner 3 (some .int) 4 93 0 0 := CX
    show ZW p l e R s m args below meth c w 3 _ _ 0 0 (MQ below (Qn w _ _ _) args s 0 0 (wA w)) 0 [(0, .ref (wB w + k)), (1, .int _), (2, .int _)] []
    refine z_iload_n CX 2 dX4_numberOfOwner_0 rfl rfl ?_
    refine z_tabIn CX 62 dX4_numberOfOwner_1 (by decide) (by decide) rfl (by decide) ?_
    refine z_aload_n CX 0 dX4_numberOfOwner_62 rfl rfl ?_
    refine z_get CX dX4_numberOfOwner_63 fg_X4_23 to_0 rfl ?_
    refine z_iload_n CX 1 dX4_numberOfOwner_66 rfl rfl ?_
    refine z_iconst CX (v := 2) dX4_numberOfOwner_67 (by decide) ?_
    refine z_callV1 CX dX4_numberOfOwner_68 cv_X4_71 (hO_at (b := j) (c := 2) (by omega) (by omega)) to_5 rfl rfl (Nat.le_of_ble_eq_true rfl) ⟨Nat.le_of_ble_eq_true rfl, Nat.le_of_ble_eq_true rfl⟩ ⟨Nat.le_refl _, Nat.le_refl _⟩ ?_
    exact z_iret CX dX4_numberOfOwner_71 rfl rfl rfl (Or.inl rfl)
  | 4, _ =>
    refine Cn.of (d := mX4_numberOfOwner) (by decide +kernel) (Nat.le_of_ble_eq_true rfl) ?_
    intro p e R s m args below meth c CX
    replace CX : Ctx p s m args meth c R w RX4 "numberOfOwner" cX4_numberOfOwner 3 (some .int) 4 93 0 0 := CX
    show ZW p l e R s m args below meth c w 3 _ _ 0 0 (MQ below (Qn w _ _ _) args s 0 0 (wA w)) 0 [(0, .ref (wB w + k)), (1, .int _), (2, .int _)] []
    refine z_iload_n CX 2 dX4_numberOfOwner_0 rfl rfl ?_
    refine z_tabOut CX 72 dX4_numberOfOwner_1 (by decide) (by decide) ?_
    refine z_aload_n CX 0 dX4_numberOfOwner_72 rfl rfl ?_
    refine z_iload_n CX 1 dX4_numberOfOwner_73 rfl rfl ?_
    refine z_callV1 CX dX4_numberOfOwner_74 cv_X4_190 (t_clb hR (o := j) (by omega)) to_0 rfl rfl (Nat.le_of_ble_eq_true rfl) ⟨Nat.le_of_ble_eq_true rfl, Nat.le_of_ble_eq_true rfl⟩ ⟨Nat.le_refl _, Nat.le_refl _⟩ ?_
    exact z_iret CX dX4_numberOfOwner_77 rfl rfl rfl (Or.inl rfl)
  | i + 5, h => omega
