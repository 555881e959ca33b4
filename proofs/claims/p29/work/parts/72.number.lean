/-! reading a number of a text -/
theorem nI_inj {a b : Nat} (ha : a < 2 ^ 31) (hb : b < 2 ^ 31) (h : nI a = nI b) : a = b := by rw [← nI_clamp ha, h, nI_clamp hb]
theorem nI_led {a b : Nat} (ha : a < 2 ^ 31) (_ : b < 2 ^ 31) (h : nI a ≤ nI b) : a ≤ b := Nat.le_of_not_lt (fun q => absurd h (nI_ge q ha))
section
variable {t : Nat → Int32} {len y : Nat}
theorem dgS_y {a b : Int32} (h : a ≤ hrF t len y - 48 ∧ hrF t len y - 48 ≤ b) : dgS t len a b (y, true) = (y + 1, true) := if_pos (by show (true && decide _) = true; rw [Bool.true_and]; exact decide_eq_true h)
theorem dgS_z {a b : Int32} (h : ¬ (a ≤ hrF t len y - 48 ∧ hrF t len y - 48 ≤ b)) : dgS t len a b (y, true) = (y, false) := if_neg (by show ¬ (true && decide _) = true; rw [Bool.true_and, decide_eq_true_eq]; exact h)
theorem dgV_y {a b : Int32} (h : a ≤ hrF t len y - 48 ∧ hrF t len y - 48 ≤ b) : dgV t len a b (y, true) = hrF t len y - 48 := if_pos (by show (true && decide _) = true; rw [Bool.true_and]; exact decide_eq_true h)
theorem dgS_w {a b : Int32} : dgS t len a b (y, false) = (y, false) := if_neg (by show ¬ (false && decide _) = true; rw [Bool.false_and]; decide)
theorem tw_q {a : Nat} (h : a < 100) : nI a / 10 = nI (a / 10) := pk_div (d := 10) (by omega) (by omega) (by omega)
theorem tw_l {a i : Nat} (h : a < 100) (hi : i ≤ 9) : twL (nI a) (nI i) = nI (if i = a / 10 then a % 10 else 0) := by
  unfold twL
  have r9 : nI a - nI a / 10 * 10 = nI (a % 10) := pk_rem (d := 10) (by omega) (by omega) (by omega)
  rw [r9, tw_q h]
  by_cases c : i = a / 10
  · rw [if_pos c, if_pos (by rw [c])]
  · rw [if_neg c, if_neg (fun q => c (nI_inj (by omega) (by omega) q))]; rfl
theorem tw_h {a i : Nat} (h : a < 100) (hi : i ≤ 9) : twH (nI a) (nI i) = nI (if i = a / 10 then a % 10 else 9) := by
  unfold twH
  have r9 : nI a - nI a / 10 * 10 = nI (a % 10) := pk_rem (d := 10) (by omega) (by omega) (by omega)
  rw [r9, tw_q h]
  by_cases c : i = a / 10
  · rw [if_pos c, if_pos (by rw [c])]
  · rw [if_neg c, if_neg (fun q => c (nI_inj (by omega) (by omega) q))]; rfl
theorem tw_1 {a b : Nat} (ha : a < 100) (hb : b < 100) (h : ¬ (nI (a / 10) ≤ hrF t len y - 48 ∧ hrF t len y - 48 ≤ nI (b / 10))) : twS t len (nI a) (nI b) (y, true) = (y, false) := by
  unfold twS
  rw [show dgS t len (nI a / 10) (nI b / 10) (y, true) = (y, false) from by rw [tw_q ha, tw_q hb]; exact dgS_z h, dgS_w]
theorem tw_s {a b i : Nat} (ha : a < 100) (hb : b < 100) (hi : i ≤ 9) (h : hrF t len y - 48 = nI i) (h1 : a / 10 ≤ i ∧ i ≤ b / 10) : twS t len (nI a) (nI b) (y, true) = dgS t len (nI (if i = a / 10 then a % 10 else 0)) (nI (if i = b / 10 then b % 10 else 9)) (y + 1, true) ∧ twV t len (nI a) (nI b) (y, true) = 10 * nI i + dgV t len (nI (if i = a / 10 then a % 10 else 0)) (nI (if i = b / 10 then b % 10 else 9)) (y + 1, true) := by
  have q : nI (a / 10) ≤ hrF t len y - 48 ∧ hrF t len y - 48 ≤ nI (b / 10) := by rw [h]; exact ⟨nI_le h1.1 (by omega), nI_le h1.2 (by omega)⟩
  unfold twS twV
  rw [tw_q ha, tw_q hb, dgS_y q, dgV_y q, h, tw_l ha hi, tw_h hb hi]
  exact ⟨rfl, rfl⟩
theorem dg_e {x : Int32} (h1 : ¬ x < 0) (h2 : x ≤ 9) : ∃ i, i ≤ 9 ∧ x = nI i := by
  obtain ⟨i, -, h4, h5⟩ := nI_rng (a := 0) (b := 9) (by omega) (Int32.not_lt.mp h1) h2 (by omega)
  exact ⟨i, h4, h5⟩
end
set_option maxHeartbeats 4000000 in
set_option maxRecDepth 100000 in
theorem x_rn1 {l : Launch} {w : Wt} {hs : Hs} {n : Option Nat} {k : Nat} {s9 c9 d9 : Nat → Int32} {len y a b : Nat} (h0 : s9 0 = nI len) (hl : len ≤ 120) (h1 : s9 1 = nI y) (hy : y < 900) (hb : b ≤ 9) (ha : a ≤ b) : Cn l w mX3_readNumber 0 0 [.ref (wB w + k), .int 1, .int (nI a), .int (nI b)] (XT w hs k s9 c9 d9) n (XT w hs k (upd s9 1 (nI (dgS c9 len (nI a) (nI b) (y, true)).1)) c9 d9) n (some (.int (if (dgS c9 len (nI a) (nI b) (y, true)).2 = true then (dgV c9 len (nI a) (nI b) (y, true)) else -1))) := by
  refine Cn.of (d := mX3_readNumber) (by decide +kernel) (Nat.le_of_ble_eq_true rfl) ?_
  intro p e R s m args below meth c CX
  replace CX : Ctx p s m args meth c R w RX3 "readNumber" cX3_readNumber 7 (some .int) 1 20 0 0 := CX
  show ZW p l e R s m args below meth c w 7 _ _ 0 0 (MQ below (Qn w _ _ _) args s 0 0 (wA w)) 0 [(0, .ref (wB w + k)), (1, .int _), (2, .int _), (3, .int _)] []
  refine z_iconst CX (v := 0) dX3_readNumber_0 (by decide) ?_
  refine z_istore CX dX3_readNumber_1 (by decide) ?_
  refine z_iload_n CX 1 dX3_readNumber_3 rfl rfl ?_
  refine z_istore CX dX3_readNumber_4 (by decide) ?_
  refine z_iload CX dX3_readNumber_6 rfl ?_
  refine z_if_le CX 83 dX3_readNumber_8 (by decide) (fun q9 => absurd q9 (by decide)) (fun _ => ?_)
  refine z_aload_n CX 0 dX3_readNumber_11 rfl rfl ?_
  refine z_callV1 CX dX3_readNumber_12 cv_X3_25 (x_hand h0 hl h1 (by omega)) xt_0 rfl rfl (Nat.le_of_ble_eq_true rfl) ⟨Nat.le_of_ble_eq_true rfl, Nat.le_of_ble_eq_true rfl⟩ ⟨Nat.le_refl _, Nat.le_refl _⟩ ?_
  refine z_bipush CX (v := 48) dX3_readNumber_15 (by decide) ?_
  refine z_isub CX dX3_readNumber_17 ?_
  refine z_istore CX dX3_readNumber_18 (by decide) ?_
  refine z_iload CX dX3_readNumber_20 rfl ?_
  refine z_if_lt CX 32 dX3_readNumber_22 (by decide) (fun c_22 => ?_) (fun c_22 => ?_)
  · skip
    refine z_iconst CX (v := (-1 : Int32)) dX3_readNumber_32 (by decide) ?_
    exact z_iret CX dX3_readNumber_33 rfl (congrArg Value.int (by rw [show (dgS c9 len (nI a) (nI b) (y, true)) = (y, false) from (dgS_z (fun q => absurd c_22 (Int32.not_lt.mpr (Int32.le_trans (nI_le (a := 0) (Nat.zero_le _) (by omega)) q.1))))]; rfl)) (by rw [show (dgS c9 len (nI a) (nI b) (y, true)) = (y, false) from (dgS_z (fun q => absurd c_22 (Int32.not_lt.mpr (Int32.le_trans (nI_le (a := 0) (Nat.zero_le _) (by omega)) q.1))))]; show _ = XT w hs k (upd s9 1 (nI y)) c9 d9; rw [upd_id9 h1]) (Or.inl rfl)
  · skip
    refine z_iload CX dX3_readNumber_25 rfl ?_
    refine z_bipush CX (v := 9) dX3_readNumber_27 (by decide) ?_
    refine z_icmp_le CX 34 dX3_readNumber_29 (by decide) (fun c_29 => ?_) (fun c_29 => ?_)
    · skip
      obtain ⟨e1, he1, hD1⟩ := dg_e c_22 c_29
      rw [hD1]
      refine z_iload CX dX3_readNumber_34 rfl ?_
      refine z_iload CX dX3_readNumber_36 rfl ?_
      refine z_iload CX dX3_readNumber_38 rfl ?_
      refine z_imul CX dX3_readNumber_40 ?_
      refine z_iadd CX dX3_readNumber_41 ?_
      rw [show (0 : Int32) + nI e1 * 1 = nI e1 from by rw [Int32.mul_one, Int32.zero_add]]
      refine z_istore CX dX3_readNumber_42 (by decide) ?_
      refine z_iload CX dX3_readNumber_44 rfl ?_
      refine z_iload_n CX 3 dX3_readNumber_46 rfl rfl ?_
      refine z_icmp_gt CX 61 dX3_readNumber_47 (by decide) (fun c_47 => ?_) (fun c_47 => ?_)
      · skip
        refine z_iconst CX (v := (-1 : Int32)) dX3_readNumber_61 (by decide) ?_
        exact z_iret CX dX3_readNumber_62 rfl (congrArg Value.int (by rw [show (dgS c9 len (nI a) (nI b) (y, true)) = (y, false) from (dgS_z (fun q => absurd c_47 (Int32.not_lt.mpr (by rw [← hD1]; exact q.2))))]; rfl)) (by rw [show (dgS c9 len (nI a) (nI b) (y, true)) = (y, false) from (dgS_z (fun q => absurd c_47 (Int32.not_lt.mpr (by rw [← hD1]; exact q.2))))]; show _ = XT w hs k (upd s9 1 (nI y)) c9 d9; rw [upd_id9 h1]) (Or.inl rfl)
      · skip
        refine z_iload CX dX3_readNumber_50 rfl ?_
        refine z_iload CX dX3_readNumber_52 rfl ?_
        refine z_iadd CX dX3_readNumber_54 ?_
        refine z_iconst CX (v := 1) dX3_readNumber_55 (by decide) ?_
        refine z_isub CX dX3_readNumber_56 ?_
        rw [show nI e1 + 1 - 1 = nI e1 from by show nI e1 + nI 1 - 1 = nI e1; rw [nI_add]; exact nI_pred _]
        refine z_iload_n CX 2 dX3_readNumber_57 rfl rfl ?_
        refine z_icmp_ge CX 63 dX3_readNumber_58 (by decide) (fun c_58 => ?_) (fun c_58 => ?_)
        · skip
          refine z_aload_n CX 0 dX3_readNumber_63 rfl rfl ?_
          refine z_dup CX dX3_readNumber_64 rfl ?_
          refine z_get CX dX3_readNumber_65 fg_X3_22 xt_0 rfl ?_
          refine z_iconst CX (v := 1) dX3_readNumber_68 (by decide) ?_
          refine z_iadd CX dX3_readNumber_69 ?_
          rw [show s9 1 + 1 = nI (y + 1) from by rw [h1, nI_succ]]
          refine z_put CX dX3_readNumber_70 fg_X3_22 fp_X3_3 xt_0 (Nat.le_of_ble_eq_true rfl) rfl rfl ?_
          refine z_heap xt_f1 ?_
          refine z_iload CX dX3_readNumber_73 rfl ?_
          refine z_bipush CX (v := 10) dX3_readNumber_75 (by decide) ?_
          refine z_idiv CX dX3_readNumber_77 (by decide) ?_
          refine z_istore CX dX3_readNumber_78 (by decide) ?_
          refine z_goto CX 6 dX3_readNumber_80 (by decide) ?_
          refine z_iload CX dX3_readNumber_6 rfl ?_
          refine z_if_le CX 83 dX3_readNumber_8 (by decide) (fun _ => ?_) (fun q9 => absurd (by decide) q9)
          refine z_iload CX dX3_readNumber_83 rfl ?_
          exact z_iret CX dX3_readNumber_85 rfl (congrArg Value.int (by rw [dgS_y (by rw [hD1]; exact ⟨c_58, Int32.not_lt.mp c_47⟩), dgV_y (by rw [hD1]; exact ⟨c_58, Int32.not_lt.mp c_47⟩), hD1]; rfl)) (by rw [dgS_y (by rw [hD1]; exact ⟨c_58, Int32.not_lt.mp c_47⟩)]) (Or.inl rfl)
        · skip
          refine z_iconst CX (v := (-1 : Int32)) dX3_readNumber_61 (by decide) ?_
          exact z_iret CX dX3_readNumber_62 rfl (congrArg Value.int (by rw [show (dgS c9 len (nI a) (nI b) (y, true)) = (y, false) from (dgS_z (fun q => absurd (by rw [← hD1]; exact q.1) c_58))]; rfl)) (by rw [show (dgS c9 len (nI a) (nI b) (y, true)) = (y, false) from (dgS_z (fun q => absurd (by rw [← hD1]; exact q.1) c_58))]; show _ = XT w hs k (upd s9 1 (nI y)) c9 d9; rw [upd_id9 h1]) (Or.inl rfl)
    · skip
      refine z_iconst CX (v := (-1 : Int32)) dX3_readNumber_32 (by decide) ?_
      exact z_iret CX dX3_readNumber_33 rfl (congrArg Value.int (by rw [show (dgS c9 len (nI a) (nI b) (y, true)) = (y, false) from (dgS_z (fun q => absurd (Int32.le_trans q.2 (nI_le (b := 9) hb (by omega))) c_29))]; rfl)) (by rw [show (dgS c9 len (nI a) (nI b) (y, true)) = (y, false) from (dgS_z (fun q => absurd (Int32.le_trans q.2 (nI_le (b := 9) hb (by omega))) c_29))]; show _ = XT w hs k (upd s9 1 (nI y)) c9 d9; rw [upd_id9 h1]) (Or.inl rfl)
set_option maxHeartbeats 4000000 in
set_option maxRecDepth 100000 in
theorem x_rn2 {l : Launch} {w : Wt} {hs : Hs} {n : Option Nat} {k : Nat} {s9 c9 d9 : Nat → Int32} {len y a b : Nat} (h0 : s9 0 = nI len) (hl : len ≤ 120) (h1 : s9 1 = nI y) (hy : y < 900) (ha : a < 100) (hb : b < 100) : Cn l w mX3_readNumber 0 0 [.ref (wB w + k), .int 10, .int (nI a), .int (nI b)] (XT w hs k s9 c9 d9) n (XT w hs k (upd s9 1 (nI (twS c9 len (nI a) (nI b) (y, true)).1)) c9 d9) n (some (.int (if (twS c9 len (nI a) (nI b) (y, true)).2 = true then (twV c9 len (nI a) (nI b) (y, true)) else -1))) := by
  refine Cn.of (d := mX3_readNumber) (by decide +kernel) (Nat.le_of_ble_eq_true rfl) ?_
  intro p e R s m args below meth c CX
  replace CX : Ctx p s m args meth c R w RX3 "readNumber" cX3_readNumber 7 (some .int) 1 20 0 0 := CX
  show ZW p l e R s m args below meth c w 7 _ _ 0 0 (MQ below (Qn w _ _ _) args s 0 0 (wA w)) 0 [(0, .ref (wB w + k)), (1, .int _), (2, .int _), (3, .int _)] []
  refine z_iconst CX (v := 0) dX3_readNumber_0 (by decide) ?_
  refine z_istore CX dX3_readNumber_1 (by decide) ?_
  refine z_iload_n CX 1 dX3_readNumber_3 rfl rfl ?_
  refine z_istore CX dX3_readNumber_4 (by decide) ?_
  refine z_iload CX dX3_readNumber_6 rfl ?_
  refine z_if_le CX 83 dX3_readNumber_8 (by decide) (fun q9 => absurd q9 (by decide)) (fun _ => ?_)
  refine z_aload_n CX 0 dX3_readNumber_11 rfl rfl ?_
  refine z_callV1 CX dX3_readNumber_12 cv_X3_25 (x_hand h0 hl h1 (by omega)) xt_0 rfl rfl (Nat.le_of_ble_eq_true rfl) ⟨Nat.le_of_ble_eq_true rfl, Nat.le_of_ble_eq_true rfl⟩ ⟨Nat.le_refl _, Nat.le_refl _⟩ ?_
  refine z_bipush CX (v := 48) dX3_readNumber_15 (by decide) ?_
  refine z_isub CX dX3_readNumber_17 ?_
  refine z_istore CX dX3_readNumber_18 (by decide) ?_
  refine z_iload CX dX3_readNumber_20 rfl ?_
  refine z_if_lt CX 32 dX3_readNumber_22 (by decide) (fun c_22 => ?_) (fun c_22 => ?_)
  · skip
    refine z_iconst CX (v := (-1 : Int32)) dX3_readNumber_32 (by decide) ?_
    exact z_iret CX dX3_readNumber_33 rfl (congrArg Value.int (by rw [show (twS c9 len (nI a) (nI b) (y, true)) = (y, false) from (tw_1 ha hb (fun q => absurd c_22 (Int32.not_lt.mpr (Int32.le_trans (nI_le (a := 0) (Nat.zero_le _) (by omega)) q.1))))]; rfl)) (by rw [show (twS c9 len (nI a) (nI b) (y, true)) = (y, false) from (tw_1 ha hb (fun q => absurd c_22 (Int32.not_lt.mpr (Int32.le_trans (nI_le (a := 0) (Nat.zero_le _) (by omega)) q.1))))]; show _ = XT w hs k (upd s9 1 (nI y)) c9 d9; rw [upd_id9 h1]) (Or.inl rfl)
  · skip
    refine z_iload CX dX3_readNumber_25 rfl ?_
    refine z_bipush CX (v := 9) dX3_readNumber_27 (by decide) ?_
    refine z_icmp_le CX 34 dX3_readNumber_29 (by decide) (fun c_29 => ?_) (fun c_29 => ?_)
    · skip
      have hz0 := c_22
      obtain ⟨e1, he1, hD1⟩ := dg_e c_22 c_29
      rw [hD1]
      refine z_iload CX dX3_readNumber_34 rfl ?_
      refine z_iload CX dX3_readNumber_36 rfl ?_
      refine z_iload CX dX3_readNumber_38 rfl ?_
      refine z_imul CX dX3_readNumber_40 ?_
      refine z_iadd CX dX3_readNumber_41 ?_
      rw [show (0 : Int32) + nI e1 * 10 = nI (e1 * 10) from by rw [show (10 : Int32) = nI 10 from rfl, pk_mul, Int32.zero_add]]
      refine z_istore CX dX3_readNumber_42 (by decide) ?_
      refine z_iload CX dX3_readNumber_44 rfl ?_
      refine z_iload_n CX 3 dX3_readNumber_46 rfl rfl ?_
      refine z_icmp_gt CX 61 dX3_readNumber_47 (by decide) (fun c_47 => ?_) (fun c_47 => ?_)
      · skip
        refine z_iconst CX (v := (-1 : Int32)) dX3_readNumber_61 (by decide) ?_
        exact z_iret CX dX3_readNumber_62 rfl (congrArg Value.int (by rw [show (twS c9 len (nI a) (nI b) (y, true)) = (y, false) from (tw_1 ha hb (fun q => absurd c_47 (Int32.not_lt.mpr (nI_le (by have q2 := q.2; rw [hD1] at q2; have q3 := nI_led (by omega) (by omega) q2; omega) (by omega)))))]; rfl)) (by rw [show (twS c9 len (nI a) (nI b) (y, true)) = (y, false) from (tw_1 ha hb (fun q => absurd c_47 (Int32.not_lt.mpr (nI_le (by have q2 := q.2; rw [hD1] at q2; have q3 := nI_led (by omega) (by omega) q2; omega) (by omega)))))]; show _ = XT w hs k (upd s9 1 (nI y)) c9 d9; rw [upd_id9 h1]) (Or.inl rfl)
      · skip
        refine z_iload CX dX3_readNumber_50 rfl ?_
        refine z_iload CX dX3_readNumber_52 rfl ?_
        refine z_iadd CX dX3_readNumber_54 ?_
        refine z_iconst CX (v := 1) dX3_readNumber_55 (by decide) ?_
        refine z_isub CX dX3_readNumber_56 ?_
        rw [show nI (e1 * 10) + 10 - 1 = nI (e1 * 10 + 9) from by rw [show (10 : Int32) = nI 10 from rfl, nI_add]; exact nI_pred _]
        refine z_iload_n CX 2 dX3_readNumber_57 rfl rfl ?_
        refine z_icmp_ge CX 63 dX3_readNumber_58 (by decide) (fun c_58 => ?_) (fun c_58 => ?_)
        · skip
          refine z_aload_n CX 0 dX3_readNumber_63 rfl rfl ?_
          refine z_dup CX dX3_readNumber_64 rfl ?_
          refine z_get CX dX3_readNumber_65 fg_X3_22 xt_0 rfl ?_
          refine z_iconst CX (v := 1) dX3_readNumber_68 (by decide) ?_
          refine z_iadd CX dX3_readNumber_69 ?_
          have hr1 : a / 10 ≤ e1 ∧ e1 ≤ b / 10 := ⟨by have z1 := nI_led (by omega) (by omega) c_58; omega, by have z2 := nI_led (by omega) (by omega) (Int32.not_lt.mp c_47); omega⟩
          have hw1 := tw_s (t := c9) (len := len) (y := y) ha hb he1 hD1 hr1
          rw [show s9 1 + 1 = nI (y + 1) from by rw [h1, nI_succ]]
          refine z_put CX dX3_readNumber_70 fg_X3_22 fp_X3_3 xt_0 (Nat.le_of_ble_eq_true rfl) rfl rfl ?_
          refine z_heap xt_f1 ?_
          skip
          refine z_iload CX dX3_readNumber_73 rfl ?_
          refine z_bipush CX (v := 10) dX3_readNumber_75 (by decide) ?_
          refine z_idiv CX dX3_readNumber_77 (by decide) ?_
          refine z_istore CX dX3_readNumber_78 (by decide) ?_
          refine z_goto CX 6 dX3_readNumber_80 (by decide) ?_
          refine z_iload CX dX3_readNumber_6 rfl ?_
          refine z_if_le CX 83 dX3_readNumber_8 (by decide) (fun q9 => absurd q9 (by decide)) (fun _ => ?_)
          refine z_aload_n CX 0 dX3_readNumber_11 rfl rfl ?_
          refine z_callV1 CX dX3_readNumber_12 cv_X3_25 (x_hand (s9 := upd s9 1 (nI (y + 1))) (show upd s9 1 (nI (y + 1)) 0 = nI len from h0) hl pk_us (by omega)) xt_0 rfl rfl (Nat.le_of_ble_eq_true rfl) ⟨Nat.le_of_ble_eq_true rfl, Nat.le_of_ble_eq_true rfl⟩ ⟨Nat.le_refl _, Nat.le_refl _⟩ ?_
          refine z_bipush CX (v := 48) dX3_readNumber_15 (by decide) ?_
          refine z_isub CX dX3_readNumber_17 ?_
          refine z_istore CX dX3_readNumber_18 (by decide) ?_
          refine z_iload CX dX3_readNumber_20 rfl ?_
          refine z_if_lt CX 32 dX3_readNumber_22 (by decide) (fun c_22 => ?_) (fun c_22 => ?_)
          · skip
            refine z_iconst CX (v := (-1 : Int32)) dX3_readNumber_32 (by decide) ?_
            exact z_iret CX dX3_readNumber_33 rfl (congrArg Value.int (by rw [hw1.1, (dgS_z (fun q => absurd c_22 (Int32.not_lt.mpr (Int32.le_trans (nI_le (a := 0) (Nat.zero_le _) (by split <;> omega)) q.1))))]; rfl)) (by rw [hw1.1, (dgS_z (fun q => absurd c_22 (Int32.not_lt.mpr (Int32.le_trans (nI_le (a := 0) (Nat.zero_le _) (by split <;> omega)) q.1))))]) (Or.inl rfl)
          · skip
            refine z_iload CX dX3_readNumber_25 rfl ?_
            refine z_bipush CX (v := 9) dX3_readNumber_27 (by decide) ?_
            refine z_icmp_le CX 34 dX3_readNumber_29 (by decide) (fun c_29 => ?_) (fun c_29 => ?_)
            · skip
              have hz1 := c_22
              obtain ⟨e2, he2, hD2⟩ := dg_e c_22 c_29
              rw [hD2]
              refine z_iload CX dX3_readNumber_34 rfl ?_
              refine z_iload CX dX3_readNumber_36 rfl ?_
              refine z_iload CX dX3_readNumber_38 rfl ?_
              refine z_imul CX dX3_readNumber_40 ?_
              refine z_iadd CX dX3_readNumber_41 ?_
              rw [show nI (e1 * 10) + nI e2 * (10 / 10) = nI (e1 * 10 + e2) from by rw [show (10 : Int32) / 10 = 1 from by decide, Int32.mul_one, nI_add]]
              refine z_istore CX dX3_readNumber_42 (by decide) ?_
              refine z_iload CX dX3_readNumber_44 rfl ?_
              refine z_iload_n CX 3 dX3_readNumber_46 rfl rfl ?_
              refine z_icmp_gt CX 61 dX3_readNumber_47 (by decide) (fun c_47 => ?_) (fun c_47 => ?_)
              · skip
                refine z_iconst CX (v := (-1 : Int32)) dX3_readNumber_61 (by decide) ?_
                exact z_iret CX dX3_readNumber_62 rfl (congrArg Value.int (by rw [hw1.1, (dgS_z (fun q => absurd c_47 (Int32.not_lt.mpr (nI_le (by have q2 := q.2; rw [hD2] at q2; have q3 := nI_led (by omega) (by split <;> omega) q2; split at q3 <;> omega) (by omega)))))]; rfl)) (by rw [hw1.1, (dgS_z (fun q => absurd c_47 (Int32.not_lt.mpr (nI_le (by have q2 := q.2; rw [hD2] at q2; have q3 := nI_led (by omega) (by split <;> omega) q2; split at q3 <;> omega) (by omega)))))]) (Or.inl rfl)
              · skip
                refine z_iload CX dX3_readNumber_50 rfl ?_
                refine z_iload CX dX3_readNumber_52 rfl ?_
                refine z_iadd CX dX3_readNumber_54 ?_
                refine z_iconst CX (v := 1) dX3_readNumber_55 (by decide) ?_
                refine z_isub CX dX3_readNumber_56 ?_
                rw [show nI (e1 * 10 + e2) + 10 / 10 - 1 = nI (e1 * 10 + e2) from by rw [show (10 : Int32) / 10 = nI 1 from by decide, nI_add]; exact nI_pred _]
                refine z_iload_n CX 2 dX3_readNumber_57 rfl rfl ?_
                refine z_icmp_ge CX 63 dX3_readNumber_58 (by decide) (fun c_58 => ?_) (fun c_58 => ?_)
                · skip
                  refine z_aload_n CX 0 dX3_readNumber_63 rfl rfl ?_
                  refine z_dup CX dX3_readNumber_64 rfl ?_
                  refine z_get CX dX3_readNumber_65 fg_X3_22 xt_0 rfl ?_
                  refine z_iconst CX (v := 1) dX3_readNumber_68 (by decide) ?_
                  refine z_iadd CX dX3_readNumber_69 ?_
                  rw [show upd s9 1 (nI (y + 1)) 1 + 1 = nI (y + 1 + 1) from by rw [pk_us]; exact ix_add (a := y + 1) (b := 1) rfl rfl]
                  refine z_put CX dX3_readNumber_70 fg_X3_22 fp_X3_3 xt_0 (Nat.le_of_ble_eq_true rfl) rfl rfl ?_
                  refine z_heap xt_f1 ?_
                  rw [upd_up9]
                  refine z_iload CX dX3_readNumber_73 rfl ?_
                  refine z_bipush CX (v := 10) dX3_readNumber_75 (by decide) ?_
                  refine z_idiv CX dX3_readNumber_77 (by decide) ?_
                  refine z_istore CX dX3_readNumber_78 (by decide) ?_
                  refine z_goto CX 6 dX3_readNumber_80 (by decide) ?_
                  refine z_iload CX dX3_readNumber_6 rfl ?_
                  refine z_if_le CX 83 dX3_readNumber_8 (by decide) (fun _ => ?_) (fun q9 => absurd (by decide) q9)
                  refine z_iload CX dX3_readNumber_83 rfl ?_
                  exact z_iret CX dX3_readNumber_85 rfl (congrArg Value.int (by rw [hw1.1, hw1.2, dgS_y (by rw [hD2]; have z1 := nI_led (by omega) (by omega) c_58; have z2 := nI_led (by omega) (by omega) (Int32.not_lt.mp c_47); exact ⟨nI_le (by split <;> omega) (by omega), nI_le (by split <;> omega) (by split <;> omega)⟩), dgV_y (by rw [hD2]; have z1 := nI_led (by omega) (by omega) c_58; have z2 := nI_led (by omega) (by omega) (Int32.not_lt.mp c_47); exact ⟨nI_le (by split <;> omega) (by omega), nI_le (by split <;> omega) (by split <;> omega)⟩), hD2]; show 10 * nI e1 + nI e2 = _; rw [show (10 : Int32) = nI 10 from rfl, pk_mul, nI_add, Nat.mul_comm])) (by rw [hw1.1, dgS_y (by rw [hD2]; have z1 := nI_led (by omega) (by omega) c_58; have z2 := nI_led (by omega) (by omega) (Int32.not_lt.mp c_47); exact ⟨nI_le (by split <;> omega) (by omega), nI_le (by split <;> omega) (by split <;> omega)⟩)]) (Or.inl rfl)
                · skip
                  refine z_iconst CX (v := (-1 : Int32)) dX3_readNumber_61 (by decide) ?_
                  exact z_iret CX dX3_readNumber_62 rfl (congrArg Value.int (by rw [hw1.1, (dgS_z (fun q => absurd (nI_le (by have q2 := q.1; rw [hD2] at q2; have q3 := nI_led (by split <;> omega) (by omega) q2; split at q3 <;> omega) (by omega)) c_58))]; rfl)) (by rw [hw1.1, (dgS_z (fun q => absurd (nI_le (by have q2 := q.1; rw [hD2] at q2; have q3 := nI_led (by split <;> omega) (by omega) q2; split at q3 <;> omega) (by omega)) c_58))]) (Or.inl rfl)
            · skip
              refine z_iconst CX (v := (-1 : Int32)) dX3_readNumber_32 (by decide) ?_
              exact z_iret CX dX3_readNumber_33 rfl (congrArg Value.int (by rw [hw1.1, (dgS_z (fun q => absurd (Int32.le_trans q.2 (nI_le (b := 9) (by split <;> omega) (by omega))) c_29))]; rfl)) (by rw [hw1.1, (dgS_z (fun q => absurd (Int32.le_trans q.2 (nI_le (b := 9) (by split <;> omega) (by omega))) c_29))]) (Or.inl rfl)
        · skip
          refine z_iconst CX (v := (-1 : Int32)) dX3_readNumber_61 (by decide) ?_
          exact z_iret CX dX3_readNumber_62 rfl (congrArg Value.int (by rw [show (twS c9 len (nI a) (nI b) (y, true)) = (y, false) from (tw_1 ha hb (fun q => absurd (nI_le (by have q2 := q.1; rw [hD1] at q2; have q3 := nI_led (by omega) (by omega) q2; omega) (by omega)) c_58))]; rfl)) (by rw [show (twS c9 len (nI a) (nI b) (y, true)) = (y, false) from (tw_1 ha hb (fun q => absurd (nI_le (by have q2 := q.1; rw [hD1] at q2; have q3 := nI_led (by omega) (by omega) q2; omega) (by omega)) c_58))]; show _ = XT w hs k (upd s9 1 (nI y)) c9 d9; rw [upd_id9 h1]) (Or.inl rfl)
    · skip
      refine z_iconst CX (v := (-1 : Int32)) dX3_readNumber_32 (by decide) ?_
      exact z_iret CX dX3_readNumber_33 rfl (congrArg Value.int (by rw [show (twS c9 len (nI a) (nI b) (y, true)) = (y, false) from (tw_1 ha hb (fun q => absurd (Int32.le_trans q.2 (nI_le (b := 9) (by omega) (by omega))) c_29))]; rfl)) (by rw [show (twS c9 len (nI a) (nI b) (y, true)) = (y, false) from (tw_1 ha hb (fun q => absurd (Int32.le_trans q.2 (nI_le (b := 9) (by omega) (by omega))) c_29))]; show _ = XT w hs k (upd s9 1 (nI y)) c9 d9; rw [upd_id9 h1]) (Or.inl rfl)
