/-! the model: scripts, simulations, a new object -/
theorem tnF_e : ∀ n : Nat, tnF n = lN (10 ^ n)
  | 0 => rfl
  | n + 1 => by
    show tnF n * 10 = _
    rw [tnF_e n, show (10 : Int64) = lN 10 from rfl, lN_mul, Nat.pow_succ]
theorem gq1 {G : Nat} (h : G < 100000) : nI G / 1000 - nI G / 1000 / 10 * 10 = nI (G / 1000 % 10) := by
  rw [show nI G / 1000 = nI (G / 1000) from pk_div (d := 1000) (by omega) (by omega) (by omega)]
  exact pk_rem (d := 10) (by omega) (by omega) (by omega)
theorem gq2 {G : Nat} (h : G < 100000) : nI G / 100 - nI G / 100 / 10 * 10 = nI (G / 100 % 10) := by
  rw [show nI G / 100 = nI (G / 100) from pk_div (d := 100) (by omega) (by omega) (by omega)]
  exact pk_rem (d := 10) (by omega) (by omega) (by omega)
theorem gq3 {G : Nat} (h : G < 100000) : nI G / 10 - nI G / 10 / 10 * 10 = nI (G / 10 % 10) := by
  rw [show nI G / 10 = nI (G / 10) from pk_div (d := 10) (by omega) (by omega) (by omega)]
  exact pk_rem (d := 10) (by omega) (by omega) (by omega)
theorem gq4 {G : Nat} (h : G < 100000) : nI G - nI G / 100 * 100 = nI (G % 100) := pk_rem (d := 100) (by omega) (by omega) (by omega)
theorem gq5 {G : Nat} (h : G < 100000) : nI G - nI G / 10 * 10 = nI (G % 10) := pk_rem (d := 10) (by omega) (by omega) (by omega)
theorem gq6 {G : Nat} (h : G < 100000) : nI G - nI G / 1000 * 1000 = nI (G % 1000) := pk_rem (d := 1000) (by omega) (by omega) (by omega)
theorem gq7 {G : Nat} (h : G < 100000) : nI G / 10000 = nI (G / 10000) := pk_div (d := 10000) (by omega) (by omega) (by omega)
theorem gq8 {G : Nat} (h : G < 100000) : nI G - nI G / 10000 * 10000 = nI (G % 10000) := pk_rem (d := 10000) (by omega) (by omega) (by omega)
def cmdF (f : Nat → Int32) (G : Nat) : Bool × (Nat → Int32) := match G / 10000 with
  | 1 => if G % 100 = 0 then pfL f (nI (G / 1000 % 10)) (nI (G / 100 % 10)) else (false, f)
  | 2 => if G % 10000 < 100 then pfM f (nI (G % 100)) else (false, f)
  | 3 => pfH f (nI (G / 1000 % 10)) (nI (G / 100 % 10)) (nI (G % 100))
  | 4 => if G % 100 = 0 then pfT f (nI (G / 1000 % 10)) (nI (G / 100 % 10)) else (false, f)
  | 5 => if G % 1000 < 10 then pfS f (nI (G / 1000 % 10)) (nI (G % 10)) else (false, f)
  | 6 => if G % 10 = 0 then pfB f (nI (G / 1000 % 10)) (nI (G / 100 % 10)) (nI (G / 10 % 10)) else (false, f)
  | 7 => (decide (G % 1000 < 10 ∧ G / 1000 % 10 < bN f ∧ f (24 + 10 * (G / 1000 % 10) + 3) = nI (G % 10)), f)
  | 8 => (decide (G / 100 % 10 = 0 ∧ G / 1000 % 10 ≤ 3 ∧ nI (G % 100) ≤ f (134 + 3 * (G / 1000 % 10))), f)
  | 9 => (decide (G / 100 % 10 = 0 ∧ G / 1000 % 10 < bN f ∧ f (24 + 10 * (G / 1000 % 10) + 6) ≤ nI (G % 100)), f)
  | _ => (false, f)
theorem cmdF_ok {f : Nat → Int32} {G : Nat} (h : OKr f) : OKr (cmdF f G).2 := by
  unfold cmdF
  split
  · split
    · exact pfL_ok h
    · exact h
  · split
    · exact pfM_ok h
    · exact h
  · exact pfH_ok h
  · split
    · exact pfT_ok h
    · exact h
  · split
    · exact pfS_ok h
    · exact h
  · split
    · exact pfB_ok h
    · exact h
  · exact h
  · exact h
  · exact h
  · exact h
abbrev rm (a b : Int32) : Int32 := a - a / b * b
def stN (f : Nat → Int32) (q : Int32) (i : Nat) : Bool × (Nat → Int32) := match i with
  | 0 => pfG f (4 + rm q 20) (rm (q / 32) 6) (rm (q / 256) 6) (rm (q / 2048) 20)
  | 1 => pfB f (1 + rm q 9) (rm (q / 16) 4) (rm (q / 64) 4)
  | 2 => pfB f (1 + rm q 9) (rm (q / 16) 4) (rm (q / 64) 4)
  | 3 => pfL f (rm q 10) (rm (q / 16) 6)
  | 4 => pfL f (rm q 10) (rm (q / 16) 6)
  | 5 => pfL f (rm q 10) (rm (q / 16) 6)
  | 6 => pfL f (rm q 10) (rm (q / 16) 6)
  | 7 => pfH f (rm q 4) (rm (q / 4) 6) (rm (q / 32) 20)
  | 8 => pfT f (rm q 4) (rm (q / 4) 10)
  | 9 => pfT f (rm q 4) (rm (q / 4) 10)
  | 10 => pfS f (rm q 3) (rm (q / 4) 5)
  | _ => pfM f (1 + rm q 4)
def stF (f : Nat → Int32) (r : Int32) : Bool × (Nat → Int32) := stN f (r / 16) (if 0 ≤ rm r 16 ∧ rm r 16 ≤ 10 then (rm r 16).toNatClampNeg else 11)
theorem stF_ok {f : Nat → Int32} {r : Int32} (h : OKr f) : OKr (stF f r).2 := by
  unfold stF
  generalize (if 0 ≤ rm r 16 ∧ rm r 16 ≤ 10 then (rm r 16).toNatClampNeg else 11) = i
  unfold stN
  split <;> first | exact pfG_ok h | exact pfB_ok h | exact pfL_ok h | exact pfH_ok h | exact pfT_ok h | exact pfS_ok h | exact pfM_ok h
def scR (S N : Nat) : Nat → Nat → (Nat → Int32) → Int32 × (Nat → Int32)
  | 0, _, tr => (-1, tr)
  | j + 1, k, tr => if (cmdF tr (S / 10 ^ (5 * (N - 1 - k)) % 100000)).1 = true then scR S N j (k + 1) (cmdF tr (S / 10 ^ (5 * (N - 1 - k)) % 100000)).2 else (nI k, (cmdF tr (S / 10 ^ (5 * (N - 1 - k)) % 100000)).2)
def rs_runScript (u : Nat → Int32) (A : Nat → Nat → Int32) (a : Int32) (z : Int64) : RSt := if (1 ≤ a ∧ a ≤ 3) ∧ (0 ≤ z ∧ z ≤ tnF (5 * a.toNatClampNeg) - 1) then (0, (scR z.toInt.toNat a.toNatClampNeg a.toNatClampNeg 0 (A 0)).1, upd u 0 0, A) else bad 1 u A
def sxF (x : Int64) : Int32 := ((x.toUInt64 >>> ((33 : Int32).toInt64.toUInt64 &&& Int64.toUInt64 63)).toInt64).toInt32
def nxF (x : Int64) : Int64 := x * 6364136223846793005 + 1442695040888963407
def itR (nx : Int64 → Int64) (sx : Int64 → Int32) : Nat → Int64 → (Nat → Int32) → (Nat → Int32)
  | 0, _, tr => tr
  | j + 1, x, tr => itR nx sx j (nx x) (stF tr (sx (nx x))).2
theorem itR_s {nx : Int64 → Int64} {sx : Int64 → Int32} {j : Nat} {x : Int64} {tr : Nat → Int32} : itR nx sx (j + 1) x tr = itR nx sx j (nx x) (stF tr (sx (nx x))).2 := rfl
theorem itR_ok {nx : Int64 → Int64} {sx : Int64 → Int32} : ∀ (j : Nat) (x : Int64) (tr : Nat → Int32), OKr tr → OKr (itR nx sx j x tr)
  | 0, _, _, h => h
  | j + 1, x, tr, h => by
    rw [itR_s]; exact itR_ok j (nx x) _ (stF_ok h)
def smR (j : Nat) (x : Int64) (tr : Nat → Int32) : Nat → Int32 := itR nxF sxF j x tr
def smV (f T : Nat → Int32) : Int32 := 10000 * (T 149 - f 149) + 100 * (ptsF T - ptsF T / 100 * 100) + nI (cntS T (bN T) 3)
def rs_sim (nx : Int64 → Int64) (sx : Int64 → Int32) (u : Nat → Int32) (A : Nat → Nat → Int32) (z : Int64) (a : Int32) : RSt := if 1 ≤ a ∧ a ≤ 60 then (0, smV (A 0) (itR nx sx a.toNatClampNeg z (A 0)), upd u 0 0, A) else bad 1 u A
theorem smR_ok (j : Nat) (x : Int64) (tr : Nat → Int32) (h : OKr tr) : OKr (smR j x tr) := itR_ok j x tr h
set_option maxHeartbeats 4000000 in
set_option maxRecDepth 100000 in
theorem r_cmd {l : Launch} {w : Wt} {hs : Hs} {n : Option Nat} {k : Nat} {u : Nat → Int32} {A : Nat → Nat → Int32} (hO : OKr (A 1)) {G : Nat} (hG : G < 100000) : Cn l w mX6_command 0 0 [.ref (wB w + k), .int (nI G)] (modH w hs k u A) n (modH w hs k u (upA A 1 (cmdF (A 1) G).2)) n (some (.int (bI (cmdF (A 1) G).1))) := by
  have h9 := hO.2.2
  obtain ⟨q, hq⟩ : ∃ q, G / 10000 = q := ⟨_, rfl⟩
  have hq9 : q < 10 := by omega
  match q, hq9, hq with
  | 0, _, hq =>
    rw [show cmdF (A 1) G = (false, A 1) by unfold cmdF; rw [hq]; exact rfl]
    refine Cn.of (d := mX6_command) (by decide +kernel) (Nat.le_of_ble_eq_true rfl) ?_
    intro p e R s m args below meth c CX
    replace CX : Ctx p s m args meth c R w RX6 "command" cX6_command 8 (some .boolean) 8 180 0 0 := CX
    show ZW p l e R s m args below meth c w 8 _ _ 0 0 (MQ below (Qn w _ _ _) args s 0 0 (wA w)) 0 [(0, .ref (wB w + k)), (1, .int _)] []
    refine z_iload_n CX 1 dX6_command_0 rfl rfl ?_
    refine z_sipush CX (v := 1000) dX6_command_1 (by decide) ?_
    refine z_idiv CX dX6_command_4 (by decide) ?_
    refine z_bipush CX (v := 10) dX6_command_5 (by decide) ?_
    refine z_irem CX dX6_command_7 (by decide) ?_
    rw [gq1 hG]
    refine z_istore_n CX 2 dX6_command_8 rfl (by decide) ?_
    refine z_iload_n CX 1 dX6_command_9 rfl rfl ?_
    refine z_bipush CX (v := 100) dX6_command_10 (by decide) ?_
    refine z_idiv CX dX6_command_12 (by decide) ?_
    refine z_bipush CX (v := 10) dX6_command_13 (by decide) ?_
    refine z_irem CX dX6_command_15 (by decide) ?_
    rw [gq2 hG]
    refine z_istore_n CX 3 dX6_command_16 rfl (by decide) ?_
    refine z_iload_n CX 1 dX6_command_17 rfl rfl ?_
    refine z_bipush CX (v := 10) dX6_command_18 (by decide) ?_
    refine z_idiv CX dX6_command_20 (by decide) ?_
    refine z_bipush CX (v := 10) dX6_command_21 (by decide) ?_
    refine z_irem CX dX6_command_23 (by decide) ?_
    rw [gq3 hG]
    refine z_istore CX dX6_command_24 (by decide) ?_
    refine z_iload_n CX 1 dX6_command_26 rfl rfl ?_
    refine z_bipush CX (v := 100) dX6_command_27 (by decide) ?_
    refine z_irem CX dX6_command_29 (by decide) ?_
    rw [gq4 hG]
    refine z_istore CX dX6_command_30 (by decide) ?_
    refine z_iload_n CX 1 dX6_command_32 rfl rfl ?_
    refine z_bipush CX (v := 10) dX6_command_33 (by decide) ?_
    refine z_irem CX dX6_command_35 (by decide) ?_
    rw [gq5 hG]
    refine z_istore CX dX6_command_36 (by decide) ?_
    refine z_iload_n CX 1 dX6_command_38 rfl rfl ?_
    refine z_sipush CX (v := 1000) dX6_command_39 (by decide) ?_
    refine z_irem CX dX6_command_42 (by decide) ?_
    rw [gq6 hG]
    refine z_istore CX dX6_command_43 (by decide) ?_
    refine z_iload_n CX 1 dX6_command_45 rfl rfl ?_
    refine z_sipush CX (v := 10000) dX6_command_46 (by decide) ?_
    refine z_idiv CX dX6_command_49 (by decide) ?_
    rw [gq7 hG, hq]
    refine z_tabOut CX 328 dX6_command_50 (by decide) (by decide) ?_
    refine z_iconst CX (v := 0) dX6_command_328 (by decide) ?_
    exact z_zret CX dX6_command_329 rfl (by first | rfl | exact bI_nar _) rfl (by show _ = modH w hs k u (upA A 1 (A 1)); rw [upA_id]) (Or.inl rfl)
  | 1, _, hq =>
    by_cases hc : G % 100 = 0
    · rw [show cmdF (A 1) G = pfL (A 1) (nI (G / 1000 % 10)) (nI (G / 100 % 10)) by unfold cmdF; rw [hq]; exact if_pos hc]
      refine Cn.of (d := mX6_command) (by decide +kernel) (Nat.le_of_ble_eq_true rfl) ?_
      intro p e R s m args below meth c CX
      replace CX : Ctx p s m args meth c R w RX6 "command" cX6_command 8 (some .boolean) 8 180 0 0 := CX
      show ZW p l e R s m args below meth c w 8 _ _ 0 0 (MQ below (Qn w _ _ _) args s 0 0 (wA w)) 0 [(0, .ref (wB w + k)), (1, .int _)] []
      refine z_iload_n CX 1 dX6_command_0 rfl rfl ?_
      refine z_sipush CX (v := 1000) dX6_command_1 (by decide) ?_
      refine z_idiv CX dX6_command_4 (by decide) ?_
      refine z_bipush CX (v := 10) dX6_command_5 (by decide) ?_
      refine z_irem CX dX6_command_7 (by decide) ?_
      rw [gq1 hG]
      refine z_istore_n CX 2 dX6_command_8 rfl (by decide) ?_
      refine z_iload_n CX 1 dX6_command_9 rfl rfl ?_
      refine z_bipush CX (v := 100) dX6_command_10 (by decide) ?_
      refine z_idiv CX dX6_command_12 (by decide) ?_
      refine z_bipush CX (v := 10) dX6_command_13 (by decide) ?_
      refine z_irem CX dX6_command_15 (by decide) ?_
      rw [gq2 hG]
      refine z_istore_n CX 3 dX6_command_16 rfl (by decide) ?_
      refine z_iload_n CX 1 dX6_command_17 rfl rfl ?_
      refine z_bipush CX (v := 10) dX6_command_18 (by decide) ?_
      refine z_idiv CX dX6_command_20 (by decide) ?_
      refine z_bipush CX (v := 10) dX6_command_21 (by decide) ?_
      refine z_irem CX dX6_command_23 (by decide) ?_
      rw [gq3 hG]
      refine z_istore CX dX6_command_24 (by decide) ?_
      refine z_iload_n CX 1 dX6_command_26 rfl rfl ?_
      refine z_bipush CX (v := 100) dX6_command_27 (by decide) ?_
      refine z_irem CX dX6_command_29 (by decide) ?_
      rw [gq4 hG]
      refine z_istore CX dX6_command_30 (by decide) ?_
      refine z_iload_n CX 1 dX6_command_32 rfl rfl ?_
      refine z_bipush CX (v := 10) dX6_command_33 (by decide) ?_
      refine z_irem CX dX6_command_35 (by decide) ?_
      rw [gq5 hG]
      refine z_istore CX dX6_command_36 (by decide) ?_
      refine z_iload_n CX 1 dX6_command_38 rfl rfl ?_
      refine z_sipush CX (v := 1000) dX6_command_39 (by decide) ?_
      refine z_irem CX dX6_command_42 (by decide) ?_
      rw [gq6 hG]
      refine z_istore CX dX6_command_43 (by decide) ?_
      refine z_iload_n CX 1 dX6_command_45 rfl rfl ?_
      refine z_sipush CX (v := 10000) dX6_command_46 (by decide) ?_
      refine z_idiv CX dX6_command_49 (by decide) ?_
      rw [gq7 hG, hq]
      refine z_tabIn CX 100 dX6_command_50 (by decide) (by decide) rfl (by decide) ?_
      refine z_iload CX dX6_command_100 rfl ?_
      refine z_if_ne CX 118 dX6_command_102 (by decide) (fun q9 => absurd q9 (fun z => z (by rw [hc]; rfl))) (fun _ => ?_)
      refine z_aload_n CX 0 dX6_command_105 rfl rfl ?_
      refine z_iload_n CX 2 dX6_command_106 rfl rfl ?_
      refine z_iload_n CX 3 dX6_command_107 rfl rfl ?_
      refine z_callV1 CX dX6_command_108 cv_X6_254 (r_launch hO (nI (G / 1000 % 10)) (nI (G / 100 % 10))) mo_0 rfl rfl (Nat.le_of_ble_eq_true rfl) ⟨Nat.le_of_ble_eq_true rfl, Nat.le_of_ble_eq_true rfl⟩ ⟨Nat.le_refl _, Nat.le_refl _⟩ ?_
      refine z_if_eq CX 118 dX6_command_111 (by decide) (fun c_111 => ?_) (fun c_111 => ?_)
      · skip
        refine z_iconst CX (v := 0) dX6_command_118 (by decide) ?_
        exact z_zret CX dX6_command_119 rfl (by first | rfl | exact bI_nar _) (congrArg Value.int (by rw [bI_f c_111]; rfl)) rfl (Or.inl rfl)
      · skip
        refine z_iconst CX (v := 1) dX6_command_114 (by decide) ?_
        refine z_goto CX 119 dX6_command_115 (by decide) ?_
        exact z_zret CX dX6_command_119 rfl (by first | rfl | exact bI_nar _) (congrArg Value.int (by rw [bI_t c_111]; rfl)) rfl (Or.inl rfl)
    · rw [show cmdF (A 1) G = (false, A 1) by unfold cmdF; rw [hq]; exact if_neg hc]
      refine Cn.of (d := mX6_command) (by decide +kernel) (Nat.le_of_ble_eq_true rfl) ?_
      intro p e R s m args below meth c CX
      replace CX : Ctx p s m args meth c R w RX6 "command" cX6_command 8 (some .boolean) 8 180 0 0 := CX
      show ZW p l e R s m args below meth c w 8 _ _ 0 0 (MQ below (Qn w _ _ _) args s 0 0 (wA w)) 0 [(0, .ref (wB w + k)), (1, .int _)] []
      refine z_iload_n CX 1 dX6_command_0 rfl rfl ?_
      refine z_sipush CX (v := 1000) dX6_command_1 (by decide) ?_
      refine z_idiv CX dX6_command_4 (by decide) ?_
      refine z_bipush CX (v := 10) dX6_command_5 (by decide) ?_
      refine z_irem CX dX6_command_7 (by decide) ?_
      rw [gq1 hG]
      refine z_istore_n CX 2 dX6_command_8 rfl (by decide) ?_
      refine z_iload_n CX 1 dX6_command_9 rfl rfl ?_
      refine z_bipush CX (v := 100) dX6_command_10 (by decide) ?_
      refine z_idiv CX dX6_command_12 (by decide) ?_
      refine z_bipush CX (v := 10) dX6_command_13 (by decide) ?_
      refine z_irem CX dX6_command_15 (by decide) ?_
      rw [gq2 hG]
      refine z_istore_n CX 3 dX6_command_16 rfl (by decide) ?_
      refine z_iload_n CX 1 dX6_command_17 rfl rfl ?_
      refine z_bipush CX (v := 10) dX6_command_18 (by decide) ?_
      refine z_idiv CX dX6_command_20 (by decide) ?_
      refine z_bipush CX (v := 10) dX6_command_21 (by decide) ?_
      refine z_irem CX dX6_command_23 (by decide) ?_
      rw [gq3 hG]
      refine z_istore CX dX6_command_24 (by decide) ?_
      refine z_iload_n CX 1 dX6_command_26 rfl rfl ?_
      refine z_bipush CX (v := 100) dX6_command_27 (by decide) ?_
      refine z_irem CX dX6_command_29 (by decide) ?_
      rw [gq4 hG]
      refine z_istore CX dX6_command_30 (by decide) ?_
      refine z_iload_n CX 1 dX6_command_32 rfl rfl ?_
      refine z_bipush CX (v := 10) dX6_command_33 (by decide) ?_
      refine z_irem CX dX6_command_35 (by decide) ?_
      rw [gq5 hG]
      refine z_istore CX dX6_command_36 (by decide) ?_
      refine z_iload_n CX 1 dX6_command_38 rfl rfl ?_
      refine z_sipush CX (v := 1000) dX6_command_39 (by decide) ?_
      refine z_irem CX dX6_command_42 (by decide) ?_
      rw [gq6 hG]
      refine z_istore CX dX6_command_43 (by decide) ?_
      refine z_iload_n CX 1 dX6_command_45 rfl rfl ?_
      refine z_sipush CX (v := 10000) dX6_command_46 (by decide) ?_
      refine z_idiv CX dX6_command_49 (by decide) ?_
      rw [gq7 hG, hq]
      refine z_tabIn CX 100 dX6_command_50 (by decide) (by decide) rfl (by decide) ?_
      refine z_iload CX dX6_command_100 rfl ?_
      refine z_if_ne CX 118 dX6_command_102 (by decide) (fun _ => ?_) (fun q9 => absurd q9 (nI_ne0 (by omega) (by omega)))
      refine z_iconst CX (v := 0) dX6_command_118 (by decide) ?_
      exact z_zret CX dX6_command_119 rfl (by first | rfl | exact bI_nar _) rfl (by show _ = modH w hs k u (upA A 1 (A 1)); rw [upA_id]) (Or.inl rfl)
  | 2, _, hq =>
    by_cases hc : G % 10000 < 100
    · rw [show cmdF (A 1) G = pfM (A 1) (nI (G % 100)) by unfold cmdF; rw [hq]; exact if_pos hc]
      refine Cn.of (d := mX6_command) (by decide +kernel) (Nat.le_of_ble_eq_true rfl) ?_
      intro p e R s m args below meth c CX
      replace CX : Ctx p s m args meth c R w RX6 "command" cX6_command 8 (some .boolean) 8 180 0 0 := CX
      show ZW p l e R s m args below meth c w 8 _ _ 0 0 (MQ below (Qn w _ _ _) args s 0 0 (wA w)) 0 [(0, .ref (wB w + k)), (1, .int _)] []
      refine z_iload_n CX 1 dX6_command_0 rfl rfl ?_
      refine z_sipush CX (v := 1000) dX6_command_1 (by decide) ?_
      refine z_idiv CX dX6_command_4 (by decide) ?_
      refine z_bipush CX (v := 10) dX6_command_5 (by decide) ?_
      refine z_irem CX dX6_command_7 (by decide) ?_
      rw [gq1 hG]
      refine z_istore_n CX 2 dX6_command_8 rfl (by decide) ?_
      refine z_iload_n CX 1 dX6_command_9 rfl rfl ?_
      refine z_bipush CX (v := 100) dX6_command_10 (by decide) ?_
      refine z_idiv CX dX6_command_12 (by decide) ?_
      refine z_bipush CX (v := 10) dX6_command_13 (by decide) ?_
      refine z_irem CX dX6_command_15 (by decide) ?_
      rw [gq2 hG]
      refine z_istore_n CX 3 dX6_command_16 rfl (by decide) ?_
      refine z_iload_n CX 1 dX6_command_17 rfl rfl ?_
      refine z_bipush CX (v := 10) dX6_command_18 (by decide) ?_
      refine z_idiv CX dX6_command_20 (by decide) ?_
      refine z_bipush CX (v := 10) dX6_command_21 (by decide) ?_
      refine z_irem CX dX6_command_23 (by decide) ?_
      rw [gq3 hG]
      refine z_istore CX dX6_command_24 (by decide) ?_
      refine z_iload_n CX 1 dX6_command_26 rfl rfl ?_
      refine z_bipush CX (v := 100) dX6_command_27 (by decide) ?_
      refine z_irem CX dX6_command_29 (by decide) ?_
      rw [gq4 hG]
      refine z_istore CX dX6_command_30 (by decide) ?_
      refine z_iload_n CX 1 dX6_command_32 rfl rfl ?_
      refine z_bipush CX (v := 10) dX6_command_33 (by decide) ?_
      refine z_irem CX dX6_command_35 (by decide) ?_
      rw [gq5 hG]
      refine z_istore CX dX6_command_36 (by decide) ?_
      refine z_iload_n CX 1 dX6_command_38 rfl rfl ?_
      refine z_sipush CX (v := 1000) dX6_command_39 (by decide) ?_
      refine z_irem CX dX6_command_42 (by decide) ?_
      rw [gq6 hG]
      refine z_istore CX dX6_command_43 (by decide) ?_
      refine z_iload_n CX 1 dX6_command_45 rfl rfl ?_
      refine z_sipush CX (v := 10000) dX6_command_46 (by decide) ?_
      refine z_idiv CX dX6_command_49 (by decide) ?_
      rw [gq7 hG, hq]
      refine z_tabIn CX 120 dX6_command_50 (by decide) (by decide) rfl (by decide) ?_
      refine z_iload_n CX 1 dX6_command_120 rfl rfl ?_
      refine z_sipush CX (v := 10000) dX6_command_121 (by decide) ?_
      refine z_irem CX dX6_command_124 (by decide) ?_
      rw [gq8 hG]
      refine z_bipush CX (v := 100) dX6_command_125 (by decide) ?_
      refine z_icmp_ge CX 143 dX6_command_127 (by decide) (fun q9 => absurd q9 (nI_ge (b := 100) hc (by omega))) (fun _ => ?_)
      refine z_aload_n CX 0 dX6_command_130 rfl rfl ?_
      refine z_iload CX dX6_command_131 rfl ?_
      refine z_callV1 CX dX6_command_133 cv_X6_257 (r_minutes hO (nI (G % 100))) mo_0 rfl rfl (Nat.le_of_ble_eq_true rfl) ⟨Nat.le_of_ble_eq_true rfl, Nat.le_of_ble_eq_true rfl⟩ ⟨Nat.le_refl _, Nat.le_refl _⟩ ?_
      refine z_if_eq CX 143 dX6_command_136 (by decide) (fun c_136 => ?_) (fun c_136 => ?_)
      · skip
        refine z_iconst CX (v := 0) dX6_command_143 (by decide) ?_
        exact z_zret CX dX6_command_144 rfl (by first | rfl | exact bI_nar _) (congrArg Value.int (by rw [bI_f c_136]; rfl)) rfl (Or.inl rfl)
      · skip
        refine z_iconst CX (v := 1) dX6_command_139 (by decide) ?_
        refine z_goto CX 144 dX6_command_140 (by decide) ?_
        exact z_zret CX dX6_command_144 rfl (by first | rfl | exact bI_nar _) (congrArg Value.int (by rw [bI_t c_136]; rfl)) rfl (Or.inl rfl)
    · rw [show cmdF (A 1) G = (false, A 1) by unfold cmdF; rw [hq]; exact if_neg hc]
      refine Cn.of (d := mX6_command) (by decide +kernel) (Nat.le_of_ble_eq_true rfl) ?_
      intro p e R s m args below meth c CX
      replace CX : Ctx p s m args meth c R w RX6 "command" cX6_command 8 (some .boolean) 8 180 0 0 := CX
      show ZW p l e R s m args below meth c w 8 _ _ 0 0 (MQ below (Qn w _ _ _) args s 0 0 (wA w)) 0 [(0, .ref (wB w + k)), (1, .int _)] []
      refine z_iload_n CX 1 dX6_command_0 rfl rfl ?_
      refine z_sipush CX (v := 1000) dX6_command_1 (by decide) ?_
      refine z_idiv CX dX6_command_4 (by decide) ?_
      refine z_bipush CX (v := 10) dX6_command_5 (by decide) ?_
      refine z_irem CX dX6_command_7 (by decide) ?_
      rw [gq1 hG]
      refine z_istore_n CX 2 dX6_command_8 rfl (by decide) ?_
      refine z_iload_n CX 1 dX6_command_9 rfl rfl ?_
      refine z_bipush CX (v := 100) dX6_command_10 (by decide) ?_
      refine z_idiv CX dX6_command_12 (by decide) ?_
      refine z_bipush CX (v := 10) dX6_command_13 (by decide) ?_
      refine z_irem CX dX6_command_15 (by decide) ?_
      rw [gq2 hG]
      refine z_istore_n CX 3 dX6_command_16 rfl (by decide) ?_
      refine z_iload_n CX 1 dX6_command_17 rfl rfl ?_
      refine z_bipush CX (v := 10) dX6_command_18 (by decide) ?_
      refine z_idiv CX dX6_command_20 (by decide) ?_
      refine z_bipush CX (v := 10) dX6_command_21 (by decide) ?_
      refine z_irem CX dX6_command_23 (by decide) ?_
      rw [gq3 hG]
      refine z_istore CX dX6_command_24 (by decide) ?_
      refine z_iload_n CX 1 dX6_command_26 rfl rfl ?_
      refine z_bipush CX (v := 100) dX6_command_27 (by decide) ?_
      refine z_irem CX dX6_command_29 (by decide) ?_
      rw [gq4 hG]
      refine z_istore CX dX6_command_30 (by decide) ?_
      refine z_iload_n CX 1 dX6_command_32 rfl rfl ?_
      refine z_bipush CX (v := 10) dX6_command_33 (by decide) ?_
      refine z_irem CX dX6_command_35 (by decide) ?_
      rw [gq5 hG]
      refine z_istore CX dX6_command_36 (by decide) ?_
      refine z_iload_n CX 1 dX6_command_38 rfl rfl ?_
      refine z_sipush CX (v := 1000) dX6_command_39 (by decide) ?_
      refine z_irem CX dX6_command_42 (by decide) ?_
      rw [gq6 hG]
      refine z_istore CX dX6_command_43 (by decide) ?_
      refine z_iload_n CX 1 dX6_command_45 rfl rfl ?_
      refine z_sipush CX (v := 10000) dX6_command_46 (by decide) ?_
      refine z_idiv CX dX6_command_49 (by decide) ?_
      rw [gq7 hG, hq]
      refine z_tabIn CX 120 dX6_command_50 (by decide) (by decide) rfl (by decide) ?_
      refine z_iload_n CX 1 dX6_command_120 rfl rfl ?_
      refine z_sipush CX (v := 10000) dX6_command_121 (by decide) ?_
      refine z_irem CX dX6_command_124 (by decide) ?_
      rw [gq8 hG]
      refine z_bipush CX (v := 100) dX6_command_125 (by decide) ?_
      refine z_icmp_ge CX 143 dX6_command_127 (by decide) (fun _ => ?_) (fun q9 => absurd (nI_le (a := 100) (by omega) (by omega)) q9)
      refine z_iconst CX (v := 0) dX6_command_143 (by decide) ?_
      exact z_zret CX dX6_command_144 rfl (by first | rfl | exact bI_nar _) rfl (by show _ = modH w hs k u (upA A 1 (A 1)); rw [upA_id]) (Or.inl rfl)
  | 3, _, hq =>
    rw [show cmdF (A 1) G = pfH (A 1) (nI (G / 1000 % 10)) (nI (G / 100 % 10)) (nI (G % 100)) by unfold cmdF; rw [hq]; exact rfl]
    refine Cn.of (d := mX6_command) (by decide +kernel) (Nat.le_of_ble_eq_true rfl) ?_
    intro p e R s m args below meth c CX
    replace CX : Ctx p s m args meth c R w RX6 "command" cX6_command 8 (some .boolean) 8 180 0 0 := CX
    show ZW p l e R s m args below meth c w 8 _ _ 0 0 (MQ below (Qn w _ _ _) args s 0 0 (wA w)) 0 [(0, .ref (wB w + k)), (1, .int _)] []
    refine z_iload_n CX 1 dX6_command_0 rfl rfl ?_
    refine z_sipush CX (v := 1000) dX6_command_1 (by decide) ?_
    refine z_idiv CX dX6_command_4 (by decide) ?_
    refine z_bipush CX (v := 10) dX6_command_5 (by decide) ?_
    refine z_irem CX dX6_command_7 (by decide) ?_
    rw [gq1 hG]
    refine z_istore_n CX 2 dX6_command_8 rfl (by decide) ?_
    refine z_iload_n CX 1 dX6_command_9 rfl rfl ?_
    refine z_bipush CX (v := 100) dX6_command_10 (by decide) ?_
    refine z_idiv CX dX6_command_12 (by decide) ?_
    refine z_bipush CX (v := 10) dX6_command_13 (by decide) ?_
    refine z_irem CX dX6_command_15 (by decide) ?_
    rw [gq2 hG]
    refine z_istore_n CX 3 dX6_command_16 rfl (by decide) ?_
    refine z_iload_n CX 1 dX6_command_17 rfl rfl ?_
    refine z_bipush CX (v := 10) dX6_command_18 (by decide) ?_
    refine z_idiv CX dX6_command_20 (by decide) ?_
    refine z_bipush CX (v := 10) dX6_command_21 (by decide) ?_
    refine z_irem CX dX6_command_23 (by decide) ?_
    rw [gq3 hG]
    refine z_istore CX dX6_command_24 (by decide) ?_
    refine z_iload_n CX 1 dX6_command_26 rfl rfl ?_
    refine z_bipush CX (v := 100) dX6_command_27 (by decide) ?_
    refine z_irem CX dX6_command_29 (by decide) ?_
    rw [gq4 hG]
    refine z_istore CX dX6_command_30 (by decide) ?_
    refine z_iload_n CX 1 dX6_command_32 rfl rfl ?_
    refine z_bipush CX (v := 10) dX6_command_33 (by decide) ?_
    refine z_irem CX dX6_command_35 (by decide) ?_
    rw [gq5 hG]
    refine z_istore CX dX6_command_36 (by decide) ?_
    refine z_iload_n CX 1 dX6_command_38 rfl rfl ?_
    refine z_sipush CX (v := 1000) dX6_command_39 (by decide) ?_
    refine z_irem CX dX6_command_42 (by decide) ?_
    rw [gq6 hG]
    refine z_istore CX dX6_command_43 (by decide) ?_
    refine z_iload_n CX 1 dX6_command_45 rfl rfl ?_
    refine z_sipush CX (v := 10000) dX6_command_46 (by decide) ?_
    refine z_idiv CX dX6_command_49 (by decide) ?_
    rw [gq7 hG, hq]
    refine z_tabIn CX 145 dX6_command_50 (by decide) (by decide) rfl (by decide) ?_
    refine z_aload_n CX 0 dX6_command_145 rfl rfl ?_
    refine z_iload_n CX 2 dX6_command_146 rfl rfl ?_
    refine z_iload_n CX 3 dX6_command_147 rfl rfl ?_
    refine z_iload CX dX6_command_148 rfl ?_
    refine z_callV1 CX dX6_command_150 cv_X6_260 (r_hook hO (nI (G / 1000 % 10)) (nI (G / 100 % 10)) (nI (G % 100))) mo_0 rfl rfl (Nat.le_of_ble_eq_true rfl) ⟨Nat.le_of_ble_eq_true rfl, Nat.le_of_ble_eq_true rfl⟩ ⟨Nat.le_refl _, Nat.le_refl _⟩ ?_
    exact z_zret CX dX6_command_153 rfl (by first | rfl | exact bI_nar _) rfl rfl (Or.inl rfl)
  | 4, _, hq =>
    by_cases hc : G % 100 = 0
    · rw [show cmdF (A 1) G = pfT (A 1) (nI (G / 1000 % 10)) (nI (G / 100 % 10)) by unfold cmdF; rw [hq]; exact if_pos hc]
      refine Cn.of (d := mX6_command) (by decide +kernel) (Nat.le_of_ble_eq_true rfl) ?_
      intro p e R s m args below meth c CX
      replace CX : Ctx p s m args meth c R w RX6 "command" cX6_command 8 (some .boolean) 8 180 0 0 := CX
      show ZW p l e R s m args below meth c w 8 _ _ 0 0 (MQ below (Qn w _ _ _) args s 0 0 (wA w)) 0 [(0, .ref (wB w + k)), (1, .int _)] []
      refine z_iload_n CX 1 dX6_command_0 rfl rfl ?_
      refine z_sipush CX (v := 1000) dX6_command_1 (by decide) ?_
      refine z_idiv CX dX6_command_4 (by decide) ?_
      refine z_bipush CX (v := 10) dX6_command_5 (by decide) ?_
      refine z_irem CX dX6_command_7 (by decide) ?_
      rw [gq1 hG]
      refine z_istore_n CX 2 dX6_command_8 rfl (by decide) ?_
      refine z_iload_n CX 1 dX6_command_9 rfl rfl ?_
      refine z_bipush CX (v := 100) dX6_command_10 (by decide) ?_
      refine z_idiv CX dX6_command_12 (by decide) ?_
      refine z_bipush CX (v := 10) dX6_command_13 (by decide) ?_
      refine z_irem CX dX6_command_15 (by decide) ?_
      rw [gq2 hG]
      refine z_istore_n CX 3 dX6_command_16 rfl (by decide) ?_
      refine z_iload_n CX 1 dX6_command_17 rfl rfl ?_
      refine z_bipush CX (v := 10) dX6_command_18 (by decide) ?_
      refine z_idiv CX dX6_command_20 (by decide) ?_
      refine z_bipush CX (v := 10) dX6_command_21 (by decide) ?_
      refine z_irem CX dX6_command_23 (by decide) ?_
      rw [gq3 hG]
      refine z_istore CX dX6_command_24 (by decide) ?_
      refine z_iload_n CX 1 dX6_command_26 rfl rfl ?_
      refine z_bipush CX (v := 100) dX6_command_27 (by decide) ?_
      refine z_irem CX dX6_command_29 (by decide) ?_
      rw [gq4 hG]
      refine z_istore CX dX6_command_30 (by decide) ?_
      refine z_iload_n CX 1 dX6_command_32 rfl rfl ?_
      refine z_bipush CX (v := 10) dX6_command_33 (by decide) ?_
      refine z_irem CX dX6_command_35 (by decide) ?_
      rw [gq5 hG]
      refine z_istore CX dX6_command_36 (by decide) ?_
      refine z_iload_n CX 1 dX6_command_38 rfl rfl ?_
      refine z_sipush CX (v := 1000) dX6_command_39 (by decide) ?_
      refine z_irem CX dX6_command_42 (by decide) ?_
      rw [gq6 hG]
      refine z_istore CX dX6_command_43 (by decide) ?_
      refine z_iload_n CX 1 dX6_command_45 rfl rfl ?_
      refine z_sipush CX (v := 10000) dX6_command_46 (by decide) ?_
      refine z_idiv CX dX6_command_49 (by decide) ?_
      rw [gq7 hG, hq]
      refine z_tabIn CX 154 dX6_command_50 (by decide) (by decide) rfl (by decide) ?_
      refine z_iload CX dX6_command_154 rfl ?_
      refine z_if_ne CX 172 dX6_command_156 (by decide) (fun q9 => absurd q9 (fun z => z (by rw [hc]; rfl))) (fun _ => ?_)
      refine z_aload_n CX 0 dX6_command_159 rfl rfl ?_
      refine z_iload_n CX 2 dX6_command_160 rfl rfl ?_
      refine z_iload_n CX 3 dX6_command_161 rfl rfl ?_
      refine z_callV1 CX dX6_command_162 cv_X6_264 (r_claim hO (nI (G / 1000 % 10)) (nI (G / 100 % 10))) mo_0 rfl rfl (Nat.le_of_ble_eq_true rfl) ⟨Nat.le_of_ble_eq_true rfl, Nat.le_of_ble_eq_true rfl⟩ ⟨Nat.le_refl _, Nat.le_refl _⟩ ?_
      refine z_if_eq CX 172 dX6_command_165 (by decide) (fun c_165 => ?_) (fun c_165 => ?_)
      · skip
        refine z_iconst CX (v := 0) dX6_command_172 (by decide) ?_
        exact z_zret CX dX6_command_173 rfl (by first | rfl | exact bI_nar _) (congrArg Value.int (by rw [bI_f c_165]; rfl)) rfl (Or.inl rfl)
      · skip
        refine z_iconst CX (v := 1) dX6_command_168 (by decide) ?_
        refine z_goto CX 173 dX6_command_169 (by decide) ?_
        exact z_zret CX dX6_command_173 rfl (by first | rfl | exact bI_nar _) (congrArg Value.int (by rw [bI_t c_165]; rfl)) rfl (Or.inl rfl)
    · rw [show cmdF (A 1) G = (false, A 1) by unfold cmdF; rw [hq]; exact if_neg hc]
      refine Cn.of (d := mX6_command) (by decide +kernel) (Nat.le_of_ble_eq_true rfl) ?_
      intro p e R s m args below meth c CX
      replace CX : Ctx p s m args meth c R w RX6 "command" cX6_command 8 (some .boolean) 8 180 0 0 := CX
      show ZW p l e R s m args below meth c w 8 _ _ 0 0 (MQ below (Qn w _ _ _) args s 0 0 (wA w)) 0 [(0, .ref (wB w + k)), (1, .int _)] []
      refine z_iload_n CX 1 dX6_command_0 rfl rfl ?_
      refine z_sipush CX (v := 1000) dX6_command_1 (by decide) ?_
      refine z_idiv CX dX6_command_4 (by decide) ?_
      refine z_bipush CX (v := 10) dX6_command_5 (by decide) ?_
      refine z_irem CX dX6_command_7 (by decide) ?_
      rw [gq1 hG]
      refine z_istore_n CX 2 dX6_command_8 rfl (by decide) ?_
      refine z_iload_n CX 1 dX6_command_9 rfl rfl ?_
      refine z_bipush CX (v := 100) dX6_command_10 (by decide) ?_
      refine z_idiv CX dX6_command_12 (by decide) ?_
      refine z_bipush CX (v := 10) dX6_command_13 (by decide) ?_
      refine z_irem CX dX6_command_15 (by decide) ?_
      rw [gq2 hG]
      refine z_istore_n CX 3 dX6_command_16 rfl (by decide) ?_
      refine z_iload_n CX 1 dX6_command_17 rfl rfl ?_
      refine z_bipush CX (v := 10) dX6_command_18 (by decide) ?_
      refine z_idiv CX dX6_command_20 (by decide) ?_
      refine z_bipush CX (v := 10) dX6_command_21 (by decide) ?_
      refine z_irem CX dX6_command_23 (by decide) ?_
      rw [gq3 hG]
      refine z_istore CX dX6_command_24 (by decide) ?_
      refine z_iload_n CX 1 dX6_command_26 rfl rfl ?_
      refine z_bipush CX (v := 100) dX6_command_27 (by decide) ?_
      refine z_irem CX dX6_command_29 (by decide) ?_
      rw [gq4 hG]
      refine z_istore CX dX6_command_30 (by decide) ?_
      refine z_iload_n CX 1 dX6_command_32 rfl rfl ?_
      refine z_bipush CX (v := 10) dX6_command_33 (by decide) ?_
      refine z_irem CX dX6_command_35 (by decide) ?_
      rw [gq5 hG]
      refine z_istore CX dX6_command_36 (by decide) ?_
      refine z_iload_n CX 1 dX6_command_38 rfl rfl ?_
      refine z_sipush CX (v := 1000) dX6_command_39 (by decide) ?_
      refine z_irem CX dX6_command_42 (by decide) ?_
      rw [gq6 hG]
      refine z_istore CX dX6_command_43 (by decide) ?_
      refine z_iload_n CX 1 dX6_command_45 rfl rfl ?_
      refine z_sipush CX (v := 10000) dX6_command_46 (by decide) ?_
      refine z_idiv CX dX6_command_49 (by decide) ?_
      rw [gq7 hG, hq]
      refine z_tabIn CX 154 dX6_command_50 (by decide) (by decide) rfl (by decide) ?_
      refine z_iload CX dX6_command_154 rfl ?_
      refine z_if_ne CX 172 dX6_command_156 (by decide) (fun _ => ?_) (fun q9 => absurd q9 (nI_ne0 (by omega) (by omega)))
      refine z_iconst CX (v := 0) dX6_command_172 (by decide) ?_
      exact z_zret CX dX6_command_173 rfl (by first | rfl | exact bI_nar _) rfl (by show _ = modH w hs k u (upA A 1 (A 1)); rw [upA_id]) (Or.inl rfl)
  | 5, _, hq =>
    by_cases hc : G % 1000 < 10
    · rw [show cmdF (A 1) G = pfS (A 1) (nI (G / 1000 % 10)) (nI (G % 10)) by unfold cmdF; rw [hq]; exact if_pos hc]
      refine Cn.of (d := mX6_command) (by decide +kernel) (Nat.le_of_ble_eq_true rfl) ?_
      intro p e R s m args below meth c CX
      replace CX : Ctx p s m args meth c R w RX6 "command" cX6_command 8 (some .boolean) 8 180 0 0 := CX
      show ZW p l e R s m args below meth c w 8 _ _ 0 0 (MQ below (Qn w _ _ _) args s 0 0 (wA w)) 0 [(0, .ref (wB w + k)), (1, .int _)] []
      refine z_iload_n CX 1 dX6_command_0 rfl rfl ?_
      refine z_sipush CX (v := 1000) dX6_command_1 (by decide) ?_
      refine z_idiv CX dX6_command_4 (by decide) ?_
      refine z_bipush CX (v := 10) dX6_command_5 (by decide) ?_
      refine z_irem CX dX6_command_7 (by decide) ?_
      rw [gq1 hG]
      refine z_istore_n CX 2 dX6_command_8 rfl (by decide) ?_
      refine z_iload_n CX 1 dX6_command_9 rfl rfl ?_
      refine z_bipush CX (v := 100) dX6_command_10 (by decide) ?_
      refine z_idiv CX dX6_command_12 (by decide) ?_
      refine z_bipush CX (v := 10) dX6_command_13 (by decide) ?_
      refine z_irem CX dX6_command_15 (by decide) ?_
      rw [gq2 hG]
      refine z_istore_n CX 3 dX6_command_16 rfl (by decide) ?_
      refine z_iload_n CX 1 dX6_command_17 rfl rfl ?_
      refine z_bipush CX (v := 10) dX6_command_18 (by decide) ?_
      refine z_idiv CX dX6_command_20 (by decide) ?_
      refine z_bipush CX (v := 10) dX6_command_21 (by decide) ?_
      refine z_irem CX dX6_command_23 (by decide) ?_
      rw [gq3 hG]
      refine z_istore CX dX6_command_24 (by decide) ?_
      refine z_iload_n CX 1 dX6_command_26 rfl rfl ?_
      refine z_bipush CX (v := 100) dX6_command_27 (by decide) ?_
      refine z_irem CX dX6_command_29 (by decide) ?_
      rw [gq4 hG]
      refine z_istore CX dX6_command_30 (by decide) ?_
      refine z_iload_n CX 1 dX6_command_32 rfl rfl ?_
      refine z_bipush CX (v := 10) dX6_command_33 (by decide) ?_
      refine z_irem CX dX6_command_35 (by decide) ?_
      rw [gq5 hG]
      refine z_istore CX dX6_command_36 (by decide) ?_
      refine z_iload_n CX 1 dX6_command_38 rfl rfl ?_
      refine z_sipush CX (v := 1000) dX6_command_39 (by decide) ?_
      refine z_irem CX dX6_command_42 (by decide) ?_
      rw [gq6 hG]
      refine z_istore CX dX6_command_43 (by decide) ?_
      refine z_iload_n CX 1 dX6_command_45 rfl rfl ?_
      refine z_sipush CX (v := 10000) dX6_command_46 (by decide) ?_
      refine z_idiv CX dX6_command_49 (by decide) ?_
      rw [gq7 hG, hq]
      refine z_tabIn CX 174 dX6_command_50 (by decide) (by decide) rfl (by decide) ?_
      refine z_iload CX dX6_command_174 rfl ?_
      refine z_bipush CX (v := 10) dX6_command_176 (by decide) ?_
      refine z_icmp_ge CX 195 dX6_command_178 (by decide) (fun q9 => absurd q9 (nI_ge (b := 10) hc (by omega))) (fun _ => ?_)
      refine z_aload_n CX 0 dX6_command_181 rfl rfl ?_
      refine z_iload_n CX 2 dX6_command_182 rfl rfl ?_
      refine z_iload CX dX6_command_183 rfl ?_
      refine z_callV1 CX dX6_command_185 cv_X6_267 (r_set hO (nI (G / 1000 % 10)) (nI (G % 10))) mo_0 rfl rfl (Nat.le_of_ble_eq_true rfl) ⟨Nat.le_of_ble_eq_true rfl, Nat.le_of_ble_eq_true rfl⟩ ⟨Nat.le_refl _, Nat.le_refl _⟩ ?_
      refine z_if_eq CX 195 dX6_command_188 (by decide) (fun c_188 => ?_) (fun c_188 => ?_)
      · skip
        refine z_iconst CX (v := 0) dX6_command_195 (by decide) ?_
        exact z_zret CX dX6_command_196 rfl (by first | rfl | exact bI_nar _) (congrArg Value.int (by rw [bI_f c_188]; rfl)) rfl (Or.inl rfl)
      · skip
        refine z_iconst CX (v := 1) dX6_command_191 (by decide) ?_
        refine z_goto CX 196 dX6_command_192 (by decide) ?_
        exact z_zret CX dX6_command_196 rfl (by first | rfl | exact bI_nar _) (congrArg Value.int (by rw [bI_t c_188]; rfl)) rfl (Or.inl rfl)
    · rw [show cmdF (A 1) G = (false, A 1) by unfold cmdF; rw [hq]; exact if_neg hc]
      refine Cn.of (d := mX6_command) (by decide +kernel) (Nat.le_of_ble_eq_true rfl) ?_
      intro p e R s m args below meth c CX
      replace CX : Ctx p s m args meth c R w RX6 "command" cX6_command 8 (some .boolean) 8 180 0 0 := CX
      show ZW p l e R s m args below meth c w 8 _ _ 0 0 (MQ below (Qn w _ _ _) args s 0 0 (wA w)) 0 [(0, .ref (wB w + k)), (1, .int _)] []
      refine z_iload_n CX 1 dX6_command_0 rfl rfl ?_
      refine z_sipush CX (v := 1000) dX6_command_1 (by decide) ?_
      refine z_idiv CX dX6_command_4 (by decide) ?_
      refine z_bipush CX (v := 10) dX6_command_5 (by decide) ?_
      refine z_irem CX dX6_command_7 (by decide) ?_
      rw [gq1 hG]
      refine z_istore_n CX 2 dX6_command_8 rfl (by decide) ?_
      refine z_iload_n CX 1 dX6_command_9 rfl rfl ?_
      refine z_bipush CX (v := 100) dX6_command_10 (by decide) ?_
      refine z_idiv CX dX6_command_12 (by decide) ?_
      refine z_bipush CX (v := 10) dX6_command_13 (by decide) ?_
      refine z_irem CX dX6_command_15 (by decide) ?_
      rw [gq2 hG]
      refine z_istore_n CX 3 dX6_command_16 rfl (by decide) ?_
      refine z_iload_n CX 1 dX6_command_17 rfl rfl ?_
      refine z_bipush CX (v := 10) dX6_command_18 (by decide) ?_
      refine z_idiv CX dX6_command_20 (by decide) ?_
      refine z_bipush CX (v := 10) dX6_command_21 (by decide) ?_
      refine z_irem CX dX6_command_23 (by decide) ?_
      rw [gq3 hG]
      refine z_istore CX dX6_command_24 (by decide) ?_
      refine z_iload_n CX 1 dX6_command_26 rfl rfl ?_
      refine z_bipush CX (v := 100) dX6_command_27 (by decide) ?_
      refine z_irem CX dX6_command_29 (by decide) ?_
      rw [gq4 hG]
      refine z_istore CX dX6_command_30 (by decide) ?_
      refine z_iload_n CX 1 dX6_command_32 rfl rfl ?_
      refine z_bipush CX (v := 10) dX6_command_33 (by decide) ?_
      refine z_irem CX dX6_command_35 (by decide) ?_
      rw [gq5 hG]
      refine z_istore CX dX6_command_36 (by decide) ?_
      refine z_iload_n CX 1 dX6_command_38 rfl rfl ?_
      refine z_sipush CX (v := 1000) dX6_command_39 (by decide) ?_
      refine z_irem CX dX6_command_42 (by decide) ?_
      rw [gq6 hG]
      refine z_istore CX dX6_command_43 (by decide) ?_
      refine z_iload_n CX 1 dX6_command_45 rfl rfl ?_
      refine z_sipush CX (v := 10000) dX6_command_46 (by decide) ?_
      refine z_idiv CX dX6_command_49 (by decide) ?_
      rw [gq7 hG, hq]
      refine z_tabIn CX 174 dX6_command_50 (by decide) (by decide) rfl (by decide) ?_
      refine z_iload CX dX6_command_174 rfl ?_
      refine z_bipush CX (v := 10) dX6_command_176 (by decide) ?_
      refine z_icmp_ge CX 195 dX6_command_178 (by decide) (fun _ => ?_) (fun q9 => absurd (nI_le (a := 10) (by omega) (by omega)) q9)
      refine z_iconst CX (v := 0) dX6_command_195 (by decide) ?_
      exact z_zret CX dX6_command_196 rfl (by first | rfl | exact bI_nar _) rfl (by show _ = modH w hs k u (upA A 1 (A 1)); rw [upA_id]) (Or.inl rfl)
  | 6, _, hq =>
    by_cases hc : G % 10 = 0
    · rw [show cmdF (A 1) G = pfB (A 1) (nI (G / 1000 % 10)) (nI (G / 100 % 10)) (nI (G / 10 % 10)) by unfold cmdF; rw [hq]; exact if_pos hc]
      refine Cn.of (d := mX6_command) (by decide +kernel) (Nat.le_of_ble_eq_true rfl) ?_
      intro p e R s m args below meth c CX
      replace CX : Ctx p s m args meth c R w RX6 "command" cX6_command 8 (some .boolean) 8 180 0 0 := CX
      show ZW p l e R s m args below meth c w 8 _ _ 0 0 (MQ below (Qn w _ _ _) args s 0 0 (wA w)) 0 [(0, .ref (wB w + k)), (1, .int _)] []
      refine z_iload_n CX 1 dX6_command_0 rfl rfl ?_
      refine z_sipush CX (v := 1000) dX6_command_1 (by decide) ?_
      refine z_idiv CX dX6_command_4 (by decide) ?_
      refine z_bipush CX (v := 10) dX6_command_5 (by decide) ?_
      refine z_irem CX dX6_command_7 (by decide) ?_
      rw [gq1 hG]
      refine z_istore_n CX 2 dX6_command_8 rfl (by decide) ?_
      refine z_iload_n CX 1 dX6_command_9 rfl rfl ?_
      refine z_bipush CX (v := 100) dX6_command_10 (by decide) ?_
      refine z_idiv CX dX6_command_12 (by decide) ?_
      refine z_bipush CX (v := 10) dX6_command_13 (by decide) ?_
      refine z_irem CX dX6_command_15 (by decide) ?_
      rw [gq2 hG]
      refine z_istore_n CX 3 dX6_command_16 rfl (by decide) ?_
      refine z_iload_n CX 1 dX6_command_17 rfl rfl ?_
      refine z_bipush CX (v := 10) dX6_command_18 (by decide) ?_
      refine z_idiv CX dX6_command_20 (by decide) ?_
      refine z_bipush CX (v := 10) dX6_command_21 (by decide) ?_
      refine z_irem CX dX6_command_23 (by decide) ?_
      rw [gq3 hG]
      refine z_istore CX dX6_command_24 (by decide) ?_
      refine z_iload_n CX 1 dX6_command_26 rfl rfl ?_
      refine z_bipush CX (v := 100) dX6_command_27 (by decide) ?_
      refine z_irem CX dX6_command_29 (by decide) ?_
      rw [gq4 hG]
      refine z_istore CX dX6_command_30 (by decide) ?_
      refine z_iload_n CX 1 dX6_command_32 rfl rfl ?_
      refine z_bipush CX (v := 10) dX6_command_33 (by decide) ?_
      refine z_irem CX dX6_command_35 (by decide) ?_
      rw [gq5 hG]
      refine z_istore CX dX6_command_36 (by decide) ?_
      refine z_iload_n CX 1 dX6_command_38 rfl rfl ?_
      refine z_sipush CX (v := 1000) dX6_command_39 (by decide) ?_
      refine z_irem CX dX6_command_42 (by decide) ?_
      rw [gq6 hG]
      refine z_istore CX dX6_command_43 (by decide) ?_
      refine z_iload_n CX 1 dX6_command_45 rfl rfl ?_
      refine z_sipush CX (v := 10000) dX6_command_46 (by decide) ?_
      refine z_idiv CX dX6_command_49 (by decide) ?_
      rw [gq7 hG, hq]
      refine z_tabIn CX 197 dX6_command_50 (by decide) (by decide) rfl (by decide) ?_
      refine z_iload CX dX6_command_197 rfl ?_
      refine z_if_ne CX 217 dX6_command_199 (by decide) (fun q9 => absurd q9 (fun z => z (by rw [hc]; rfl))) (fun _ => ?_)
      refine z_aload_n CX 0 dX6_command_202 rfl rfl ?_
      refine z_iload_n CX 2 dX6_command_203 rfl rfl ?_
      refine z_iload_n CX 3 dX6_command_204 rfl rfl ?_
      refine z_iload CX dX6_command_205 rfl ?_
      refine z_callV1 CX dX6_command_207 cv_X6_270 (r_boat hO (nI (G / 1000 % 10)) (nI (G / 100 % 10)) (nI (G / 10 % 10))) mo_0 rfl rfl (Nat.le_of_ble_eq_true rfl) ⟨Nat.le_of_ble_eq_true rfl, Nat.le_of_ble_eq_true rfl⟩ ⟨Nat.le_refl _, Nat.le_refl _⟩ ?_
      refine z_if_eq CX 217 dX6_command_210 (by decide) (fun c_210 => ?_) (fun c_210 => ?_)
      · skip
        refine z_iconst CX (v := 0) dX6_command_217 (by decide) ?_
        exact z_zret CX dX6_command_218 rfl (by first | rfl | exact bI_nar _) (congrArg Value.int (by rw [bI_f c_210]; rfl)) rfl (Or.inl rfl)
      · skip
        refine z_iconst CX (v := 1) dX6_command_213 (by decide) ?_
        refine z_goto CX 218 dX6_command_214 (by decide) ?_
        exact z_zret CX dX6_command_218 rfl (by first | rfl | exact bI_nar _) (congrArg Value.int (by rw [bI_t c_210]; rfl)) rfl (Or.inl rfl)
    · rw [show cmdF (A 1) G = (false, A 1) by unfold cmdF; rw [hq]; exact if_neg hc]
      refine Cn.of (d := mX6_command) (by decide +kernel) (Nat.le_of_ble_eq_true rfl) ?_
      intro p e R s m args below meth c CX
      replace CX : Ctx p s m args meth c R w RX6 "command" cX6_command 8 (some .boolean) 8 180 0 0 := CX
      show ZW p l e R s m args below meth c w 8 _ _ 0 0 (MQ below (Qn w _ _ _) args s 0 0 (wA w)) 0 [(0, .ref (wB w + k)), (1, .int _)] []
      refine z_iload_n CX 1 dX6_command_0 rfl rfl ?_
      refine z_sipush CX (v := 1000) dX6_command_1 (by decide) ?_
      refine z_idiv CX dX6_command_4 (by decide) ?_
      refine z_bipush CX (v := 10) dX6_command_5 (by decide) ?_
      refine z_irem CX dX6_command_7 (by decide) ?_
      rw [gq1 hG]
      refine z_istore_n CX 2 dX6_command_8 rfl (by decide) ?_
      refine z_iload_n CX 1 dX6_command_9 rfl rfl ?_
      refine z_bipush CX (v := 100) dX6_command_10 (by decide) ?_
      refine z_idiv CX dX6_command_12 (by decide) ?_
      refine z_bipush CX (v := 10) dX6_command_13 (by decide) ?_
      refine z_irem CX dX6_command_15 (by decide) ?_
      rw [gq2 hG]
      refine z_istore_n CX 3 dX6_command_16 rfl (by decide) ?_
      refine z_iload_n CX 1 dX6_command_17 rfl rfl ?_
      refine z_bipush CX (v := 10) dX6_command_18 (by decide) ?_
      refine z_idiv CX dX6_command_20 (by decide) ?_
      refine z_bipush CX (v := 10) dX6_command_21 (by decide) ?_
      refine z_irem CX dX6_command_23 (by decide) ?_
      rw [gq3 hG]
      refine z_istore CX dX6_command_24 (by decide) ?_
      refine z_iload_n CX 1 dX6_command_26 rfl rfl ?_
      refine z_bipush CX (v := 100) dX6_command_27 (by decide) ?_
      refine z_irem CX dX6_command_29 (by decide) ?_
      rw [gq4 hG]
      refine z_istore CX dX6_command_30 (by decide) ?_
      refine z_iload_n CX 1 dX6_command_32 rfl rfl ?_
      refine z_bipush CX (v := 10) dX6_command_33 (by decide) ?_
      refine z_irem CX dX6_command_35 (by decide) ?_
      rw [gq5 hG]
      refine z_istore CX dX6_command_36 (by decide) ?_
      refine z_iload_n CX 1 dX6_command_38 rfl rfl ?_
      refine z_sipush CX (v := 1000) dX6_command_39 (by decide) ?_
      refine z_irem CX dX6_command_42 (by decide) ?_
      rw [gq6 hG]
      refine z_istore CX dX6_command_43 (by decide) ?_
      refine z_iload_n CX 1 dX6_command_45 rfl rfl ?_
      refine z_sipush CX (v := 10000) dX6_command_46 (by decide) ?_
      refine z_idiv CX dX6_command_49 (by decide) ?_
      rw [gq7 hG, hq]
      refine z_tabIn CX 197 dX6_command_50 (by decide) (by decide) rfl (by decide) ?_
      refine z_iload CX dX6_command_197 rfl ?_
      refine z_if_ne CX 217 dX6_command_199 (by decide) (fun _ => ?_) (fun q9 => absurd q9 (nI_ne0 (by omega) (by omega)))
      refine z_iconst CX (v := 0) dX6_command_217 (by decide) ?_
      exact z_zret CX dX6_command_218 rfl (by first | rfl | exact bI_nar _) rfl (by show _ = modH w hs k u (upA A 1 (A 1)); rw [upA_id]) (Or.inl rfl)
  | 7, _, hq =>
    rw [show cmdF (A 1) G = (decide (G % 1000 < 10 ∧ (G / 1000 % 10) < bN (A 1) ∧ A 1 (24 + 10 * (G / 1000 % 10) + 3) = nI (G % 10)), A 1) by unfold cmdF; rw [hq]; exact rfl]
    by_cases hc : G % 1000 < 10
    · by_cases hb : (G / 1000 % 10) < bN (A 1)
      · skip
        refine Cn.of (d := mX6_command) (by decide +kernel) (Nat.le_of_ble_eq_true rfl) ?_
        intro p e R s m args below meth c CX
        replace CX : Ctx p s m args meth c R w RX6 "command" cX6_command 8 (some .boolean) 8 180 0 0 := CX
        show ZW p l e R s m args below meth c w 8 _ _ 0 0 (MQ below (Qn w _ _ _) args s 0 0 (wA w)) 0 [(0, .ref (wB w + k)), (1, .int _)] []
        refine z_iload_n CX 1 dX6_command_0 rfl rfl ?_
        refine z_sipush CX (v := 1000) dX6_command_1 (by decide) ?_
        refine z_idiv CX dX6_command_4 (by decide) ?_
        refine z_bipush CX (v := 10) dX6_command_5 (by decide) ?_
        refine z_irem CX dX6_command_7 (by decide) ?_
        rw [gq1 hG]
        refine z_istore_n CX 2 dX6_command_8 rfl (by decide) ?_
        refine z_iload_n CX 1 dX6_command_9 rfl rfl ?_
        refine z_bipush CX (v := 100) dX6_command_10 (by decide) ?_
        refine z_idiv CX dX6_command_12 (by decide) ?_
        refine z_bipush CX (v := 10) dX6_command_13 (by decide) ?_
        refine z_irem CX dX6_command_15 (by decide) ?_
        rw [gq2 hG]
        refine z_istore_n CX 3 dX6_command_16 rfl (by decide) ?_
        refine z_iload_n CX 1 dX6_command_17 rfl rfl ?_
        refine z_bipush CX (v := 10) dX6_command_18 (by decide) ?_
        refine z_idiv CX dX6_command_20 (by decide) ?_
        refine z_bipush CX (v := 10) dX6_command_21 (by decide) ?_
        refine z_irem CX dX6_command_23 (by decide) ?_
        rw [gq3 hG]
        refine z_istore CX dX6_command_24 (by decide) ?_
        refine z_iload_n CX 1 dX6_command_26 rfl rfl ?_
        refine z_bipush CX (v := 100) dX6_command_27 (by decide) ?_
        refine z_irem CX dX6_command_29 (by decide) ?_
        rw [gq4 hG]
        refine z_istore CX dX6_command_30 (by decide) ?_
        refine z_iload_n CX 1 dX6_command_32 rfl rfl ?_
        refine z_bipush CX (v := 10) dX6_command_33 (by decide) ?_
        refine z_irem CX dX6_command_35 (by decide) ?_
        rw [gq5 hG]
        refine z_istore CX dX6_command_36 (by decide) ?_
        refine z_iload_n CX 1 dX6_command_38 rfl rfl ?_
        refine z_sipush CX (v := 1000) dX6_command_39 (by decide) ?_
        refine z_irem CX dX6_command_42 (by decide) ?_
        rw [gq6 hG]
        refine z_istore CX dX6_command_43 (by decide) ?_
        refine z_iload_n CX 1 dX6_command_45 rfl rfl ?_
        refine z_sipush CX (v := 10000) dX6_command_46 (by decide) ?_
        refine z_idiv CX dX6_command_49 (by decide) ?_
        rw [gq7 hG, hq]
        refine z_tabIn CX 219 dX6_command_50 (by decide) (by decide) rfl (by decide) ?_
        refine z_iload CX dX6_command_219 rfl ?_
        refine z_bipush CX (v := 10) dX6_command_221 (by decide) ?_
        refine z_icmp_ge CX 254 dX6_command_223 (by decide) (fun q9 => absurd q9 (nI_ge (b := 10) hc (by omega))) (fun _ => ?_)
        refine z_aload_n CX 0 dX6_command_226 rfl rfl ?_
        refine z_get CX dX6_command_227 fg_X6_13 mo_0 rfl ?_
        refine z_iload_n CX 2 dX6_command_230 rfl rfl ?_
        refine z_callS1 CX dX6_command_231 cs_X6_166 (Cn.row mq_1 mq_1 (a := k + 2) (c_isB hO.1.2.1 (by have := hO.2.2; omega) (nI (G / 1000 % 10)))) rfl rfl (Nat.le_of_ble_eq_true rfl) ⟨Nat.le_of_ble_eq_true rfl, Nat.le_of_ble_eq_true rfl⟩ ⟨Nat.le_refl _, Nat.le_refl _⟩ ?_
        refine z_if_eq CX 254 dX6_command_234 (by decide) (fun q9 => absurd q9 (by rw [bI_1 (show 0 ≤ nI (G / 1000 % 10) ∧ nI (G / 1000 % 10) < nI (bN (A 1)) from ⟨nI_pos' (by omega), nI_lt hb (by omega)⟩)]; decide)) (fun _ => ?_)
        refine z_aload_n CX 0 dX6_command_237 rfl rfl ?_
        refine z_get CX dX6_command_238 fg_X6_13 mo_0 rfl ?_
        refine z_iload_n CX 2 dX6_command_241 rfl rfl ?_
        refine z_callS1 CX dX6_command_242 cs_X6_64 (Cn.row mq_1 mq_1 (a := k + 2) (c_state (b := (G / 1000 % 10)) (by omega))) rfl rfl (Nat.le_of_ble_eq_true rfl) ⟨Nat.le_of_ble_eq_true rfl, Nat.le_of_ble_eq_true rfl⟩ ⟨Nat.le_refl _, Nat.le_refl _⟩ ?_
        refine z_iload CX dX6_command_245 rfl ?_
        refine z_icmp_ne CX 254 dX6_command_247 (by decide) (fun c_247 => ?_) (fun c_247 => ?_)
        · skip
          refine z_iconst CX (v := 0) dX6_command_254 (by decide) ?_
          exact z_zret CX dX6_command_255 rfl (by first | rfl | exact bI_nar _) (congrArg Value.int (by rw [decide_eq_false (fun z => absurd z.2.2 c_247)]; rfl)) (by show _ = modH w hs k u (upA A 1 (A 1)); rw [upA_id]) (Or.inl rfl)
        · skip
          refine z_iconst CX (v := 1) dX6_command_250 (by decide) ?_
          refine z_goto CX 255 dX6_command_251 (by decide) ?_
          exact z_zret CX dX6_command_255 rfl (by first | rfl | exact bI_nar _) (congrArg Value.int (by rw [decide_eq_true ⟨hc, hb, c_247⟩]; rfl)) (by show _ = modH w hs k u (upA A 1 (A 1)); rw [upA_id]) (Or.inl rfl)
      · skip
        refine Cn.of (d := mX6_command) (by decide +kernel) (Nat.le_of_ble_eq_true rfl) ?_
        intro p e R s m args below meth c CX
        replace CX : Ctx p s m args meth c R w RX6 "command" cX6_command 8 (some .boolean) 8 180 0 0 := CX
        show ZW p l e R s m args below meth c w 8 _ _ 0 0 (MQ below (Qn w _ _ _) args s 0 0 (wA w)) 0 [(0, .ref (wB w + k)), (1, .int _)] []
        refine z_iload_n CX 1 dX6_command_0 rfl rfl ?_
        refine z_sipush CX (v := 1000) dX6_command_1 (by decide) ?_
        refine z_idiv CX dX6_command_4 (by decide) ?_
        refine z_bipush CX (v := 10) dX6_command_5 (by decide) ?_
        refine z_irem CX dX6_command_7 (by decide) ?_
        rw [gq1 hG]
        refine z_istore_n CX 2 dX6_command_8 rfl (by decide) ?_
        refine z_iload_n CX 1 dX6_command_9 rfl rfl ?_
        refine z_bipush CX (v := 100) dX6_command_10 (by decide) ?_
        refine z_idiv CX dX6_command_12 (by decide) ?_
        refine z_bipush CX (v := 10) dX6_command_13 (by decide) ?_
        refine z_irem CX dX6_command_15 (by decide) ?_
        rw [gq2 hG]
        refine z_istore_n CX 3 dX6_command_16 rfl (by decide) ?_
        refine z_iload_n CX 1 dX6_command_17 rfl rfl ?_
        refine z_bipush CX (v := 10) dX6_command_18 (by decide) ?_
        refine z_idiv CX dX6_command_20 (by decide) ?_
        refine z_bipush CX (v := 10) dX6_command_21 (by decide) ?_
        refine z_irem CX dX6_command_23 (by decide) ?_
        rw [gq3 hG]
        refine z_istore CX dX6_command_24 (by decide) ?_
        refine z_iload_n CX 1 dX6_command_26 rfl rfl ?_
        refine z_bipush CX (v := 100) dX6_command_27 (by decide) ?_
        refine z_irem CX dX6_command_29 (by decide) ?_
        rw [gq4 hG]
        refine z_istore CX dX6_command_30 (by decide) ?_
        refine z_iload_n CX 1 dX6_command_32 rfl rfl ?_
        refine z_bipush CX (v := 10) dX6_command_33 (by decide) ?_
        refine z_irem CX dX6_command_35 (by decide) ?_
        rw [gq5 hG]
        refine z_istore CX dX6_command_36 (by decide) ?_
        refine z_iload_n CX 1 dX6_command_38 rfl rfl ?_
        refine z_sipush CX (v := 1000) dX6_command_39 (by decide) ?_
        refine z_irem CX dX6_command_42 (by decide) ?_
        rw [gq6 hG]
        refine z_istore CX dX6_command_43 (by decide) ?_
        refine z_iload_n CX 1 dX6_command_45 rfl rfl ?_
        refine z_sipush CX (v := 10000) dX6_command_46 (by decide) ?_
        refine z_idiv CX dX6_command_49 (by decide) ?_
        rw [gq7 hG, hq]
        refine z_tabIn CX 219 dX6_command_50 (by decide) (by decide) rfl (by decide) ?_
        refine z_iload CX dX6_command_219 rfl ?_
        refine z_bipush CX (v := 10) dX6_command_221 (by decide) ?_
        refine z_icmp_ge CX 254 dX6_command_223 (by decide) (fun q9 => absurd q9 (nI_ge (b := 10) hc (by omega))) (fun _ => ?_)
        refine z_aload_n CX 0 dX6_command_226 rfl rfl ?_
        refine z_get CX dX6_command_227 fg_X6_13 mo_0 rfl ?_
        refine z_iload_n CX 2 dX6_command_230 rfl rfl ?_
        refine z_callS1 CX dX6_command_231 cs_X6_166 (Cn.row mq_1 mq_1 (a := k + 2) (c_isB hO.1.2.1 (by have := hO.2.2; omega) (nI (G / 1000 % 10)))) rfl rfl (Nat.le_of_ble_eq_true rfl) ⟨Nat.le_of_ble_eq_true rfl, Nat.le_of_ble_eq_true rfl⟩ ⟨Nat.le_refl _, Nat.le_refl _⟩ ?_
        refine z_if_eq CX 254 dX6_command_234 (by decide) (fun _ => ?_) (fun q9 => absurd (bI_0 (fun z => hb ((nI_ltI (by omega) (by omega)).mp z.2))) q9)
        refine z_iconst CX (v := 0) dX6_command_254 (by decide) ?_
        exact z_zret CX dX6_command_255 rfl (by first | rfl | exact bI_nar _) (congrArg Value.int (by rw [decide_eq_false (fun z => hb z.2.1)]; rfl)) (by show _ = modH w hs k u (upA A 1 (A 1)); rw [upA_id]) (Or.inl rfl)
    · skip
      refine Cn.of (d := mX6_command) (by decide +kernel) (Nat.le_of_ble_eq_true rfl) ?_
      intro p e R s m args below meth c CX
      replace CX : Ctx p s m args meth c R w RX6 "command" cX6_command 8 (some .boolean) 8 180 0 0 := CX
      show ZW p l e R s m args below meth c w 8 _ _ 0 0 (MQ below (Qn w _ _ _) args s 0 0 (wA w)) 0 [(0, .ref (wB w + k)), (1, .int _)] []
      refine z_iload_n CX 1 dX6_command_0 rfl rfl ?_
      refine z_sipush CX (v := 1000) dX6_command_1 (by decide) ?_
      refine z_idiv CX dX6_command_4 (by decide) ?_
      refine z_bipush CX (v := 10) dX6_command_5 (by decide) ?_
      refine z_irem CX dX6_command_7 (by decide) ?_
      rw [gq1 hG]
      refine z_istore_n CX 2 dX6_command_8 rfl (by decide) ?_
      refine z_iload_n CX 1 dX6_command_9 rfl rfl ?_
      refine z_bipush CX (v := 100) dX6_command_10 (by decide) ?_
      refine z_idiv CX dX6_command_12 (by decide) ?_
      refine z_bipush CX (v := 10) dX6_command_13 (by decide) ?_
      refine z_irem CX dX6_command_15 (by decide) ?_
      rw [gq2 hG]
      refine z_istore_n CX 3 dX6_command_16 rfl (by decide) ?_
      refine z_iload_n CX 1 dX6_command_17 rfl rfl ?_
      refine z_bipush CX (v := 10) dX6_command_18 (by decide) ?_
      refine z_idiv CX dX6_command_20 (by decide) ?_
      refine z_bipush CX (v := 10) dX6_command_21 (by decide) ?_
      refine z_irem CX dX6_command_23 (by decide) ?_
      rw [gq3 hG]
      refine z_istore CX dX6_command_24 (by decide) ?_
      refine z_iload_n CX 1 dX6_command_26 rfl rfl ?_
      refine z_bipush CX (v := 100) dX6_command_27 (by decide) ?_
      refine z_irem CX dX6_command_29 (by decide) ?_
      rw [gq4 hG]
      refine z_istore CX dX6_command_30 (by decide) ?_
      refine z_iload_n CX 1 dX6_command_32 rfl rfl ?_
      refine z_bipush CX (v := 10) dX6_command_33 (by decide) ?_
      refine z_irem CX dX6_command_35 (by decide) ?_
      rw [gq5 hG]
      refine z_istore CX dX6_command_36 (by decide) ?_
      refine z_iload_n CX 1 dX6_command_38 rfl rfl ?_
      refine z_sipush CX (v := 1000) dX6_command_39 (by decide) ?_
      refine z_irem CX dX6_command_42 (by decide) ?_
      rw [gq6 hG]
      refine z_istore CX dX6_command_43 (by decide) ?_
      refine z_iload_n CX 1 dX6_command_45 rfl rfl ?_
      refine z_sipush CX (v := 10000) dX6_command_46 (by decide) ?_
      refine z_idiv CX dX6_command_49 (by decide) ?_
      rw [gq7 hG, hq]
      refine z_tabIn CX 219 dX6_command_50 (by decide) (by decide) rfl (by decide) ?_
      refine z_iload CX dX6_command_219 rfl ?_
      refine z_bipush CX (v := 10) dX6_command_221 (by decide) ?_
      refine z_icmp_ge CX 254 dX6_command_223 (by decide) (fun _ => ?_) (fun q9 => absurd (nI_le (a := 10) (by omega) (by omega)) q9)
      refine z_iconst CX (v := 0) dX6_command_254 (by decide) ?_
      exact z_zret CX dX6_command_255 rfl (by first | rfl | exact bI_nar _) (congrArg Value.int (by rw [decide_eq_false (fun z => hc z.1)]; rfl)) (by show _ = modH w hs k u (upA A 1 (A 1)); rw [upA_id]) (Or.inl rfl)
  | 8, _, hq =>
    rw [show cmdF (A 1) G = (decide ((G / 100 % 10) = 0 ∧ (G / 1000 % 10) ≤ 3 ∧ nI (G % 100) ≤ A 1 (134 + 3 * (G / 1000 % 10))), A 1) by unfold cmdF; rw [hq]; exact rfl]
    by_cases hc : G / 100 % 10 = 0
    · by_cases hb : (G / 1000 % 10) ≤ 3
      · skip
        refine Cn.of (d := mX6_command) (by decide +kernel) (Nat.le_of_ble_eq_true rfl) ?_
        intro p e R s m args below meth c CX
        replace CX : Ctx p s m args meth c R w RX6 "command" cX6_command 8 (some .boolean) 8 180 0 0 := CX
        show ZW p l e R s m args below meth c w 8 _ _ 0 0 (MQ below (Qn w _ _ _) args s 0 0 (wA w)) 0 [(0, .ref (wB w + k)), (1, .int _)] []
        refine z_iload_n CX 1 dX6_command_0 rfl rfl ?_
        refine z_sipush CX (v := 1000) dX6_command_1 (by decide) ?_
        refine z_idiv CX dX6_command_4 (by decide) ?_
        refine z_bipush CX (v := 10) dX6_command_5 (by decide) ?_
        refine z_irem CX dX6_command_7 (by decide) ?_
        rw [gq1 hG]
        refine z_istore_n CX 2 dX6_command_8 rfl (by decide) ?_
        refine z_iload_n CX 1 dX6_command_9 rfl rfl ?_
        refine z_bipush CX (v := 100) dX6_command_10 (by decide) ?_
        refine z_idiv CX dX6_command_12 (by decide) ?_
        refine z_bipush CX (v := 10) dX6_command_13 (by decide) ?_
        refine z_irem CX dX6_command_15 (by decide) ?_
        rw [gq2 hG]
        refine z_istore_n CX 3 dX6_command_16 rfl (by decide) ?_
        refine z_iload_n CX 1 dX6_command_17 rfl rfl ?_
        refine z_bipush CX (v := 10) dX6_command_18 (by decide) ?_
        refine z_idiv CX dX6_command_20 (by decide) ?_
        refine z_bipush CX (v := 10) dX6_command_21 (by decide) ?_
        refine z_irem CX dX6_command_23 (by decide) ?_
        rw [gq3 hG]
        refine z_istore CX dX6_command_24 (by decide) ?_
        refine z_iload_n CX 1 dX6_command_26 rfl rfl ?_
        refine z_bipush CX (v := 100) dX6_command_27 (by decide) ?_
        refine z_irem CX dX6_command_29 (by decide) ?_
        rw [gq4 hG]
        refine z_istore CX dX6_command_30 (by decide) ?_
        refine z_iload_n CX 1 dX6_command_32 rfl rfl ?_
        refine z_bipush CX (v := 10) dX6_command_33 (by decide) ?_
        refine z_irem CX dX6_command_35 (by decide) ?_
        rw [gq5 hG]
        refine z_istore CX dX6_command_36 (by decide) ?_
        refine z_iload_n CX 1 dX6_command_38 rfl rfl ?_
        refine z_sipush CX (v := 1000) dX6_command_39 (by decide) ?_
        refine z_irem CX dX6_command_42 (by decide) ?_
        rw [gq6 hG]
        refine z_istore CX dX6_command_43 (by decide) ?_
        refine z_iload_n CX 1 dX6_command_45 rfl rfl ?_
        refine z_sipush CX (v := 10000) dX6_command_46 (by decide) ?_
        refine z_idiv CX dX6_command_49 (by decide) ?_
        rw [gq7 hG, hq]
        refine z_tabIn CX 256 dX6_command_50 (by decide) (by decide) rfl (by decide) ?_
        refine z_iload_n CX 3 dX6_command_256 rfl rfl ?_
        refine z_if_ne CX 288 dX6_command_257 (by decide) (fun q9 => absurd q9 (fun z => z (by rw [hc]; rfl))) (fun _ => ?_)
        refine z_iload_n CX 2 dX6_command_260 rfl rfl ?_
        refine z_callS1 CX dX6_command_261 cs_X6_232 (c_isO (nI (G / 1000 % 10))) rfl rfl (Nat.le_of_ble_eq_true rfl) ⟨Nat.le_of_ble_eq_true rfl, Nat.le_of_ble_eq_true rfl⟩ ⟨Nat.le_refl _, Nat.le_refl _⟩ ?_
        refine z_if_eq CX 288 dX6_command_264 (by decide) (fun q9 => absurd q9 (by rw [bI_1 (show 0 ≤ nI (G / 1000 % 10) ∧ nI (G / 1000 % 10) ≤ 3 from ⟨nI_pos' (by omega), nI_le (b := 3) hb (by omega)⟩)]; decide)) (fun _ => ?_)
        refine z_aload_n CX 0 dX6_command_267 rfl rfl ?_
        refine z_get CX dX6_command_268 fg_X6_13 mo_0 rfl ?_
        refine z_sipush CX (v := 134) dX6_command_271 (by decide) ?_
        refine z_iconst CX (v := 3) dX6_command_274 (by decide) ?_
        refine z_iload_n CX 2 dX6_command_275 rfl rfl ?_
        refine z_imul CX dX6_command_276 ?_
        refine z_iadd CX dX6_command_277 ?_
        refine z_ia CX (j := 134 + 3 * (G / 1000 % 10)) dX6_command_278 mo_2 (ix_add rfl (ix_mul rfl rfl)) (by omega) (by decide) ?_
        refine z_iload CX dX6_command_279 rfl ?_
        refine z_icmp_lt CX 288 dX6_command_281 (by decide) (fun c_281 => ?_) (fun c_281 => ?_)
        · skip
          refine z_iconst CX (v := 0) dX6_command_288 (by decide) ?_
          exact z_zret CX dX6_command_289 rfl (by first | rfl | exact bI_nar _) (congrArg Value.int (by rw [decide_eq_false (fun z => absurd z.2.2 (Int32.not_le.mpr c_281))]; rfl)) (by show _ = modH w hs k u (upA A 1 (A 1)); rw [upA_id]) (Or.inl rfl)
        · skip
          refine z_iconst CX (v := 1) dX6_command_284 (by decide) ?_
          refine z_goto CX 289 dX6_command_285 (by decide) ?_
          exact z_zret CX dX6_command_289 rfl (by first | rfl | exact bI_nar _) (congrArg Value.int (by rw [decide_eq_true ⟨hc, hb, Int32.not_lt.mp c_281⟩]; rfl)) (by show _ = modH w hs k u (upA A 1 (A 1)); rw [upA_id]) (Or.inl rfl)
      · skip
        refine Cn.of (d := mX6_command) (by decide +kernel) (Nat.le_of_ble_eq_true rfl) ?_
        intro p e R s m args below meth c CX
        replace CX : Ctx p s m args meth c R w RX6 "command" cX6_command 8 (some .boolean) 8 180 0 0 := CX
        show ZW p l e R s m args below meth c w 8 _ _ 0 0 (MQ below (Qn w _ _ _) args s 0 0 (wA w)) 0 [(0, .ref (wB w + k)), (1, .int _)] []
        refine z_iload_n CX 1 dX6_command_0 rfl rfl ?_
        refine z_sipush CX (v := 1000) dX6_command_1 (by decide) ?_
        refine z_idiv CX dX6_command_4 (by decide) ?_
        refine z_bipush CX (v := 10) dX6_command_5 (by decide) ?_
        refine z_irem CX dX6_command_7 (by decide) ?_
        rw [gq1 hG]
        refine z_istore_n CX 2 dX6_command_8 rfl (by decide) ?_
        refine z_iload_n CX 1 dX6_command_9 rfl rfl ?_
        refine z_bipush CX (v := 100) dX6_command_10 (by decide) ?_
        refine z_idiv CX dX6_command_12 (by decide) ?_
        refine z_bipush CX (v := 10) dX6_command_13 (by decide) ?_
        refine z_irem CX dX6_command_15 (by decide) ?_
        rw [gq2 hG]
        refine z_istore_n CX 3 dX6_command_16 rfl (by decide) ?_
        refine z_iload_n CX 1 dX6_command_17 rfl rfl ?_
        refine z_bipush CX (v := 10) dX6_command_18 (by decide) ?_
        refine z_idiv CX dX6_command_20 (by decide) ?_
        refine z_bipush CX (v := 10) dX6_command_21 (by decide) ?_
        refine z_irem CX dX6_command_23 (by decide) ?_
        rw [gq3 hG]
        refine z_istore CX dX6_command_24 (by decide) ?_
        refine z_iload_n CX 1 dX6_command_26 rfl rfl ?_
        refine z_bipush CX (v := 100) dX6_command_27 (by decide) ?_
        refine z_irem CX dX6_command_29 (by decide) ?_
        rw [gq4 hG]
        refine z_istore CX dX6_command_30 (by decide) ?_
        refine z_iload_n CX 1 dX6_command_32 rfl rfl ?_
        refine z_bipush CX (v := 10) dX6_command_33 (by decide) ?_
        refine z_irem CX dX6_command_35 (by decide) ?_
        rw [gq5 hG]
        refine z_istore CX dX6_command_36 (by decide) ?_
        refine z_iload_n CX 1 dX6_command_38 rfl rfl ?_
        refine z_sipush CX (v := 1000) dX6_command_39 (by decide) ?_
        refine z_irem CX dX6_command_42 (by decide) ?_
        rw [gq6 hG]
        refine z_istore CX dX6_command_43 (by decide) ?_
        refine z_iload_n CX 1 dX6_command_45 rfl rfl ?_
        refine z_sipush CX (v := 10000) dX6_command_46 (by decide) ?_
        refine z_idiv CX dX6_command_49 (by decide) ?_
        rw [gq7 hG, hq]
        refine z_tabIn CX 256 dX6_command_50 (by decide) (by decide) rfl (by decide) ?_
        refine z_iload_n CX 3 dX6_command_256 rfl rfl ?_
        refine z_if_ne CX 288 dX6_command_257 (by decide) (fun q9 => absurd q9 (fun z => z (by rw [hc]; rfl))) (fun _ => ?_)
        refine z_iload_n CX 2 dX6_command_260 rfl rfl ?_
        refine z_callS1 CX dX6_command_261 cs_X6_232 (c_isO (nI (G / 1000 % 10))) rfl rfl (Nat.le_of_ble_eq_true rfl) ⟨Nat.le_of_ble_eq_true rfl, Nat.le_of_ble_eq_true rfl⟩ ⟨Nat.le_refl _, Nat.le_refl _⟩ ?_
        refine z_if_eq CX 288 dX6_command_264 (by decide) (fun _ => ?_) (fun q9 => absurd (bI_0 (fun z => hb ((nI_leI (b := 3) (by omega) (by omega)).mp z.2))) q9)
        refine z_iconst CX (v := 0) dX6_command_288 (by decide) ?_
        exact z_zret CX dX6_command_289 rfl (by first | rfl | exact bI_nar _) (congrArg Value.int (by rw [decide_eq_false (fun z => hb z.2.1)]; rfl)) (by show _ = modH w hs k u (upA A 1 (A 1)); rw [upA_id]) (Or.inl rfl)
    · skip
      refine Cn.of (d := mX6_command) (by decide +kernel) (Nat.le_of_ble_eq_true rfl) ?_
      intro p e R s m args below meth c CX
      replace CX : Ctx p s m args meth c R w RX6 "command" cX6_command 8 (some .boolean) 8 180 0 0 := CX
      show ZW p l e R s m args below meth c w 8 _ _ 0 0 (MQ below (Qn w _ _ _) args s 0 0 (wA w)) 0 [(0, .ref (wB w + k)), (1, .int _)] []
      refine z_iload_n CX 1 dX6_command_0 rfl rfl ?_
      refine z_sipush CX (v := 1000) dX6_command_1 (by decide) ?_
      refine z_idiv CX dX6_command_4 (by decide) ?_
      refine z_bipush CX (v := 10) dX6_command_5 (by decide) ?_
      refine z_irem CX dX6_command_7 (by decide) ?_
      rw [gq1 hG]
      refine z_istore_n CX 2 dX6_command_8 rfl (by decide) ?_
      refine z_iload_n CX 1 dX6_command_9 rfl rfl ?_
      refine z_bipush CX (v := 100) dX6_command_10 (by decide) ?_
      refine z_idiv CX dX6_command_12 (by decide) ?_
      refine z_bipush CX (v := 10) dX6_command_13 (by decide) ?_
      refine z_irem CX dX6_command_15 (by decide) ?_
      rw [gq2 hG]
      refine z_istore_n CX 3 dX6_command_16 rfl (by decide) ?_
      refine z_iload_n CX 1 dX6_command_17 rfl rfl ?_
      refine z_bipush CX (v := 10) dX6_command_18 (by decide) ?_
      refine z_idiv CX dX6_command_20 (by decide) ?_
      refine z_bipush CX (v := 10) dX6_command_21 (by decide) ?_
      refine z_irem CX dX6_command_23 (by decide) ?_
      rw [gq3 hG]
      refine z_istore CX dX6_command_24 (by decide) ?_
      refine z_iload_n CX 1 dX6_command_26 rfl rfl ?_
      refine z_bipush CX (v := 100) dX6_command_27 (by decide) ?_
      refine z_irem CX dX6_command_29 (by decide) ?_
      rw [gq4 hG]
      refine z_istore CX dX6_command_30 (by decide) ?_
      refine z_iload_n CX 1 dX6_command_32 rfl rfl ?_
      refine z_bipush CX (v := 10) dX6_command_33 (by decide) ?_
      refine z_irem CX dX6_command_35 (by decide) ?_
      rw [gq5 hG]
      refine z_istore CX dX6_command_36 (by decide) ?_
      refine z_iload_n CX 1 dX6_command_38 rfl rfl ?_
      refine z_sipush CX (v := 1000) dX6_command_39 (by decide) ?_
      refine z_irem CX dX6_command_42 (by decide) ?_
      rw [gq6 hG]
      refine z_istore CX dX6_command_43 (by decide) ?_
      refine z_iload_n CX 1 dX6_command_45 rfl rfl ?_
      refine z_sipush CX (v := 10000) dX6_command_46 (by decide) ?_
      refine z_idiv CX dX6_command_49 (by decide) ?_
      rw [gq7 hG, hq]
      refine z_tabIn CX 256 dX6_command_50 (by decide) (by decide) rfl (by decide) ?_
      refine z_iload_n CX 3 dX6_command_256 rfl rfl ?_
      refine z_if_ne CX 288 dX6_command_257 (by decide) (fun _ => ?_) (fun q9 => absurd q9 (nI_ne0 (by omega) (by omega)))
      refine z_iconst CX (v := 0) dX6_command_288 (by decide) ?_
      exact z_zret CX dX6_command_289 rfl (by first | rfl | exact bI_nar _) (congrArg Value.int (by rw [decide_eq_false (fun z => hc z.1)]; rfl)) (by show _ = modH w hs k u (upA A 1 (A 1)); rw [upA_id]) (Or.inl rfl)
  | 9, _, hq =>
    rw [show cmdF (A 1) G = (decide ((G / 100 % 10) = 0 ∧ (G / 1000 % 10) < bN (A 1) ∧ A 1 (24 + 10 * (G / 1000 % 10) + 6) ≤ nI (G % 100)), A 1) by unfold cmdF; rw [hq]; exact rfl]
    by_cases hc : G / 100 % 10 = 0
    · by_cases hb : (G / 1000 % 10) < bN (A 1)
      · skip
        refine Cn.of (d := mX6_command) (by decide +kernel) (Nat.le_of_ble_eq_true rfl) ?_
        intro p e R s m args below meth c CX
        replace CX : Ctx p s m args meth c R w RX6 "command" cX6_command 8 (some .boolean) 8 180 0 0 := CX
        show ZW p l e R s m args below meth c w 8 _ _ 0 0 (MQ below (Qn w _ _ _) args s 0 0 (wA w)) 0 [(0, .ref (wB w + k)), (1, .int _)] []
        refine z_iload_n CX 1 dX6_command_0 rfl rfl ?_
        refine z_sipush CX (v := 1000) dX6_command_1 (by decide) ?_
        refine z_idiv CX dX6_command_4 (by decide) ?_
        refine z_bipush CX (v := 10) dX6_command_5 (by decide) ?_
        refine z_irem CX dX6_command_7 (by decide) ?_
        rw [gq1 hG]
        refine z_istore_n CX 2 dX6_command_8 rfl (by decide) ?_
        refine z_iload_n CX 1 dX6_command_9 rfl rfl ?_
        refine z_bipush CX (v := 100) dX6_command_10 (by decide) ?_
        refine z_idiv CX dX6_command_12 (by decide) ?_
        refine z_bipush CX (v := 10) dX6_command_13 (by decide) ?_
        refine z_irem CX dX6_command_15 (by decide) ?_
        rw [gq2 hG]
        refine z_istore_n CX 3 dX6_command_16 rfl (by decide) ?_
        refine z_iload_n CX 1 dX6_command_17 rfl rfl ?_
        refine z_bipush CX (v := 10) dX6_command_18 (by decide) ?_
        refine z_idiv CX dX6_command_20 (by decide) ?_
        refine z_bipush CX (v := 10) dX6_command_21 (by decide) ?_
        refine z_irem CX dX6_command_23 (by decide) ?_
        rw [gq3 hG]
        refine z_istore CX dX6_command_24 (by decide) ?_
        refine z_iload_n CX 1 dX6_command_26 rfl rfl ?_
        refine z_bipush CX (v := 100) dX6_command_27 (by decide) ?_
        refine z_irem CX dX6_command_29 (by decide) ?_
        rw [gq4 hG]
        refine z_istore CX dX6_command_30 (by decide) ?_
        refine z_iload_n CX 1 dX6_command_32 rfl rfl ?_
        refine z_bipush CX (v := 10) dX6_command_33 (by decide) ?_
        refine z_irem CX dX6_command_35 (by decide) ?_
        rw [gq5 hG]
        refine z_istore CX dX6_command_36 (by decide) ?_
        refine z_iload_n CX 1 dX6_command_38 rfl rfl ?_
        refine z_sipush CX (v := 1000) dX6_command_39 (by decide) ?_
        refine z_irem CX dX6_command_42 (by decide) ?_
        rw [gq6 hG]
        refine z_istore CX dX6_command_43 (by decide) ?_
        refine z_iload_n CX 1 dX6_command_45 rfl rfl ?_
        refine z_sipush CX (v := 10000) dX6_command_46 (by decide) ?_
        refine z_idiv CX dX6_command_49 (by decide) ?_
        rw [gq7 hG, hq]
        refine z_tabIn CX 290 dX6_command_50 (by decide) (by decide) rfl (by decide) ?_
        refine z_iload_n CX 3 dX6_command_290 rfl rfl ?_
        refine z_if_ne CX 326 dX6_command_291 (by decide) (fun q9 => absurd q9 (fun z => z (by rw [hc]; rfl))) (fun _ => ?_)
        refine z_aload_n CX 0 dX6_command_294 rfl rfl ?_
        refine z_get CX dX6_command_295 fg_X6_13 mo_0 rfl ?_
        refine z_iload_n CX 2 dX6_command_298 rfl rfl ?_
        refine z_callS1 CX dX6_command_299 cs_X6_166 (Cn.row mq_1 mq_1 (a := k + 2) (c_isB hO.1.2.1 (by have := hO.2.2; omega) (nI (G / 1000 % 10)))) rfl rfl (Nat.le_of_ble_eq_true rfl) ⟨Nat.le_of_ble_eq_true rfl, Nat.le_of_ble_eq_true rfl⟩ ⟨Nat.le_refl _, Nat.le_refl _⟩ ?_
        refine z_if_eq CX 326 dX6_command_302 (by decide) (fun q9 => absurd q9 (by rw [bI_1 (show 0 ≤ nI (G / 1000 % 10) ∧ nI (G / 1000 % 10) < nI (bN (A 1)) from ⟨nI_pos' (by omega), nI_lt hb (by omega)⟩)]; decide)) (fun _ => ?_)
        refine z_aload_n CX 0 dX6_command_305 rfl rfl ?_
        refine z_get CX dX6_command_306 fg_X6_13 mo_0 rfl ?_
        refine z_iload_n CX 2 dX6_command_309 rfl rfl ?_
        refine z_callS1 CX dX6_command_310 cs_X6_60 (c_spot (G / 1000 % 10)) rfl rfl (Nat.le_of_ble_eq_true rfl) ⟨Nat.le_of_ble_eq_true rfl, Nat.le_of_ble_eq_true rfl⟩ ⟨Nat.le_refl _, Nat.le_refl _⟩ ?_
        refine z_bipush CX (v := 6) dX6_command_313 (by decide) ?_
        refine z_iadd CX dX6_command_315 ?_
        refine z_ia CX (j := ((24 + 10 * (G / 1000 % 10)) + 6)) dX6_command_316 mo_2 (ix_add rfl rfl) (by omega) (by decide) ?_
        refine z_iload CX dX6_command_317 rfl ?_
        refine z_icmp_gt CX 326 dX6_command_319 (by decide) (fun c_319 => ?_) (fun c_319 => ?_)
        · skip
          refine z_iconst CX (v := 0) dX6_command_326 (by decide) ?_
          exact z_zret CX dX6_command_327 rfl (by first | rfl | exact bI_nar _) (congrArg Value.int (by rw [decide_eq_false (fun z => absurd z.2.2 (Int32.not_le.mpr c_319))]; rfl)) (by show _ = modH w hs k u (upA A 1 (A 1)); rw [upA_id]) (Or.inl rfl)
        · skip
          refine z_iconst CX (v := 1) dX6_command_322 (by decide) ?_
          refine z_goto CX 327 dX6_command_323 (by decide) ?_
          exact z_zret CX dX6_command_327 rfl (by first | rfl | exact bI_nar _) (congrArg Value.int (by rw [decide_eq_true ⟨hc, hb, Int32.not_lt.mp c_319⟩]; rfl)) (by show _ = modH w hs k u (upA A 1 (A 1)); rw [upA_id]) (Or.inl rfl)
      · skip
        refine Cn.of (d := mX6_command) (by decide +kernel) (Nat.le_of_ble_eq_true rfl) ?_
        intro p e R s m args below meth c CX
        replace CX : Ctx p s m args meth c R w RX6 "command" cX6_command 8 (some .boolean) 8 180 0 0 := CX
        show ZW p l e R s m args below meth c w 8 _ _ 0 0 (MQ below (Qn w _ _ _) args s 0 0 (wA w)) 0 [(0, .ref (wB w + k)), (1, .int _)] []
        refine z_iload_n CX 1 dX6_command_0 rfl rfl ?_
        refine z_sipush CX (v := 1000) dX6_command_1 (by decide) ?_
        refine z_idiv CX dX6_command_4 (by decide) ?_
        refine z_bipush CX (v := 10) dX6_command_5 (by decide) ?_
        refine z_irem CX dX6_command_7 (by decide) ?_
        rw [gq1 hG]
        refine z_istore_n CX 2 dX6_command_8 rfl (by decide) ?_
        refine z_iload_n CX 1 dX6_command_9 rfl rfl ?_
        refine z_bipush CX (v := 100) dX6_command_10 (by decide) ?_
        refine z_idiv CX dX6_command_12 (by decide) ?_
        refine z_bipush CX (v := 10) dX6_command_13 (by decide) ?_
        refine z_irem CX dX6_command_15 (by decide) ?_
        rw [gq2 hG]
        refine z_istore_n CX 3 dX6_command_16 rfl (by decide) ?_
        refine z_iload_n CX 1 dX6_command_17 rfl rfl ?_
        refine z_bipush CX (v := 10) dX6_command_18 (by decide) ?_
        refine z_idiv CX dX6_command_20 (by decide) ?_
        refine z_bipush CX (v := 10) dX6_command_21 (by decide) ?_
        refine z_irem CX dX6_command_23 (by decide) ?_
        rw [gq3 hG]
        refine z_istore CX dX6_command_24 (by decide) ?_
        refine z_iload_n CX 1 dX6_command_26 rfl rfl ?_
        refine z_bipush CX (v := 100) dX6_command_27 (by decide) ?_
        refine z_irem CX dX6_command_29 (by decide) ?_
        rw [gq4 hG]
        refine z_istore CX dX6_command_30 (by decide) ?_
        refine z_iload_n CX 1 dX6_command_32 rfl rfl ?_
        refine z_bipush CX (v := 10) dX6_command_33 (by decide) ?_
        refine z_irem CX dX6_command_35 (by decide) ?_
        rw [gq5 hG]
        refine z_istore CX dX6_command_36 (by decide) ?_
        refine z_iload_n CX 1 dX6_command_38 rfl rfl ?_
        refine z_sipush CX (v := 1000) dX6_command_39 (by decide) ?_
        refine z_irem CX dX6_command_42 (by decide) ?_
        rw [gq6 hG]
        refine z_istore CX dX6_command_43 (by decide) ?_
        refine z_iload_n CX 1 dX6_command_45 rfl rfl ?_
        refine z_sipush CX (v := 10000) dX6_command_46 (by decide) ?_
        refine z_idiv CX dX6_command_49 (by decide) ?_
        rw [gq7 hG, hq]
        refine z_tabIn CX 290 dX6_command_50 (by decide) (by decide) rfl (by decide) ?_
        refine z_iload_n CX 3 dX6_command_290 rfl rfl ?_
        refine z_if_ne CX 326 dX6_command_291 (by decide) (fun q9 => absurd q9 (fun z => z (by rw [hc]; rfl))) (fun _ => ?_)
        refine z_aload_n CX 0 dX6_command_294 rfl rfl ?_
        refine z_get CX dX6_command_295 fg_X6_13 mo_0 rfl ?_
        refine z_iload_n CX 2 dX6_command_298 rfl rfl ?_
        refine z_callS1 CX dX6_command_299 cs_X6_166 (Cn.row mq_1 mq_1 (a := k + 2) (c_isB hO.1.2.1 (by have := hO.2.2; omega) (nI (G / 1000 % 10)))) rfl rfl (Nat.le_of_ble_eq_true rfl) ⟨Nat.le_of_ble_eq_true rfl, Nat.le_of_ble_eq_true rfl⟩ ⟨Nat.le_refl _, Nat.le_refl _⟩ ?_
        refine z_if_eq CX 326 dX6_command_302 (by decide) (fun _ => ?_) (fun q9 => absurd (bI_0 (fun z => hb ((nI_ltI (by omega) (by omega)).mp z.2))) q9)
        refine z_iconst CX (v := 0) dX6_command_326 (by decide) ?_
        exact z_zret CX dX6_command_327 rfl (by first | rfl | exact bI_nar _) (congrArg Value.int (by rw [decide_eq_false (fun z => hb z.2.1)]; rfl)) (by show _ = modH w hs k u (upA A 1 (A 1)); rw [upA_id]) (Or.inl rfl)
    · skip
      refine Cn.of (d := mX6_command) (by decide +kernel) (Nat.le_of_ble_eq_true rfl) ?_
      intro p e R s m args below meth c CX
      replace CX : Ctx p s m args meth c R w RX6 "command" cX6_command 8 (some .boolean) 8 180 0 0 := CX
      show ZW p l e R s m args below meth c w 8 _ _ 0 0 (MQ below (Qn w _ _ _) args s 0 0 (wA w)) 0 [(0, .ref (wB w + k)), (1, .int _)] []
      refine z_iload_n CX 1 dX6_command_0 rfl rfl ?_
      refine z_sipush CX (v := 1000) dX6_command_1 (by decide) ?_
      refine z_idiv CX dX6_command_4 (by decide) ?_
      refine z_bipush CX (v := 10) dX6_command_5 (by decide) ?_
      refine z_irem CX dX6_command_7 (by decide) ?_
      rw [gq1 hG]
      refine z_istore_n CX 2 dX6_command_8 rfl (by decide) ?_
      refine z_iload_n CX 1 dX6_command_9 rfl rfl ?_
      refine z_bipush CX (v := 100) dX6_command_10 (by decide) ?_
      refine z_idiv CX dX6_command_12 (by decide) ?_
      refine z_bipush CX (v := 10) dX6_command_13 (by decide) ?_
      refine z_irem CX dX6_command_15 (by decide) ?_
      rw [gq2 hG]
      refine z_istore_n CX 3 dX6_command_16 rfl (by decide) ?_
      refine z_iload_n CX 1 dX6_command_17 rfl rfl ?_
      refine z_bipush CX (v := 10) dX6_command_18 (by decide) ?_
      refine z_idiv CX dX6_command_20 (by decide) ?_
      refine z_bipush CX (v := 10) dX6_command_21 (by decide) ?_
      refine z_irem CX dX6_command_23 (by decide) ?_
      rw [gq3 hG]
      refine z_istore CX dX6_command_24 (by decide) ?_
      refine z_iload_n CX 1 dX6_command_26 rfl rfl ?_
      refine z_bipush CX (v := 100) dX6_command_27 (by decide) ?_
      refine z_irem CX dX6_command_29 (by decide) ?_
      rw [gq4 hG]
      refine z_istore CX dX6_command_30 (by decide) ?_
      refine z_iload_n CX 1 dX6_command_32 rfl rfl ?_
      refine z_bipush CX (v := 10) dX6_command_33 (by decide) ?_
      refine z_irem CX dX6_command_35 (by decide) ?_
      rw [gq5 hG]
      refine z_istore CX dX6_command_36 (by decide) ?_
      refine z_iload_n CX 1 dX6_command_38 rfl rfl ?_
      refine z_sipush CX (v := 1000) dX6_command_39 (by decide) ?_
      refine z_irem CX dX6_command_42 (by decide) ?_
      rw [gq6 hG]
      refine z_istore CX dX6_command_43 (by decide) ?_
      refine z_iload_n CX 1 dX6_command_45 rfl rfl ?_
      refine z_sipush CX (v := 10000) dX6_command_46 (by decide) ?_
      refine z_idiv CX dX6_command_49 (by decide) ?_
      rw [gq7 hG, hq]
      refine z_tabIn CX 290 dX6_command_50 (by decide) (by decide) rfl (by decide) ?_
      refine z_iload_n CX 3 dX6_command_290 rfl rfl ?_
      refine z_if_ne CX 326 dX6_command_291 (by decide) (fun _ => ?_) (fun q9 => absurd q9 (nI_ne0 (by omega) (by omega)))
      refine z_iconst CX (v := 0) dX6_command_326 (by decide) ?_
      exact z_zret CX dX6_command_327 rfl (by first | rfl | exact bI_nar _) (congrArg Value.int (by rw [decide_eq_false (fun z => hc z.1)]; rfl)) (by show _ = modH w hs k u (upA A 1 (A 1)); rw [upA_id]) (Or.inl rfl)
