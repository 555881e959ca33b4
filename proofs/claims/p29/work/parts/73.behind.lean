/-! the text: what stands behind a letter; a command -/
theorem twS_w {t : Nat → Int32} {len y : Nat} {a b : Int32} : twS t len a b (y, false) = (y, false) := by unfold twS; rw [dgS_w, dgS_w]
theorem dgV_nn {t : Nat → Int32} {len y a b : Nat} (ha : a < 2 ^ 31) (h : (dgS t len (nI a) (nI b) (y, true)).2 = true) : ¬ dgV t len (nI a) (nI b) (y, true) = -1 := by
  by_cases c : nI a ≤ hrF t len y - 48 ∧ hrF t len y - 48 ≤ nI b
  · rw [dgV_y c]
    intro q
    have q2 := Int32.le_trans (nI_le (a := 0) (Nat.zero_le a) ha) c.1
    rw [q] at q2
    exact absurd q2 (by decide)
  · rw [dgS_z c] at h
    exact absurd h Bool.false_ne_true
theorem twV_nn {t : Nat → Int32} {len y a b : Nat} (ha : a < 100) (hb : b < 100) (h : (twS t len (nI a) (nI b) (y, true)).2 = true) : ¬ twV t len (nI a) (nI b) (y, true) = -1 := by
  by_cases c : nI (a / 10) ≤ hrF t len y - 48 ∧ hrF t len y - 48 ≤ nI (b / 10)
  · obtain ⟨i, h1, h2, h3⟩ := nI_rng (by omega) c.1 c.2 (by omega)
    obtain ⟨e1, e2⟩ := tw_s ha hb (show i ≤ 9 by omega) h3 ⟨h1, h2⟩
    rw [e1] at h
    rw [e2]
    by_cases c2 : nI (if i = a / 10 then a % 10 else 0) ≤ hrF t len (y + 1) - 48 ∧ hrF t len (y + 1) - 48 ≤ nI (if i = b / 10 then b % 10 else 9)
    · obtain ⟨j, g1, g2, g3⟩ := nI_rng (by split <;> omega) c2.1 c2.2 (by split <;> omega)
      rw [dgV_y c2, g3, show (10 : Int32) = nI 10 from rfl, pk_mul, nI_add]
      exact nI_nm1 (by split at g2 <;> omega)
    · rw [dgS_z c2] at h
      exact absurd h Bool.false_ne_true
  · rw [tw_1 ha hb c] at h
    exact absurd h Bool.false_ne_true
set_option maxHeartbeats 4000000 in
set_option maxRecDepth 100000 in
theorem x_nb_103 {l : Launch} {w : Wt} {hs : Hs} {n : Option Nat} : Cn l w mX3_numbersBehind 0 0 [.int 103] hs n hs n (some (.ref (wO w 0))) := by
  refine Cn.of (d := mX3_numbersBehind) (by decide +kernel) (Nat.le_of_ble_eq_true rfl) ?_
  intro p e R s m args below meth c CX
  replace CX : Ctx p s m args meth c R w RX3 "numbersBehind" cX3_numbersBehind 1 (some (.array .int)) 0 0 0 0 := CX
  show ZW p l e R s m args below meth c w 1 _ _ 0 0 (MQ below (Qn w _ _ _) args s 0 0 (wA w)) 0 [(0, .int 103)] []
  refine z_iload_n CX 0 dX3_numbersBehind_0 rfl rfl ?_
  refine z_tabIn CX 88 dX3_numbersBehind_1 (by decide) (by decide) rfl (by decide) ?_
  refine z_ogets CX (k := 0) dX3_numbersBehind_88 (by decide) so_X3_54 ?_
  exact z_aret CX dX3_numbersBehind_91 rfl (Or.inr ⟨_, rfl⟩) rfl rfl (Or.inl rfl)
set_option maxHeartbeats 4000000 in
set_option maxRecDepth 100000 in
theorem x_nb_98 {l : Launch} {w : Wt} {hs : Hs} {n : Option Nat} : Cn l w mX3_numbersBehind 0 0 [.int 98] hs n hs n (some (.ref (wO w 1))) := by
  refine Cn.of (d := mX3_numbersBehind) (by decide +kernel) (Nat.le_of_ble_eq_true rfl) ?_
  intro p e R s m args below meth c CX
  replace CX : Ctx p s m args meth c R w RX3 "numbersBehind" cX3_numbersBehind 1 (some (.array .int)) 0 0 0 0 := CX
  show ZW p l e R s m args below meth c w 1 _ _ 0 0 (MQ below (Qn w _ _ _) args s 0 0 (wA w)) 0 [(0, .int 98)] []
  refine z_iload_n CX 0 dX3_numbersBehind_0 rfl rfl ?_
  refine z_tabIn CX 92 dX3_numbersBehind_1 (by decide) (by decide) rfl (by decide) ?_
  refine z_ogets CX (k := 1) dX3_numbersBehind_92 (by decide) so_X3_57 ?_
  exact z_aret CX dX3_numbersBehind_95 rfl (Or.inr ⟨_, rfl⟩) rfl rfl (Or.inl rfl)
set_option maxHeartbeats 4000000 in
set_option maxRecDepth 100000 in
theorem x_nb_108 {l : Launch} {w : Wt} {hs : Hs} {n : Option Nat} : Cn l w mX3_numbersBehind 0 0 [.int 108] hs n hs n (some (.ref (wO w 2))) := by
  refine Cn.of (d := mX3_numbersBehind) (by decide +kernel) (Nat.le_of_ble_eq_true rfl) ?_
  intro p e R s m args below meth c CX
  replace CX : Ctx p s m args meth c R w RX3 "numbersBehind" cX3_numbersBehind 1 (some (.array .int)) 0 0 0 0 := CX
  show ZW p l e R s m args below meth c w 1 _ _ 0 0 (MQ below (Qn w _ _ _) args s 0 0 (wA w)) 0 [(0, .int 108)] []
  refine z_iload_n CX 0 dX3_numbersBehind_0 rfl rfl ?_
  refine z_tabIn CX 96 dX3_numbersBehind_1 (by decide) (by decide) rfl (by decide) ?_
  refine z_ogets CX (k := 2) dX3_numbersBehind_96 (by decide) so_X3_60 ?_
  exact z_aret CX dX3_numbersBehind_99 rfl (Or.inr ⟨_, rfl⟩) rfl rfl (Or.inl rfl)
set_option maxHeartbeats 4000000 in
set_option maxRecDepth 100000 in
theorem x_nb_109 {l : Launch} {w : Wt} {hs : Hs} {n : Option Nat} : Cn l w mX3_numbersBehind 0 0 [.int 109] hs n hs n (some (.ref (wO w 3))) := by
  refine Cn.of (d := mX3_numbersBehind) (by decide +kernel) (Nat.le_of_ble_eq_true rfl) ?_
  intro p e R s m args below meth c CX
  replace CX : Ctx p s m args meth c R w RX3 "numbersBehind" cX3_numbersBehind 1 (some (.array .int)) 0 0 0 0 := CX
  show ZW p l e R s m args below meth c w 1 _ _ 0 0 (MQ below (Qn w _ _ _) args s 0 0 (wA w)) 0 [(0, .int 109)] []
  refine z_iload_n CX 0 dX3_numbersBehind_0 rfl rfl ?_
  refine z_tabIn CX 100 dX3_numbersBehind_1 (by decide) (by decide) rfl (by decide) ?_
  refine z_ogets CX (k := 3) dX3_numbersBehind_100 (by decide) so_X3_63 ?_
  exact z_aret CX dX3_numbersBehind_103 rfl (Or.inr ⟨_, rfl⟩) rfl rfl (Or.inl rfl)
set_option maxHeartbeats 4000000 in
set_option maxRecDepth 100000 in
theorem x_nb_104 {l : Launch} {w : Wt} {hs : Hs} {n : Option Nat} : Cn l w mX3_numbersBehind 0 0 [.int 104] hs n hs n (some (.ref (wO w 4))) := by
  refine Cn.of (d := mX3_numbersBehind) (by decide +kernel) (Nat.le_of_ble_eq_true rfl) ?_
  intro p e R s m args below meth c CX
  replace CX : Ctx p s m args meth c R w RX3 "numbersBehind" cX3_numbersBehind 1 (some (.array .int)) 0 0 0 0 := CX
  show ZW p l e R s m args below meth c w 1 _ _ 0 0 (MQ below (Qn w _ _ _) args s 0 0 (wA w)) 0 [(0, .int 104)] []
  refine z_iload_n CX 0 dX3_numbersBehind_0 rfl rfl ?_
  refine z_tabIn CX 104 dX3_numbersBehind_1 (by decide) (by decide) rfl (by decide) ?_
  refine z_ogets CX (k := 4) dX3_numbersBehind_104 (by decide) so_X3_66 ?_
  exact z_aret CX dX3_numbersBehind_107 rfl (Or.inr ⟨_, rfl⟩) rfl rfl (Or.inl rfl)
set_option maxHeartbeats 4000000 in
set_option maxRecDepth 100000 in
theorem x_nb_99 {l : Launch} {w : Wt} {hs : Hs} {n : Option Nat} : Cn l w mX3_numbersBehind 0 0 [.int 99] hs n hs n (some (.ref (wO w 5))) := by
  refine Cn.of (d := mX3_numbersBehind) (by decide +kernel) (Nat.le_of_ble_eq_true rfl) ?_
  intro p e R s m args below meth c CX
  replace CX : Ctx p s m args meth c R w RX3 "numbersBehind" cX3_numbersBehind 1 (some (.array .int)) 0 0 0 0 := CX
  show ZW p l e R s m args below meth c w 1 _ _ 0 0 (MQ below (Qn w _ _ _) args s 0 0 (wA w)) 0 [(0, .int 99)] []
  refine z_iload_n CX 0 dX3_numbersBehind_0 rfl rfl ?_
  refine z_tabIn CX 108 dX3_numbersBehind_1 (by decide) (by decide) rfl (by decide) ?_
  refine z_ogets CX (k := 5) dX3_numbersBehind_108 (by decide) so_X3_69 ?_
  exact z_aret CX dX3_numbersBehind_111 rfl (Or.inr ⟨_, rfl⟩) rfl rfl (Or.inl rfl)
set_option maxHeartbeats 4000000 in
set_option maxRecDepth 100000 in
theorem x_nb_115 {l : Launch} {w : Wt} {hs : Hs} {n : Option Nat} : Cn l w mX3_numbersBehind 0 0 [.int 115] hs n hs n (some (.ref (wO w 6))) := by
  refine Cn.of (d := mX3_numbersBehind) (by decide +kernel) (Nat.le_of_ble_eq_true rfl) ?_
  intro p e R s m args below meth c CX
  replace CX : Ctx p s m args meth c R w RX3 "numbersBehind" cX3_numbersBehind 1 (some (.array .int)) 0 0 0 0 := CX
  show ZW p l e R s m args below meth c w 1 _ _ 0 0 (MQ below (Qn w _ _ _) args s 0 0 (wA w)) 0 [(0, .int 115)] []
  refine z_iload_n CX 0 dX3_numbersBehind_0 rfl rfl ?_
  refine z_tabIn CX 112 dX3_numbersBehind_1 (by decide) (by decide) rfl (by decide) ?_
  refine z_ogets CX (k := 6) dX3_numbersBehind_112 (by decide) so_X3_72 ?_
  exact z_aret CX dX3_numbersBehind_115 rfl (Or.inr ⟨_, rfl⟩) rfl rfl (Or.inl rfl)
theorem nb_no {i : Nat} (h : i < 18) (h1 : i ≠ 0 ∧ i ≠ 1 ∧ i ≠ 5 ∧ i ≠ 6 ∧ i ≠ 10 ∧ i ≠ 11 ∧ i ≠ 17) : (#[91, 107, 115, 115, 115, 87, 103, 115, 115, 115, 95, 99, 115, 115, 115, 115, 115, 111] : Array Int)[i]? = some 115 :=
  (by decide : ∀ i, i < 18 → i ≠ 0 ∧ i ≠ 1 ∧ i ≠ 5 ∧ i ≠ 6 ∧ i ≠ 10 ∧ i ≠ 11 ∧ i ≠ 17 → (#[91, 107, 115, 115, 115, 87, 103, 115, 115, 115, 95, 99, 115, 115, 115, 115, 115, 111] : Array Int)[i]? = some 115) i h h1
set_option maxHeartbeats 4000000 in
set_option maxRecDepth 100000 in
theorem x_nb_no {l : Launch} {w : Wt} {hs : Hs} {n : Option Nat} {z : Int32} (hz : ¬ isLet z) : Cn l w mX3_numbersBehind 0 0 [.int z] hs n hs n (some (.ref (wO w 7))) := by
  have hx : ∀ x : Int32, isLet x → z.toInt ≠ x.toInt := fun x h q => hz (by rw [Int32.toInt_inj.mp q]; exact h)
  have h1 : z.toInt ≠ 98 := hx 98 (by decide)
  have h2 : z.toInt ≠ 99 := hx 99 (by decide)
  have h3 : z.toInt ≠ 103 := hx 103 (by decide)
  have h4 : z.toInt ≠ 104 := hx 104 (by decide)
  have h5 : z.toInt ≠ 108 := hx 108 (by decide)
  have h6 : z.toInt ≠ 109 := hx 109 (by decide)
  have h7 : z.toInt ≠ 115 := hx 115 (by decide)
  by_cases ho : z.toInt < 98 ∨ 115 < z.toInt
  · skip
    refine Cn.of (d := mX3_numbersBehind) (by decide +kernel) (Nat.le_of_ble_eq_true rfl) ?_
    intro p e R s m args below meth c CX
    replace CX : Ctx p s m args meth c R w RX3 "numbersBehind" cX3_numbersBehind 1 (some (.array .int)) 0 0 0 0 := CX
    show ZW p l e R s m args below meth c w 1 _ _ 0 0 (MQ below (Qn w _ _ _) args s 0 0 (wA w)) 0 [(0, .int z)] []
    refine z_iload_n CX 0 dX3_numbersBehind_0 rfl rfl ?_
    refine z_tabOut CX 116 dX3_numbersBehind_1 ho (by decide) ?_
    refine z_ogets CX (k := 7) dX3_numbersBehind_116 (by decide) so_X3_75 ?_
    exact z_aret CX dX3_numbersBehind_119 rfl (Or.inr ⟨_, rfl⟩) rfl rfl (Or.inl rfl)
  · skip
    refine Cn.of (d := mX3_numbersBehind) (by decide +kernel) (Nat.le_of_ble_eq_true rfl) ?_
    intro p e R s m args below meth c CX
    replace CX : Ctx p s m args meth c R w RX3 "numbersBehind" cX3_numbersBehind 1 (some (.array .int)) 0 0 0 0 := CX
    show ZW p l e R s m args below meth c w 1 _ _ 0 0 (MQ below (Qn w _ _ _) args s 0 0 (wA w)) 0 [(0, .int z)] []
    refine z_iload_n CX 0 dX3_numbersBehind_0 rfl rfl ?_
    refine z_tabIn CX 116 dX3_numbersBehind_1 (fun q => ho (Or.inl q)) (fun q => ho (Or.inr q)) (nb_no (by omega) (by omega)) (by decide) ?_
    refine z_ogets CX (k := 7) dX3_numbersBehind_116 (by decide) so_X3_75 ?_
    exact z_aret CX dX3_numbersBehind_119 rfl (Or.inr ⟨_, rfl⟩) rfl rfl (Or.inl rfl)
set_option maxHeartbeats 4000000 in
set_option maxRecDepth 100000 in
theorem x_rc_no {l : Launch} {w : Wt} {hs : Hs} {n : Option Nat} {k : Nat} {s9 c9 d9 : Nat → Int32} {len y : Nat} (h0 : s9 0 = nI len) (hl : len ≤ 120) (h1 : s9 1 = nI y) (hy : y < 200) (hz : ¬ isLet (hrF c9 len y)) : Cn l w mX3_readCommand 0 0 [.ref (wB w + k)] (XT w hs k s9 c9 d9) n (XT w hs k (upd s9 2 (hrF c9 len y)) c9 d9) n (some (.int (bI false))) := by
  refine Cn.of (d := mX3_readCommand) (by decide +kernel) (Nat.le_of_ble_eq_true rfl) ?_
  intro p e R s m args below meth c CX
  replace CX : Ctx p s m args meth c R w RX3 "readCommand" cX3_readCommand 4 (some .boolean) 2 46 0 0 := CX
  show ZW p l e R s m args below meth c w 4 _ _ 0 0 (MQ below (Qn w _ _ _) args s 0 0 (wA w)) 0 [(0, .ref (wB w + k))] []
  refine z_aload_n CX 0 dX3_readCommand_0 rfl rfl ?_
  refine z_aload_n CX 0 dX3_readCommand_1 rfl rfl ?_
  refine z_callV1 CX dX3_readCommand_2 cv_X3_25 (x_hand h0 hl h1 (by omega)) xt_0 rfl rfl (Nat.le_of_ble_eq_true rfl) ⟨Nat.le_of_ble_eq_true rfl, Nat.le_of_ble_eq_true rfl⟩ ⟨Nat.le_refl _, Nat.le_refl _⟩ ?_
  refine z_put CX dX3_readCommand_5 fg_X3_33 fp_X3_4 xt_0 (Nat.le_of_ble_eq_true rfl) rfl rfl ?_
  refine z_heap xt_f2 ?_
  refine z_aload_n CX 0 dX3_readCommand_8 rfl rfl ?_
  refine z_get CX dX3_readCommand_9 fg_X3_33 xt_0 rfl ?_
  refine z_callS1 CX dX3_readCommand_12 cs_X3_46 (x_nb_no hz) rfl rfl (Nat.le_of_ble_eq_true rfl) ⟨Nat.le_of_ble_eq_true rfl, Nat.le_of_ble_eq_true rfl⟩ ⟨Nat.le_refl _, Nat.le_refl _⟩ ?_
  refine z_astore_n CX 1 dX3_readCommand_15 rfl (by decide) ?_
  refine z_aload_n CX 1 dX3_readCommand_16 rfl rfl ?_
  refine z_oalen CX dX3_readCommand_17 (by decide) rfl ?_
  refine z_if_ne CX 23 dX3_readCommand_18 (by decide) (fun q9 => absurd q9 (fun z => z (by decide))) (fun _ => ?_)
  refine z_iconst CX (v := 0) dX3_readCommand_21 (by decide) ?_
  exact z_zret CX dX3_readCommand_22 rfl (by first | rfl | exact bI_nar _) rfl rfl (Or.inl rfl)
set_option maxHeartbeats 4000000 in
set_option maxRecDepth 100000 in
theorem x_rc_103 {c9 d9 : Nat → Int32} {len y : Nat} (hl : len ≤ 120) (hy : y < 200) (hz : hrF c9 len y = 103) : ∃ dd : Nat → Int32, (∀ {l : Launch} {w : Wt} {hs : Hs} {n : Option Nat} {k : Nat} {s9 : Nat → Int32}, s9 0 = nI len → s9 1 = nI y → Cn l w mX3_readCommand 0 0 [.ref (wB w + k)] (XT w hs k s9 c9 d9) n (XT w hs k (upd (upd s9 2 103) 1 (nI (pzG c9 len (y + 1)).1.1)) c9 dd) n (some (.int (bI (pzG c9 len (y + 1)).1.2)))) ∧ ((pzG c9 len (y + 1)).1.2 = true → dd 0 = (pzG c9 len (y + 1)).2.1 ∧ dd 1 = (pzG c9 len (y + 1)).2.2.1 ∧ dd 2 = (pzG c9 len (y + 1)).2.2.2.1 ∧ dd 3 = (pzG c9 len (y + 1)).2.2.2.2) := by
  obtain ⟨y0, hy0⟩ : ∃ y0, y0 = y + 1 := ⟨_, rfl⟩
  by_cases g1 : (twS c9 len 4 40 (y0, true)).2 = true
  · obtain ⟨y1, e1⟩ : ∃ y1, twS c9 len 4 40 (y0, true) = (y1, true) := ⟨(twS c9 len 4 40 (y0, true)).1, Prod.ext rfl g1⟩
    have f1 : twS c9 len (nI 4) (nI 40) (y0, true) = (y1, true) := e1
    have b1 : y1 ≤ y0 + 2 := by have q := (twS_le (t := c9) (len := len) (lo := 4) (hi := 40) (q := (y0, true))).2; rw [e1] at q; show y1 ≤ (y0, true).1 + 2; omega
    by_cases g2 : (dgS c9 len 0 5 (y1, true)).2 = true
    · obtain ⟨y2, e2⟩ : ∃ y2, dgS c9 len 0 5 (y1, true) = (y2, true) := ⟨(dgS c9 len 0 5 (y1, true)).1, Prod.ext rfl g2⟩
      have f2 : dgS c9 len (nI 0) (nI 5) (y1, true) = (y2, true) := e2
      have b2 : y2 ≤ y1 + 2 := by have q := (dgS_le (t := c9) (len := len) (lo := 0) (hi := 5) (q := (y1, true))).2; rw [e2] at q; show y2 ≤ (y1, true).1 + 2; omega
      by_cases g3 : (dgS c9 len 0 5 (y2, true)).2 = true
      · obtain ⟨y3, e3⟩ : ∃ y3, dgS c9 len 0 5 (y2, true) = (y3, true) := ⟨(dgS c9 len 0 5 (y2, true)).1, Prod.ext rfl g3⟩
        have f3 : dgS c9 len (nI 0) (nI 5) (y2, true) = (y3, true) := e3
        have b3 : y3 ≤ y2 + 2 := by have q := (dgS_le (t := c9) (len := len) (lo := 0) (hi := 5) (q := (y2, true))).2; rw [e3] at q; show y3 ≤ (y2, true).1 + 2; omega
        by_cases g4 : (twS c9 len 0 39 (y3, true)).2 = true
        · obtain ⟨y4, e4⟩ : ∃ y4, twS c9 len 0 39 (y3, true) = (y4, true) := ⟨(twS c9 len 0 39 (y3, true)).1, Prod.ext rfl g4⟩
          have f4 : twS c9 len (nI 0) (nI 39) (y3, true) = (y4, true) := e4
          have b4 : y4 ≤ y3 + 2 := by have q := (twS_le (t := c9) (len := len) (lo := 0) (hi := 39) (q := (y3, true))).2; rw [e4] at q; show y4 ≤ (y3, true).1 + 2; omega
          have ee : (pzG c9 len (y + 1)) = ((y4, true), twV c9 len 4 40 (y0, true), dgV c9 len 0 5 (y1, true), dgV c9 len 0 5 (y2, true), twV c9 len 0 39 (y3, true)) := by subst hy0; unfold pzG; rw [e1, e2, e3, e4]
          rw [ee]
          refine ⟨(upd (upd (upd (upd d9 0 (twV c9 len (nI 4) (nI 40) (y0, true))) 1 (dgV c9 len (nI 0) (nI 5) (y1, true))) 2 (dgV c9 len (nI 0) (nI 5) (y2, true))) 3 (twV c9 len (nI 0) (nI 39) (y3, true))), @fun l w hs n k s9 h0 h1 => ?_, fun _ => ⟨rfl, rfl, rfl, rfl⟩⟩
          refine Cn.of (d := mX3_readCommand) (by decide +kernel) (Nat.le_of_ble_eq_true rfl) ?_
          intro p e R s m args below meth c CX
          replace CX : Ctx p s m args meth c R w RX3 "readCommand" cX3_readCommand 4 (some .boolean) 2 46 0 0 := CX
          show ZW p l e R s m args below meth c w 4 _ _ 0 0 (MQ below (Qn w _ _ _) args s 0 0 (wA w)) 0 [(0, .ref (wB w + k))] []
          refine z_aload_n CX 0 dX3_readCommand_0 rfl rfl ?_
          refine z_aload_n CX 0 dX3_readCommand_1 rfl rfl ?_
          refine z_callV1 CX dX3_readCommand_2 cv_X3_25 (x_hand h0 hl h1 (by omega)) xt_0 rfl rfl (Nat.le_of_ble_eq_true rfl) ⟨Nat.le_of_ble_eq_true rfl, Nat.le_of_ble_eq_true rfl⟩ ⟨Nat.le_refl _, Nat.le_refl _⟩ ?_
          rw [hz]
          refine z_put CX dX3_readCommand_5 fg_X3_33 fp_X3_4 xt_0 (Nat.le_of_ble_eq_true rfl) rfl rfl ?_
          refine z_heap xt_f2 ?_
          refine z_aload_n CX 0 dX3_readCommand_8 rfl rfl ?_
          refine z_get CX dX3_readCommand_9 fg_X3_33 xt_0 rfl ?_
          refine z_callS1 CX dX3_readCommand_12 cs_X3_46 x_nb_103 rfl rfl (Nat.le_of_ble_eq_true rfl) ⟨Nat.le_of_ble_eq_true rfl, Nat.le_of_ble_eq_true rfl⟩ ⟨Nat.le_refl _, Nat.le_refl _⟩ ?_
          refine z_astore_n CX 1 dX3_readCommand_15 rfl (by decide) ?_
          refine z_aload_n CX 1 dX3_readCommand_16 rfl rfl ?_
          refine z_oalen CX dX3_readCommand_17 (by decide) rfl ?_
          refine z_if_ne CX 23 dX3_readCommand_18 (by decide) (fun _ => ?_) (fun q9 => absurd q9 (by decide))
          refine z_aload_n CX 0 dX3_readCommand_23 rfl rfl ?_
          refine z_dup CX dX3_readCommand_24 rfl ?_
          refine z_get CX dX3_readCommand_25 fg_X3_22 xt_0 rfl ?_
          refine z_iconst CX (v := 1) dX3_readCommand_28 (by decide) ?_
          refine z_iadd CX dX3_readCommand_29 ?_
          rw [show upd s9 2 103 1 + 1 = nI (y + 1) from by show s9 1 + 1 = _; rw [h1]; exact ix_add (a := y) (b := 1) rfl rfl, ← hy0]
          refine z_put CX dX3_readCommand_30 fg_X3_22 fp_X3_3 xt_0 (Nat.le_of_ble_eq_true rfl) rfl rfl ?_
          refine z_heap xt_f1 ?_
          refine z_iconst CX (v := 0) dX3_readCommand_33 (by decide) ?_
          refine z_istore_n CX 2 dX3_readCommand_34 rfl (by decide) ?_
          refine z_iload_n CX 2 dX3_readCommand_35 rfl rfl ?_
          refine z_aload_n CX 0 dX3_readCommand_36 rfl rfl ?_
          refine z_get CX dX3_readCommand_37 fg_X3_15 xt_0 rfl ?_
          refine z_alen CX 0 dX3_readCommand_40 xt_2 rfl rfl ?_
          refine z_icmp_ge CX 98 dX3_readCommand_41 (by decide) (fun q9 => absurd q9 (show ¬ (4 : Int32) ≤ 0 by decide)) (fun _ => ?_)
          refine z_iconst CX (v := 3) dX3_readCommand_44 (by decide) ?_
          refine z_iload_n CX 2 dX3_readCommand_45 rfl rfl ?_
          refine z_imul CX dX3_readCommand_46 ?_
          refine z_iconst CX (v := 2) dX3_readCommand_47 (by decide) ?_
          refine z_iadd CX dX3_readCommand_48 ?_
          refine z_aload_n CX 1 dX3_readCommand_49 rfl rfl ?_
          refine z_oalen CX dX3_readCommand_50 (by decide) rfl ?_
          refine z_icmp_ge CX 98 dX3_readCommand_51 (by decide) (fun q9 => absurd q9 (by decide)) (fun _ => ?_)
          refine z_aload_n CX 0 dX3_readCommand_54 rfl rfl ?_
          refine z_aload_n CX 1 dX3_readCommand_55 rfl rfl ?_
          refine z_iconst CX (v := 3) dX3_readCommand_56 (by decide) ?_
          refine z_iload_n CX 2 dX3_readCommand_57 rfl rfl ?_
          refine z_imul CX dX3_readCommand_58 ?_
          refine z_oald CX (v := 10) dX3_readCommand_59 (by decide) (by unfold vp_in; decide) (by decide) ?_
          refine z_aload_n CX 1 dX3_readCommand_60 rfl rfl ?_
          refine z_iconst CX (v := 3) dX3_readCommand_61 (by decide) ?_
          refine z_iload_n CX 2 dX3_readCommand_62 rfl rfl ?_
          refine z_imul CX dX3_readCommand_63 ?_
          refine z_iconst CX (v := 1) dX3_readCommand_64 (by decide) ?_
          refine z_iadd CX dX3_readCommand_65 ?_
          refine z_oald CX (v := 4) dX3_readCommand_66 (by decide) (by unfold vp_in; decide) (by decide) ?_
          refine z_aload_n CX 1 dX3_readCommand_67 rfl rfl ?_
          refine z_iconst CX (v := 3) dX3_readCommand_68 (by decide) ?_
          refine z_iload_n CX 2 dX3_readCommand_69 rfl rfl ?_
          refine z_imul CX dX3_readCommand_70 ?_
          refine z_iconst CX (v := 2) dX3_readCommand_71 (by decide) ?_
          refine z_iadd CX dX3_readCommand_72 ?_
          refine z_oald CX (v := 40) dX3_readCommand_73 (by decide) (by unfold vp_in; decide) (by decide) ?_
          refine z_callV1 CX dX3_readCommand_74 cv_X3_50 (x_rn2 (s9 := (upd (upd s9 2 103) 1 (nI y0))) (y := y0) (a := 4) (b := 40) (show (upd (upd s9 2 103) 1 (nI y0)) 0 = nI len from h0) hl pk_us (by omega) (by decide) (by decide)) xt_0 rfl rfl (Nat.le_of_ble_eq_true rfl) ⟨Nat.le_of_ble_eq_true rfl, Nat.le_of_ble_eq_true rfl⟩ ⟨Nat.le_refl _, Nat.le_refl _⟩ ?_
          rw [upd_up9, show (if (twS c9 len (nI 4) (nI 40) (y0, true)).2 = true then twV c9 len (nI 4) (nI 40) (y0, true) else -1) = twV c9 len (nI 4) (nI 40) (y0, true) from by rw [f1]; rfl, f1]
          refine z_istore_n CX 3 dX3_readCommand_77 rfl (by decide) ?_
          refine z_iload_n CX 3 dX3_readCommand_78 rfl rfl ?_
          refine z_iconst CX (v := (-1 : Int32)) dX3_readCommand_79 (by decide) ?_
          refine z_icmp_ne CX 85 dX3_readCommand_80 (by decide) (fun _ => ?_) (fun q9 => absurd q9 (twV_nn (by decide) (by decide) (by rw [f1])))
          refine z_aload_n CX 0 dX3_readCommand_85 rfl rfl ?_
          refine z_get CX dX3_readCommand_86 fg_X3_15 xt_0 rfl ?_
          refine z_iload_n CX 2 dX3_readCommand_89 rfl rfl ?_
          refine z_iload_n CX 3 dX3_readCommand_90 rfl rfl ?_
          refine z_is CX (j := 0) dX3_readCommand_91 xt_2 rfl (by omega) (by decide) ?_
          refine z_heap xt_d ?_
          refine z_iinc CX (v := 1) dX3_readCommand_92 rfl (by decide) (by decide) ?_
          refine z_goto CX 35 dX3_readCommand_95 (by decide) ?_
          refine z_iload_n CX 2 dX3_readCommand_35 rfl rfl ?_
          refine z_aload_n CX 0 dX3_readCommand_36 rfl rfl ?_
          refine z_get CX dX3_readCommand_37 fg_X3_15 xt_0 rfl ?_
          refine z_alen CX 0 dX3_readCommand_40 xt_2 rfl rfl ?_
          refine z_icmp_ge CX 98 dX3_readCommand_41 (by decide) (fun q9 => absurd q9 (show ¬ (4 : Int32) ≤ 1 by decide)) (fun _ => ?_)
          refine z_iconst CX (v := 3) dX3_readCommand_44 (by decide) ?_
          refine z_iload_n CX 2 dX3_readCommand_45 rfl rfl ?_
          refine z_imul CX dX3_readCommand_46 ?_
          refine z_iconst CX (v := 2) dX3_readCommand_47 (by decide) ?_
          refine z_iadd CX dX3_readCommand_48 ?_
          refine z_aload_n CX 1 dX3_readCommand_49 rfl rfl ?_
          refine z_oalen CX dX3_readCommand_50 (by decide) rfl ?_
          refine z_icmp_ge CX 98 dX3_readCommand_51 (by decide) (fun q9 => absurd q9 (by decide)) (fun _ => ?_)
          refine z_aload_n CX 0 dX3_readCommand_54 rfl rfl ?_
          refine z_aload_n CX 1 dX3_readCommand_55 rfl rfl ?_
          refine z_iconst CX (v := 3) dX3_readCommand_56 (by decide) ?_
          refine z_iload_n CX 2 dX3_readCommand_57 rfl rfl ?_
          refine z_imul CX dX3_readCommand_58 ?_
          refine z_oald CX (v := 1) dX3_readCommand_59 (by decide) (by unfold vp_in; decide) (by decide) ?_
          refine z_aload_n CX 1 dX3_readCommand_60 rfl rfl ?_
          refine z_iconst CX (v := 3) dX3_readCommand_61 (by decide) ?_
          refine z_iload_n CX 2 dX3_readCommand_62 rfl rfl ?_
          refine z_imul CX dX3_readCommand_63 ?_
          refine z_iconst CX (v := 1) dX3_readCommand_64 (by decide) ?_
          refine z_iadd CX dX3_readCommand_65 ?_
          refine z_oald CX (v := 0) dX3_readCommand_66 (by decide) (by unfold vp_in; decide) (by decide) ?_
          refine z_aload_n CX 1 dX3_readCommand_67 rfl rfl ?_
          refine z_iconst CX (v := 3) dX3_readCommand_68 (by decide) ?_
          refine z_iload_n CX 2 dX3_readCommand_69 rfl rfl ?_
          refine z_imul CX dX3_readCommand_70 ?_
          refine z_iconst CX (v := 2) dX3_readCommand_71 (by decide) ?_
          refine z_iadd CX dX3_readCommand_72 ?_
          refine z_oald CX (v := 5) dX3_readCommand_73 (by decide) (by unfold vp_in; decide) (by decide) ?_
          refine z_callV1 CX dX3_readCommand_74 cv_X3_50 (x_rn1 (s9 := (upd (upd s9 2 103) 1 (nI y1))) (y := y1) (a := 0) (b := 5) (show (upd (upd s9 2 103) 1 (nI y1)) 0 = nI len from h0) hl pk_us (by omega) (by decide) (by decide)) xt_0 rfl rfl (Nat.le_of_ble_eq_true rfl) ⟨Nat.le_of_ble_eq_true rfl, Nat.le_of_ble_eq_true rfl⟩ ⟨Nat.le_refl _, Nat.le_refl _⟩ ?_
          rw [upd_up9, show (if (dgS c9 len (nI 0) (nI 5) (y1, true)).2 = true then dgV c9 len (nI 0) (nI 5) (y1, true) else -1) = dgV c9 len (nI 0) (nI 5) (y1, true) from by rw [f2]; rfl, f2]
          refine z_istore_n CX 3 dX3_readCommand_77 rfl (by decide) ?_
          refine z_iload_n CX 3 dX3_readCommand_78 rfl rfl ?_
          refine z_iconst CX (v := (-1 : Int32)) dX3_readCommand_79 (by decide) ?_
          refine z_icmp_ne CX 85 dX3_readCommand_80 (by decide) (fun _ => ?_) (fun q9 => absurd q9 (dgV_nn (by decide) (by rw [f2])))
          refine z_aload_n CX 0 dX3_readCommand_85 rfl rfl ?_
          refine z_get CX dX3_readCommand_86 fg_X3_15 xt_0 rfl ?_
          refine z_iload_n CX 2 dX3_readCommand_89 rfl rfl ?_
          refine z_iload_n CX 3 dX3_readCommand_90 rfl rfl ?_
          refine z_is CX (j := 1) dX3_readCommand_91 xt_2 rfl (by omega) (by decide) ?_
          refine z_heap xt_d ?_
          refine z_iinc CX (v := 2) dX3_readCommand_92 rfl (by decide) (by decide) ?_
          refine z_goto CX 35 dX3_readCommand_95 (by decide) ?_
          refine z_iload_n CX 2 dX3_readCommand_35 rfl rfl ?_
          refine z_aload_n CX 0 dX3_readCommand_36 rfl rfl ?_
          refine z_get CX dX3_readCommand_37 fg_X3_15 xt_0 rfl ?_
          refine z_alen CX 0 dX3_readCommand_40 xt_2 rfl rfl ?_
          refine z_icmp_ge CX 98 dX3_readCommand_41 (by decide) (fun q9 => absurd q9 (show ¬ (4 : Int32) ≤ 2 by decide)) (fun _ => ?_)
          refine z_iconst CX (v := 3) dX3_readCommand_44 (by decide) ?_
          refine z_iload_n CX 2 dX3_readCommand_45 rfl rfl ?_
          refine z_imul CX dX3_readCommand_46 ?_
          refine z_iconst CX (v := 2) dX3_readCommand_47 (by decide) ?_
          refine z_iadd CX dX3_readCommand_48 ?_
          refine z_aload_n CX 1 dX3_readCommand_49 rfl rfl ?_
          refine z_oalen CX dX3_readCommand_50 (by decide) rfl ?_
          refine z_icmp_ge CX 98 dX3_readCommand_51 (by decide) (fun q9 => absurd q9 (by decide)) (fun _ => ?_)
          refine z_aload_n CX 0 dX3_readCommand_54 rfl rfl ?_
          refine z_aload_n CX 1 dX3_readCommand_55 rfl rfl ?_
          refine z_iconst CX (v := 3) dX3_readCommand_56 (by decide) ?_
          refine z_iload_n CX 2 dX3_readCommand_57 rfl rfl ?_
          refine z_imul CX dX3_readCommand_58 ?_
          refine z_oald CX (v := 1) dX3_readCommand_59 (by decide) (by unfold vp_in; decide) (by decide) ?_
          refine z_aload_n CX 1 dX3_readCommand_60 rfl rfl ?_
          refine z_iconst CX (v := 3) dX3_readCommand_61 (by decide) ?_
          refine z_iload_n CX 2 dX3_readCommand_62 rfl rfl ?_
          refine z_imul CX dX3_readCommand_63 ?_
          refine z_iconst CX (v := 1) dX3_readCommand_64 (by decide) ?_
          refine z_iadd CX dX3_readCommand_65 ?_
          refine z_oald CX (v := 0) dX3_readCommand_66 (by decide) (by unfold vp_in; decide) (by decide) ?_
          refine z_aload_n CX 1 dX3_readCommand_67 rfl rfl ?_
          refine z_iconst CX (v := 3) dX3_readCommand_68 (by decide) ?_
          refine z_iload_n CX 2 dX3_readCommand_69 rfl rfl ?_
          refine z_imul CX dX3_readCommand_70 ?_
          refine z_iconst CX (v := 2) dX3_readCommand_71 (by decide) ?_
          refine z_iadd CX dX3_readCommand_72 ?_
          refine z_oald CX (v := 5) dX3_readCommand_73 (by decide) (by unfold vp_in; decide) (by decide) ?_
          refine z_callV1 CX dX3_readCommand_74 cv_X3_50 (x_rn1 (s9 := (upd (upd s9 2 103) 1 (nI y2))) (y := y2) (a := 0) (b := 5) (show (upd (upd s9 2 103) 1 (nI y2)) 0 = nI len from h0) hl pk_us (by omega) (by decide) (by decide)) xt_0 rfl rfl (Nat.le_of_ble_eq_true rfl) ⟨Nat.le_of_ble_eq_true rfl, Nat.le_of_ble_eq_true rfl⟩ ⟨Nat.le_refl _, Nat.le_refl _⟩ ?_
          rw [upd_up9, show (if (dgS c9 len (nI 0) (nI 5) (y2, true)).2 = true then dgV c9 len (nI 0) (nI 5) (y2, true) else -1) = dgV c9 len (nI 0) (nI 5) (y2, true) from by rw [f3]; rfl, f3]
          refine z_istore_n CX 3 dX3_readCommand_77 rfl (by decide) ?_
          refine z_iload_n CX 3 dX3_readCommand_78 rfl rfl ?_
          refine z_iconst CX (v := (-1 : Int32)) dX3_readCommand_79 (by decide) ?_
          refine z_icmp_ne CX 85 dX3_readCommand_80 (by decide) (fun _ => ?_) (fun q9 => absurd q9 (dgV_nn (by decide) (by rw [f3])))
          refine z_aload_n CX 0 dX3_readCommand_85 rfl rfl ?_
          refine z_get CX dX3_readCommand_86 fg_X3_15 xt_0 rfl ?_
          refine z_iload_n CX 2 dX3_readCommand_89 rfl rfl ?_
          refine z_iload_n CX 3 dX3_readCommand_90 rfl rfl ?_
          refine z_is CX (j := 2) dX3_readCommand_91 xt_2 rfl (by omega) (by decide) ?_
          refine z_heap xt_d ?_
          refine z_iinc CX (v := 3) dX3_readCommand_92 rfl (by decide) (by decide) ?_
          refine z_goto CX 35 dX3_readCommand_95 (by decide) ?_
          refine z_iload_n CX 2 dX3_readCommand_35 rfl rfl ?_
          refine z_aload_n CX 0 dX3_readCommand_36 rfl rfl ?_
          refine z_get CX dX3_readCommand_37 fg_X3_15 xt_0 rfl ?_
          refine z_alen CX 0 dX3_readCommand_40 xt_2 rfl rfl ?_
          refine z_icmp_ge CX 98 dX3_readCommand_41 (by decide) (fun q9 => absurd q9 (show ¬ (4 : Int32) ≤ 3 by decide)) (fun _ => ?_)
          refine z_iconst CX (v := 3) dX3_readCommand_44 (by decide) ?_
          refine z_iload_n CX 2 dX3_readCommand_45 rfl rfl ?_
          refine z_imul CX dX3_readCommand_46 ?_
          refine z_iconst CX (v := 2) dX3_readCommand_47 (by decide) ?_
          refine z_iadd CX dX3_readCommand_48 ?_
          refine z_aload_n CX 1 dX3_readCommand_49 rfl rfl ?_
          refine z_oalen CX dX3_readCommand_50 (by decide) rfl ?_
          refine z_icmp_ge CX 98 dX3_readCommand_51 (by decide) (fun q9 => absurd q9 (by decide)) (fun _ => ?_)
          refine z_aload_n CX 0 dX3_readCommand_54 rfl rfl ?_
          refine z_aload_n CX 1 dX3_readCommand_55 rfl rfl ?_
          refine z_iconst CX (v := 3) dX3_readCommand_56 (by decide) ?_
          refine z_iload_n CX 2 dX3_readCommand_57 rfl rfl ?_
          refine z_imul CX dX3_readCommand_58 ?_
          refine z_oald CX (v := 10) dX3_readCommand_59 (by decide) (by unfold vp_in; decide) (by decide) ?_
          refine z_aload_n CX 1 dX3_readCommand_60 rfl rfl ?_
          refine z_iconst CX (v := 3) dX3_readCommand_61 (by decide) ?_
          refine z_iload_n CX 2 dX3_readCommand_62 rfl rfl ?_
          refine z_imul CX dX3_readCommand_63 ?_
          refine z_iconst CX (v := 1) dX3_readCommand_64 (by decide) ?_
          refine z_iadd CX dX3_readCommand_65 ?_
          refine z_oald CX (v := 0) dX3_readCommand_66 (by decide) (by unfold vp_in; decide) (by decide) ?_
          refine z_aload_n CX 1 dX3_readCommand_67 rfl rfl ?_
          refine z_iconst CX (v := 3) dX3_readCommand_68 (by decide) ?_
          refine z_iload_n CX 2 dX3_readCommand_69 rfl rfl ?_
          refine z_imul CX dX3_readCommand_70 ?_
          refine z_iconst CX (v := 2) dX3_readCommand_71 (by decide) ?_
          refine z_iadd CX dX3_readCommand_72 ?_
          refine z_oald CX (v := 39) dX3_readCommand_73 (by decide) (by unfold vp_in; decide) (by decide) ?_
          refine z_callV1 CX dX3_readCommand_74 cv_X3_50 (x_rn2 (s9 := (upd (upd s9 2 103) 1 (nI y3))) (y := y3) (a := 0) (b := 39) (show (upd (upd s9 2 103) 1 (nI y3)) 0 = nI len from h0) hl pk_us (by omega) (by decide) (by decide)) xt_0 rfl rfl (Nat.le_of_ble_eq_true rfl) ⟨Nat.le_of_ble_eq_true rfl, Nat.le_of_ble_eq_true rfl⟩ ⟨Nat.le_refl _, Nat.le_refl _⟩ ?_
          rw [upd_up9, show (if (twS c9 len (nI 0) (nI 39) (y3, true)).2 = true then twV c9 len (nI 0) (nI 39) (y3, true) else -1) = twV c9 len (nI 0) (nI 39) (y3, true) from by rw [f4]; rfl, f4]
          refine z_istore_n CX 3 dX3_readCommand_77 rfl (by decide) ?_
          refine z_iload_n CX 3 dX3_readCommand_78 rfl rfl ?_
          refine z_iconst CX (v := (-1 : Int32)) dX3_readCommand_79 (by decide) ?_
          refine z_icmp_ne CX 85 dX3_readCommand_80 (by decide) (fun _ => ?_) (fun q9 => absurd q9 (twV_nn (by decide) (by decide) (by rw [f4])))
          refine z_aload_n CX 0 dX3_readCommand_85 rfl rfl ?_
          refine z_get CX dX3_readCommand_86 fg_X3_15 xt_0 rfl ?_
          refine z_iload_n CX 2 dX3_readCommand_89 rfl rfl ?_
          refine z_iload_n CX 3 dX3_readCommand_90 rfl rfl ?_
          refine z_is CX (j := 3) dX3_readCommand_91 xt_2 rfl (by omega) (by decide) ?_
          refine z_heap xt_d ?_
          refine z_iinc CX (v := 4) dX3_readCommand_92 rfl (by decide) (by decide) ?_
          refine z_goto CX 35 dX3_readCommand_95 (by decide) ?_
          refine z_iload_n CX 2 dX3_readCommand_35 rfl rfl ?_
          refine z_aload_n CX 0 dX3_readCommand_36 rfl rfl ?_
          refine z_get CX dX3_readCommand_37 fg_X3_15 xt_0 rfl ?_
          refine z_alen CX 0 dX3_readCommand_40 xt_2 rfl rfl ?_
          refine z_icmp_ge CX 98 dX3_readCommand_41 (by decide) (fun _ => ?_) (fun q9 => absurd (show (4 : Int32) ≤ 4 by decide) q9)
          refine z_iconst CX (v := 1) dX3_readCommand_98 (by decide) ?_
          exact z_zret CX dX3_readCommand_99 rfl (by first | rfl | exact bI_nar _) rfl rfl (Or.inl rfl)
        · obtain ⟨y4, e4⟩ : ∃ y4, twS c9 len 0 39 (y3, true) = (y4, false) := ⟨(twS c9 len 0 39 (y3, true)).1, Prod.ext rfl (Bool.eq_false_iff.mpr g4)⟩
          have f4 : twS c9 len (nI 0) (nI 39) (y3, true) = (y4, false) := e4
          have ee : (pzG c9 len (y + 1)).1 = (y4, false) := by subst hy0; unfold pzG; simp only [e1, e2, e3, e4]
          rw [ee]
          refine ⟨(upd (upd (upd d9 0 (twV c9 len (nI 4) (nI 40) (y0, true))) 1 (dgV c9 len (nI 0) (nI 5) (y1, true))) 2 (dgV c9 len (nI 0) (nI 5) (y2, true))), @fun l w hs n k s9 h0 h1 => ?_, fun q => absurd q Bool.false_ne_true⟩
          refine Cn.of (d := mX3_readCommand) (by decide +kernel) (Nat.le_of_ble_eq_true rfl) ?_
          intro p e R s m args below meth c CX
          replace CX : Ctx p s m args meth c R w RX3 "readCommand" cX3_readCommand 4 (some .boolean) 2 46 0 0 := CX
          show ZW p l e R s m args below meth c w 4 _ _ 0 0 (MQ below (Qn w _ _ _) args s 0 0 (wA w)) 0 [(0, .ref (wB w + k))] []
          refine z_aload_n CX 0 dX3_readCommand_0 rfl rfl ?_
          refine z_aload_n CX 0 dX3_readCommand_1 rfl rfl ?_
          refine z_callV1 CX dX3_readCommand_2 cv_X3_25 (x_hand h0 hl h1 (by omega)) xt_0 rfl rfl (Nat.le_of_ble_eq_true rfl) ⟨Nat.le_of_ble_eq_true rfl, Nat.le_of_ble_eq_true rfl⟩ ⟨Nat.le_refl _, Nat.le_refl _⟩ ?_
          rw [hz]
          refine z_put CX dX3_readCommand_5 fg_X3_33 fp_X3_4 xt_0 (Nat.le_of_ble_eq_true rfl) rfl rfl ?_
          refine z_heap xt_f2 ?_
          refine z_aload_n CX 0 dX3_readCommand_8 rfl rfl ?_
          refine z_get CX dX3_readCommand_9 fg_X3_33 xt_0 rfl ?_
          refine z_callS1 CX dX3_readCommand_12 cs_X3_46 x_nb_103 rfl rfl (Nat.le_of_ble_eq_true rfl) ⟨Nat.le_of_ble_eq_true rfl, Nat.le_of_ble_eq_true rfl⟩ ⟨Nat.le_refl _, Nat.le_refl _⟩ ?_
          refine z_astore_n CX 1 dX3_readCommand_15 rfl (by decide) ?_
          refine z_aload_n CX 1 dX3_readCommand_16 rfl rfl ?_
          refine z_oalen CX dX3_readCommand_17 (by decide) rfl ?_
          refine z_if_ne CX 23 dX3_readCommand_18 (by decide) (fun _ => ?_) (fun q9 => absurd q9 (by decide))
          refine z_aload_n CX 0 dX3_readCommand_23 rfl rfl ?_
          refine z_dup CX dX3_readCommand_24 rfl ?_
          refine z_get CX dX3_readCommand_25 fg_X3_22 xt_0 rfl ?_
          refine z_iconst CX (v := 1) dX3_readCommand_28 (by decide) ?_
          refine z_iadd CX dX3_readCommand_29 ?_
          rw [show upd s9 2 103 1 + 1 = nI (y + 1) from by show s9 1 + 1 = _; rw [h1]; exact ix_add (a := y) (b := 1) rfl rfl, ← hy0]
          refine z_put CX dX3_readCommand_30 fg_X3_22 fp_X3_3 xt_0 (Nat.le_of_ble_eq_true rfl) rfl rfl ?_
          refine z_heap xt_f1 ?_
          refine z_iconst CX (v := 0) dX3_readCommand_33 (by decide) ?_
          refine z_istore_n CX 2 dX3_readCommand_34 rfl (by decide) ?_
          refine z_iload_n CX 2 dX3_readCommand_35 rfl rfl ?_
          refine z_aload_n CX 0 dX3_readCommand_36 rfl rfl ?_
          refine z_get CX dX3_readCommand_37 fg_X3_15 xt_0 rfl ?_
          refine z_alen CX 0 dX3_readCommand_40 xt_2 rfl rfl ?_
          refine z_icmp_ge CX 98 dX3_readCommand_41 (by decide) (fun q9 => absurd q9 (show ¬ (4 : Int32) ≤ 0 by decide)) (fun _ => ?_)
          refine z_iconst CX (v := 3) dX3_readCommand_44 (by decide) ?_
          refine z_iload_n CX 2 dX3_readCommand_45 rfl rfl ?_
          refine z_imul CX dX3_readCommand_46 ?_
          refine z_iconst CX (v := 2) dX3_readCommand_47 (by decide) ?_
          refine z_iadd CX dX3_readCommand_48 ?_
          refine z_aload_n CX 1 dX3_readCommand_49 rfl rfl ?_
          refine z_oalen CX dX3_readCommand_50 (by decide) rfl ?_
          refine z_icmp_ge CX 98 dX3_readCommand_51 (by decide) (fun q9 => absurd q9 (by decide)) (fun _ => ?_)
          refine z_aload_n CX 0 dX3_readCommand_54 rfl rfl ?_
          refine z_aload_n CX 1 dX3_readCommand_55 rfl rfl ?_
          refine z_iconst CX (v := 3) dX3_readCommand_56 (by decide) ?_
          refine z_iload_n CX 2 dX3_readCommand_57 rfl rfl ?_
          refine z_imul CX dX3_readCommand_58 ?_
          refine z_oald CX (v := 10) dX3_readCommand_59 (by decide) (by unfold vp_in; decide) (by decide) ?_
          refine z_aload_n CX 1 dX3_readCommand_60 rfl rfl ?_
          refine z_iconst CX (v := 3) dX3_readCommand_61 (by decide) ?_
          refine z_iload_n CX 2 dX3_readCommand_62 rfl rfl ?_
          refine z_imul CX dX3_readCommand_63 ?_
          refine z_iconst CX (v := 1) dX3_readCommand_64 (by decide) ?_
          refine z_iadd CX dX3_readCommand_65 ?_
          refine z_oald CX (v := 4) dX3_readCommand_66 (by decide) (by unfold vp_in; decide) (by decide) ?_
          refine z_aload_n CX 1 dX3_readCommand_67 rfl rfl ?_
          refine z_iconst CX (v := 3) dX3_readCommand_68 (by decide) ?_
          refine z_iload_n CX 2 dX3_readCommand_69 rfl rfl ?_
          refine z_imul CX dX3_readCommand_70 ?_
          refine z_iconst CX (v := 2) dX3_readCommand_71 (by decide) ?_
          refine z_iadd CX dX3_readCommand_72 ?_
          refine z_oald CX (v := 40) dX3_readCommand_73 (by decide) (by unfold vp_in; decide) (by decide) ?_
          refine z_callV1 CX dX3_readCommand_74 cv_X3_50 (x_rn2 (s9 := (upd (upd s9 2 103) 1 (nI y0))) (y := y0) (a := 4) (b := 40) (show (upd (upd s9 2 103) 1 (nI y0)) 0 = nI len from h0) hl pk_us (by omega) (by decide) (by decide)) xt_0 rfl rfl (Nat.le_of_ble_eq_true rfl) ⟨Nat.le_of_ble_eq_true rfl, Nat.le_of_ble_eq_true rfl⟩ ⟨Nat.le_refl _, Nat.le_refl _⟩ ?_
          rw [upd_up9, show (if (twS c9 len (nI 4) (nI 40) (y0, true)).2 = true then twV c9 len (nI 4) (nI 40) (y0, true) else -1) = twV c9 len (nI 4) (nI 40) (y0, true) from by rw [f1]; rfl, f1]
          refine z_istore_n CX 3 dX3_readCommand_77 rfl (by decide) ?_
          refine z_iload_n CX 3 dX3_readCommand_78 rfl rfl ?_
          refine z_iconst CX (v := (-1 : Int32)) dX3_readCommand_79 (by decide) ?_
          refine z_icmp_ne CX 85 dX3_readCommand_80 (by decide) (fun _ => ?_) (fun q9 => absurd q9 (twV_nn (by decide) (by decide) (by rw [f1])))
          refine z_aload_n CX 0 dX3_readCommand_85 rfl rfl ?_
          refine z_get CX dX3_readCommand_86 fg_X3_15 xt_0 rfl ?_
          refine z_iload_n CX 2 dX3_readCommand_89 rfl rfl ?_
          refine z_iload_n CX 3 dX3_readCommand_90 rfl rfl ?_
          refine z_is CX (j := 0) dX3_readCommand_91 xt_2 rfl (by omega) (by decide) ?_
          refine z_heap xt_d ?_
          refine z_iinc CX (v := 1) dX3_readCommand_92 rfl (by decide) (by decide) ?_
          refine z_goto CX 35 dX3_readCommand_95 (by decide) ?_
          refine z_iload_n CX 2 dX3_readCommand_35 rfl rfl ?_
          refine z_aload_n CX 0 dX3_readCommand_36 rfl rfl ?_
          refine z_get CX dX3_readCommand_37 fg_X3_15 xt_0 rfl ?_
          refine z_alen CX 0 dX3_readCommand_40 xt_2 rfl rfl ?_
          refine z_icmp_ge CX 98 dX3_readCommand_41 (by decide) (fun q9 => absurd q9 (show ¬ (4 : Int32) ≤ 1 by decide)) (fun _ => ?_)
          refine z_iconst CX (v := 3) dX3_readCommand_44 (by decide) ?_
          refine z_iload_n CX 2 dX3_readCommand_45 rfl rfl ?_
          refine z_imul CX dX3_readCommand_46 ?_
          refine z_iconst CX (v := 2) dX3_readCommand_47 (by decide) ?_
          refine z_iadd CX dX3_readCommand_48 ?_
          refine z_aload_n CX 1 dX3_readCommand_49 rfl rfl ?_
          refine z_oalen CX dX3_readCommand_50 (by decide) rfl ?_
          refine z_icmp_ge CX 98 dX3_readCommand_51 (by decide) (fun q9 => absurd q9 (by decide)) (fun _ => ?_)
          refine z_aload_n CX 0 dX3_readCommand_54 rfl rfl ?_
          refine z_aload_n CX 1 dX3_readCommand_55 rfl rfl ?_
          refine z_iconst CX (v := 3) dX3_readCommand_56 (by decide) ?_
          refine z_iload_n CX 2 dX3_readCommand_57 rfl rfl ?_
          refine z_imul CX dX3_readCommand_58 ?_
          refine z_oald CX (v := 1) dX3_readCommand_59 (by decide) (by unfold vp_in; decide) (by decide) ?_
          refine z_aload_n CX 1 dX3_readCommand_60 rfl rfl ?_
          refine z_iconst CX (v := 3) dX3_readCommand_61 (by decide) ?_
          refine z_iload_n CX 2 dX3_readCommand_62 rfl rfl ?_
          refine z_imul CX dX3_readCommand_63 ?_
          refine z_iconst CX (v := 1) dX3_readCommand_64 (by decide) ?_
          refine z_iadd CX dX3_readCommand_65 ?_
          refine z_oald CX (v := 0) dX3_readCommand_66 (by decide) (by unfold vp_in; decide) (by decide) ?_
          refine z_aload_n CX 1 dX3_readCommand_67 rfl rfl ?_
          refine z_iconst CX (v := 3) dX3_readCommand_68 (by decide) ?_
          refine z_iload_n CX 2 dX3_readCommand_69 rfl rfl ?_
          refine z_imul CX dX3_readCommand_70 ?_
          refine z_iconst CX (v := 2) dX3_readCommand_71 (by decide) ?_
          refine z_iadd CX dX3_readCommand_72 ?_
          refine z_oald CX (v := 5) dX3_readCommand_73 (by decide) (by unfold vp_in; decide) (by decide) ?_
          refine z_callV1 CX dX3_readCommand_74 cv_X3_50 (x_rn1 (s9 := (upd (upd s9 2 103) 1 (nI y1))) (y := y1) (a := 0) (b := 5) (show (upd (upd s9 2 103) 1 (nI y1)) 0 = nI len from h0) hl pk_us (by omega) (by decide) (by decide)) xt_0 rfl rfl (Nat.le_of_ble_eq_true rfl) ⟨Nat.le_of_ble_eq_true rfl, Nat.le_of_ble_eq_true rfl⟩ ⟨Nat.le_refl _, Nat.le_refl _⟩ ?_
          rw [upd_up9, show (if (dgS c9 len (nI 0) (nI 5) (y1, true)).2 = true then dgV c9 len (nI 0) (nI 5) (y1, true) else -1) = dgV c9 len (nI 0) (nI 5) (y1, true) from by rw [f2]; rfl, f2]
          refine z_istore_n CX 3 dX3_readCommand_77 rfl (by decide) ?_
          refine z_iload_n CX 3 dX3_readCommand_78 rfl rfl ?_
          refine z_iconst CX (v := (-1 : Int32)) dX3_readCommand_79 (by decide) ?_
          refine z_icmp_ne CX 85 dX3_readCommand_80 (by decide) (fun _ => ?_) (fun q9 => absurd q9 (dgV_nn (by decide) (by rw [f2])))
          refine z_aload_n CX 0 dX3_readCommand_85 rfl rfl ?_
          refine z_get CX dX3_readCommand_86 fg_X3_15 xt_0 rfl ?_
          refine z_iload_n CX 2 dX3_readCommand_89 rfl rfl ?_
          refine z_iload_n CX 3 dX3_readCommand_90 rfl rfl ?_
          refine z_is CX (j := 1) dX3_readCommand_91 xt_2 rfl (by omega) (by decide) ?_
          refine z_heap xt_d ?_
          refine z_iinc CX (v := 2) dX3_readCommand_92 rfl (by decide) (by decide) ?_
          refine z_goto CX 35 dX3_readCommand_95 (by decide) ?_
          refine z_iload_n CX 2 dX3_readCommand_35 rfl rfl ?_
          refine z_aload_n CX 0 dX3_readCommand_36 rfl rfl ?_
          refine z_get CX dX3_readCommand_37 fg_X3_15 xt_0 rfl ?_
          refine z_alen CX 0 dX3_readCommand_40 xt_2 rfl rfl ?_
          refine z_icmp_ge CX 98 dX3_readCommand_41 (by decide) (fun q9 => absurd q9 (show ¬ (4 : Int32) ≤ 2 by decide)) (fun _ => ?_)
          refine z_iconst CX (v := 3) dX3_readCommand_44 (by decide) ?_
          refine z_iload_n CX 2 dX3_readCommand_45 rfl rfl ?_
          refine z_imul CX dX3_readCommand_46 ?_
          refine z_iconst CX (v := 2) dX3_readCommand_47 (by decide) ?_
          refine z_iadd CX dX3_readCommand_48 ?_
          refine z_aload_n CX 1 dX3_readCommand_49 rfl rfl ?_
          refine z_oalen CX dX3_readCommand_50 (by decide) rfl ?_
          refine z_icmp_ge CX 98 dX3_readCommand_51 (by decide) (fun q9 => absurd q9 (by decide)) (fun _ => ?_)
          refine z_aload_n CX 0 dX3_readCommand_54 rfl rfl ?_
          refine z_aload_n CX 1 dX3_readCommand_55 rfl rfl ?_
          refine z_iconst CX (v := 3) dX3_readCommand_56 (by decide) ?_
          refine z_iload_n CX 2 dX3_readCommand_57 rfl rfl ?_
          refine z_imul CX dX3_readCommand_58 ?_
          refine z_oald CX (v := 1) dX3_readCommand_59 (by decide) (by unfold vp_in; decide) (by decide) ?_
          refine z_aload_n CX 1 dX3_readCommand_60 rfl rfl ?_
          refine z_iconst CX (v := 3) dX3_readCommand_61 (by decide) ?_
          refine z_iload_n CX 2 dX3_readCommand_62 rfl rfl ?_
          refine z_imul CX dX3_readCommand_63 ?_
          refine z_iconst CX (v := 1) dX3_readCommand_64 (by decide) ?_
          refine z_iadd CX dX3_readCommand_65 ?_
          refine z_oald CX (v := 0) dX3_readCommand_66 (by decide) (by unfold vp_in; decide) (by decide) ?_
          refine z_aload_n CX 1 dX3_readCommand_67 rfl rfl ?_
          refine z_iconst CX (v := 3) dX3_readCommand_68 (by decide) ?_
          refine z_iload_n CX 2 dX3_readCommand_69 rfl rfl ?_
          refine z_imul CX dX3_readCommand_70 ?_
          refine z_iconst CX (v := 2) dX3_readCommand_71 (by decide) ?_
          refine z_iadd CX dX3_readCommand_72 ?_
          refine z_oald CX (v := 5) dX3_readCommand_73 (by decide) (by unfold vp_in; decide) (by decide) ?_
          refine z_callV1 CX dX3_readCommand_74 cv_X3_50 (x_rn1 (s9 := (upd (upd s9 2 103) 1 (nI y2))) (y := y2) (a := 0) (b := 5) (show (upd (upd s9 2 103) 1 (nI y2)) 0 = nI len from h0) hl pk_us (by omega) (by decide) (by decide)) xt_0 rfl rfl (Nat.le_of_ble_eq_true rfl) ⟨Nat.le_of_ble_eq_true rfl, Nat.le_of_ble_eq_true rfl⟩ ⟨Nat.le_refl _, Nat.le_refl _⟩ ?_
          rw [upd_up9, show (if (dgS c9 len (nI 0) (nI 5) (y2, true)).2 = true then dgV c9 len (nI 0) (nI 5) (y2, true) else -1) = dgV c9 len (nI 0) (nI 5) (y2, true) from by rw [f3]; rfl, f3]
          refine z_istore_n CX 3 dX3_readCommand_77 rfl (by decide) ?_
          refine z_iload_n CX 3 dX3_readCommand_78 rfl rfl ?_
          refine z_iconst CX (v := (-1 : Int32)) dX3_readCommand_79 (by decide) ?_
          refine z_icmp_ne CX 85 dX3_readCommand_80 (by decide) (fun _ => ?_) (fun q9 => absurd q9 (dgV_nn (by decide) (by rw [f3])))
          refine z_aload_n CX 0 dX3_readCommand_85 rfl rfl ?_
          refine z_get CX dX3_readCommand_86 fg_X3_15 xt_0 rfl ?_
          refine z_iload_n CX 2 dX3_readCommand_89 rfl rfl ?_
          refine z_iload_n CX 3 dX3_readCommand_90 rfl rfl ?_
          refine z_is CX (j := 2) dX3_readCommand_91 xt_2 rfl (by omega) (by decide) ?_
          refine z_heap xt_d ?_
          refine z_iinc CX (v := 3) dX3_readCommand_92 rfl (by decide) (by decide) ?_
          refine z_goto CX 35 dX3_readCommand_95 (by decide) ?_
          refine z_iload_n CX 2 dX3_readCommand_35 rfl rfl ?_
          refine z_aload_n CX 0 dX3_readCommand_36 rfl rfl ?_
          refine z_get CX dX3_readCommand_37 fg_X3_15 xt_0 rfl ?_
          refine z_alen CX 0 dX3_readCommand_40 xt_2 rfl rfl ?_
          refine z_icmp_ge CX 98 dX3_readCommand_41 (by decide) (fun q9 => absurd q9 (show ¬ (4 : Int32) ≤ 3 by decide)) (fun _ => ?_)
          refine z_iconst CX (v := 3) dX3_readCommand_44 (by decide) ?_
          refine z_iload_n CX 2 dX3_readCommand_45 rfl rfl ?_
          refine z_imul CX dX3_readCommand_46 ?_
          refine z_iconst CX (v := 2) dX3_readCommand_47 (by decide) ?_
          refine z_iadd CX dX3_readCommand_48 ?_
          refine z_aload_n CX 1 dX3_readCommand_49 rfl rfl ?_
          refine z_oalen CX dX3_readCommand_50 (by decide) rfl ?_
          refine z_icmp_ge CX 98 dX3_readCommand_51 (by decide) (fun q9 => absurd q9 (by decide)) (fun _ => ?_)
          refine z_aload_n CX 0 dX3_readCommand_54 rfl rfl ?_
          refine z_aload_n CX 1 dX3_readCommand_55 rfl rfl ?_
          refine z_iconst CX (v := 3) dX3_readCommand_56 (by decide) ?_
          refine z_iload_n CX 2 dX3_readCommand_57 rfl rfl ?_
          refine z_imul CX dX3_readCommand_58 ?_
          refine z_oald CX (v := 10) dX3_readCommand_59 (by decide) (by unfold vp_in; decide) (by decide) ?_
          refine z_aload_n CX 1 dX3_readCommand_60 rfl rfl ?_
          refine z_iconst CX (v := 3) dX3_readCommand_61 (by decide) ?_
          refine z_iload_n CX 2 dX3_readCommand_62 rfl rfl ?_
          refine z_imul CX dX3_readCommand_63 ?_
          refine z_iconst CX (v := 1) dX3_readCommand_64 (by decide) ?_
          refine z_iadd CX dX3_readCommand_65 ?_
          refine z_oald CX (v := 0) dX3_readCommand_66 (by decide) (by unfold vp_in; decide) (by decide) ?_
          refine z_aload_n CX 1 dX3_readCommand_67 rfl rfl ?_
          refine z_iconst CX (v := 3) dX3_readCommand_68 (by decide) ?_
          refine z_iload_n CX 2 dX3_readCommand_69 rfl rfl ?_
          refine z_imul CX dX3_readCommand_70 ?_
          refine z_iconst CX (v := 2) dX3_readCommand_71 (by decide) ?_
          refine z_iadd CX dX3_readCommand_72 ?_
          refine z_oald CX (v := 39) dX3_readCommand_73 (by decide) (by unfold vp_in; decide) (by decide) ?_
          refine z_callV1 CX dX3_readCommand_74 cv_X3_50 (x_rn2 (s9 := (upd (upd s9 2 103) 1 (nI y3))) (y := y3) (a := 0) (b := 39) (show (upd (upd s9 2 103) 1 (nI y3)) 0 = nI len from h0) hl pk_us (by omega) (by decide) (by decide)) xt_0 rfl rfl (Nat.le_of_ble_eq_true rfl) ⟨Nat.le_of_ble_eq_true rfl, Nat.le_of_ble_eq_true rfl⟩ ⟨Nat.le_refl _, Nat.le_refl _⟩ ?_
          rw [upd_up9, show (if (twS c9 len (nI 0) (nI 39) (y3, true)).2 = true then twV c9 len (nI 0) (nI 39) (y3, true) else -1) = -1 from by rw [f4]; rfl, f4]
          refine z_istore_n CX 3 dX3_readCommand_77 rfl (by decide) ?_
          refine z_iload_n CX 3 dX3_readCommand_78 rfl rfl ?_
          refine z_iconst CX (v := (-1 : Int32)) dX3_readCommand_79 (by decide) ?_
          refine z_icmp_ne CX 85 dX3_readCommand_80 (by decide) (fun q9 => absurd q9 (fun z => z rfl)) (fun _ => ?_)
          refine z_iconst CX (v := 0) dX3_readCommand_83 (by decide) ?_
          exact z_zret CX dX3_readCommand_84 rfl (by first | rfl | exact bI_nar _) rfl rfl (Or.inl rfl)
      · obtain ⟨y3, e3⟩ : ∃ y3, dgS c9 len 0 5 (y2, true) = (y3, false) := ⟨(dgS c9 len 0 5 (y2, true)).1, Prod.ext rfl (Bool.eq_false_iff.mpr g3)⟩
        have f3 : dgS c9 len (nI 0) (nI 5) (y2, true) = (y3, false) := e3
        have ee : (pzG c9 len (y + 1)).1 = (y3, false) := by subst hy0; unfold pzG; simp only [e1, e2, e3, twS_w]
        rw [ee]
        refine ⟨(upd (upd d9 0 (twV c9 len (nI 4) (nI 40) (y0, true))) 1 (dgV c9 len (nI 0) (nI 5) (y1, true))), @fun l w hs n k s9 h0 h1 => ?_, fun q => absurd q Bool.false_ne_true⟩
        refine Cn.of (d := mX3_readCommand) (by decide +kernel) (Nat.le_of_ble_eq_true rfl) ?_
        intro p e R s m args below meth c CX
        replace CX : Ctx p s m args meth c R w RX3 "readCommand" cX3_readCommand 4 (some .boolean) 2 46 0 0 := CX
        show ZW p l e R s m args below meth c w 4 _ _ 0 0 (MQ below (Qn w _ _ _) args s 0 0 (wA w)) 0 [(0, .ref (wB w + k))] []
        refine z_aload_n CX 0 dX3_readCommand_0 rfl rfl ?_
        refine z_aload_n CX 0 dX3_readCommand_1 rfl rfl ?_
        refine z_callV1 CX dX3_readCommand_2 cv_X3_25 (x_hand h0 hl h1 (by omega)) xt_0 rfl rfl (Nat.le_of_ble_eq_true rfl) ⟨Nat.le_of_ble_eq_true rfl, Nat.le_of_ble_eq_true rfl⟩ ⟨Nat.le_refl _, Nat.le_refl _⟩ ?_
        rw [hz]
        refine z_put CX dX3_readCommand_5 fg_X3_33 fp_X3_4 xt_0 (Nat.le_of_ble_eq_true rfl) rfl rfl ?_
        refine z_heap xt_f2 ?_
        refine z_aload_n CX 0 dX3_readCommand_8 rfl rfl ?_
        refine z_get CX dX3_readCommand_9 fg_X3_33 xt_0 rfl ?_
        refine z_callS1 CX dX3_readCommand_12 cs_X3_46 x_nb_103 rfl rfl (Nat.le_of_ble_eq_true rfl) ⟨Nat.le_of_ble_eq_true rfl, Nat.le_of_ble_eq_true rfl⟩ ⟨Nat.le_refl _, Nat.le_refl _⟩ ?_
        refine z_astore_n CX 1 dX3_readCommand_15 rfl (by decide) ?_
        refine z_aload_n CX 1 dX3_readCommand_16 rfl rfl ?_
        refine z_oalen CX dX3_readCommand_17 (by decide) rfl ?_
        refine z_if_ne CX 23 dX3_readCommand_18 (by decide) (fun _ => ?_) (fun q9 => absurd q9 (by decide))
        refine z_aload_n CX 0 dX3_readCommand_23 rfl rfl ?_
        refine z_dup CX dX3_readCommand_24 rfl ?_
        refine z_get CX dX3_readCommand_25 fg_X3_22 xt_0 rfl ?_
        refine z_iconst CX (v := 1) dX3_readCommand_28 (by decide) ?_
        refine z_iadd CX dX3_readCommand_29 ?_
        rw [show upd s9 2 103 1 + 1 = nI (y + 1) from by show s9 1 + 1 = _; rw [h1]; exact ix_add (a := y) (b := 1) rfl rfl, ← hy0]
        refine z_put CX dX3_readCommand_30 fg_X3_22 fp_X3_3 xt_0 (Nat.le_of_ble_eq_true rfl) rfl rfl ?_
        refine z_heap xt_f1 ?_
        refine z_iconst CX (v := 0) dX3_readCommand_33 (by decide) ?_
        refine z_istore_n CX 2 dX3_readCommand_34 rfl (by decide) ?_
        refine z_iload_n CX 2 dX3_readCommand_35 rfl rfl ?_
        refine z_aload_n CX 0 dX3_readCommand_36 rfl rfl ?_
        refine z_get CX dX3_readCommand_37 fg_X3_15 xt_0 rfl ?_
        refine z_alen CX 0 dX3_readCommand_40 xt_2 rfl rfl ?_
        refine z_icmp_ge CX 98 dX3_readCommand_41 (by decide) (fun q9 => absurd q9 (show ¬ (4 : Int32) ≤ 0 by decide)) (fun _ => ?_)
        refine z_iconst CX (v := 3) dX3_readCommand_44 (by decide) ?_
        refine z_iload_n CX 2 dX3_readCommand_45 rfl rfl ?_
        refine z_imul CX dX3_readCommand_46 ?_
        refine z_iconst CX (v := 2) dX3_readCommand_47 (by decide) ?_
        refine z_iadd CX dX3_readCommand_48 ?_
        refine z_aload_n CX 1 dX3_readCommand_49 rfl rfl ?_
        refine z_oalen CX dX3_readCommand_50 (by decide) rfl ?_
        refine z_icmp_ge CX 98 dX3_readCommand_51 (by decide) (fun q9 => absurd q9 (by decide)) (fun _ => ?_)
        refine z_aload_n CX 0 dX3_readCommand_54 rfl rfl ?_
        refine z_aload_n CX 1 dX3_readCommand_55 rfl rfl ?_
        refine z_iconst CX (v := 3) dX3_readCommand_56 (by decide) ?_
        refine z_iload_n CX 2 dX3_readCommand_57 rfl rfl ?_
        refine z_imul CX dX3_readCommand_58 ?_
        refine z_oald CX (v := 10) dX3_readCommand_59 (by decide) (by unfold vp_in; decide) (by decide) ?_
        refine z_aload_n CX 1 dX3_readCommand_60 rfl rfl ?_
        refine z_iconst CX (v := 3) dX3_readCommand_61 (by decide) ?_
        refine z_iload_n CX 2 dX3_readCommand_62 rfl rfl ?_
        refine z_imul CX dX3_readCommand_63 ?_
        refine z_iconst CX (v := 1) dX3_readCommand_64 (by decide) ?_
        refine z_iadd CX dX3_readCommand_65 ?_
        refine z_oald CX (v := 4) dX3_readCommand_66 (by decide) (by unfold vp_in; decide) (by decide) ?_
        refine z_aload_n CX 1 dX3_readCommand_67 rfl rfl ?_
        refine z_iconst CX (v := 3) dX3_readCommand_68 (by decide) ?_
        refine z_iload_n CX 2 dX3_readCommand_69 rfl rfl ?_
        refine z_imul CX dX3_readCommand_70 ?_
        refine z_iconst CX (v := 2) dX3_readCommand_71 (by decide) ?_
        refine z_iadd CX dX3_readCommand_72 ?_
        refine z_oald CX (v := 40) dX3_readCommand_73 (by decide) (by unfold vp_in; decide) (by decide) ?_
        refine z_callV1 CX dX3_readCommand_74 cv_X3_50 (x_rn2 (s9 := (upd (upd s9 2 103) 1 (nI y0))) (y := y0) (a := 4) (b := 40) (show (upd (upd s9 2 103) 1 (nI y0)) 0 = nI len from h0) hl pk_us (by omega) (by decide) (by decide)) xt_0 rfl rfl (Nat.le_of_ble_eq_true rfl) ⟨Nat.le_of_ble_eq_true rfl, Nat.le_of_ble_eq_true rfl⟩ ⟨Nat.le_refl _, Nat.le_refl _⟩ ?_
        rw [upd_up9, show (if (twS c9 len (nI 4) (nI 40) (y0, true)).2 = true then twV c9 len (nI 4) (nI 40) (y0, true) else -1) = twV c9 len (nI 4) (nI 40) (y0, true) from by rw [f1]; rfl, f1]
        refine z_istore_n CX 3 dX3_readCommand_77 rfl (by decide) ?_
        refine z_iload_n CX 3 dX3_readCommand_78 rfl rfl ?_
        refine z_iconst CX (v := (-1 : Int32)) dX3_readCommand_79 (by decide) ?_
        refine z_icmp_ne CX 85 dX3_readCommand_80 (by decide) (fun _ => ?_) (fun q9 => absurd q9 (twV_nn (by decide) (by decide) (by rw [f1])))
        refine z_aload_n CX 0 dX3_readCommand_85 rfl rfl ?_
        refine z_get CX dX3_readCommand_86 fg_X3_15 xt_0 rfl ?_
        refine z_iload_n CX 2 dX3_readCommand_89 rfl rfl ?_
        refine z_iload_n CX 3 dX3_readCommand_90 rfl rfl ?_
        refine z_is CX (j := 0) dX3_readCommand_91 xt_2 rfl (by omega) (by decide) ?_
        refine z_heap xt_d ?_
        refine z_iinc CX (v := 1) dX3_readCommand_92 rfl (by decide) (by decide) ?_
        refine z_goto CX 35 dX3_readCommand_95 (by decide) ?_
        refine z_iload_n CX 2 dX3_readCommand_35 rfl rfl ?_
        refine z_aload_n CX 0 dX3_readCommand_36 rfl rfl ?_
        refine z_get CX dX3_readCommand_37 fg_X3_15 xt_0 rfl ?_
        refine z_alen CX 0 dX3_readCommand_40 xt_2 rfl rfl ?_
        refine z_icmp_ge CX 98 dX3_readCommand_41 (by decide) (fun q9 => absurd q9 (show ¬ (4 : Int32) ≤ 1 by decide)) (fun _ => ?_)
        refine z_iconst CX (v := 3) dX3_readCommand_44 (by decide) ?_
        refine z_iload_n CX 2 dX3_readCommand_45 rfl rfl ?_
        refine z_imul CX dX3_readCommand_46 ?_
        refine z_iconst CX (v := 2) dX3_readCommand_47 (by decide) ?_
        refine z_iadd CX dX3_readCommand_48 ?_
        refine z_aload_n CX 1 dX3_readCommand_49 rfl rfl ?_
        refine z_oalen CX dX3_readCommand_50 (by decide) rfl ?_
        refine z_icmp_ge CX 98 dX3_readCommand_51 (by decide) (fun q9 => absurd q9 (by decide)) (fun _ => ?_)
        refine z_aload_n CX 0 dX3_readCommand_54 rfl rfl ?_
        refine z_aload_n CX 1 dX3_readCommand_55 rfl rfl ?_
        refine z_iconst CX (v := 3) dX3_readCommand_56 (by decide) ?_
        refine z_iload_n CX 2 dX3_readCommand_57 rfl rfl ?_
        refine z_imul CX dX3_readCommand_58 ?_
        refine z_oald CX (v := 1) dX3_readCommand_59 (by decide) (by unfold vp_in; decide) (by decide) ?_
        refine z_aload_n CX 1 dX3_readCommand_60 rfl rfl ?_
        refine z_iconst CX (v := 3) dX3_readCommand_61 (by decide) ?_
        refine z_iload_n CX 2 dX3_readCommand_62 rfl rfl ?_
        refine z_imul CX dX3_readCommand_63 ?_
        refine z_iconst CX (v := 1) dX3_readCommand_64 (by decide) ?_
        refine z_iadd CX dX3_readCommand_65 ?_
        refine z_oald CX (v := 0) dX3_readCommand_66 (by decide) (by unfold vp_in; decide) (by decide) ?_
        refine z_aload_n CX 1 dX3_readCommand_67 rfl rfl ?_
        refine z_iconst CX (v := 3) dX3_readCommand_68 (by decide) ?_
        refine z_iload_n CX 2 dX3_readCommand_69 rfl rfl ?_
        refine z_imul CX dX3_readCommand_70 ?_
        refine z_iconst CX (v := 2) dX3_readCommand_71 (by decide) ?_
        refine z_iadd CX dX3_readCommand_72 ?_
        refine z_oald CX (v := 5) dX3_readCommand_73 (by decide) (by unfold vp_in; decide) (by decide) ?_
        refine z_callV1 CX dX3_readCommand_74 cv_X3_50 (x_rn1 (s9 := (upd (upd s9 2 103) 1 (nI y1))) (y := y1) (a := 0) (b := 5) (show (upd (upd s9 2 103) 1 (nI y1)) 0 = nI len from h0) hl pk_us (by omega) (by decide) (by decide)) xt_0 rfl rfl (Nat.le_of_ble_eq_true rfl) ⟨Nat.le_of_ble_eq_true rfl, Nat.le_of_ble_eq_true rfl⟩ ⟨Nat.le_refl _, Nat.le_refl _⟩ ?_
        rw [upd_up9, show (if (dgS c9 len (nI 0) (nI 5) (y1, true)).2 = true then dgV c9 len (nI 0) (nI 5) (y1, true) else -1) = dgV c9 len (nI 0) (nI 5) (y1, true) from by rw [f2]; rfl, f2]
        refine z_istore_n CX 3 dX3_readCommand_77 rfl (by decide) ?_
        refine z_iload_n CX 3 dX3_readCommand_78 rfl rfl ?_
        refine z_iconst CX (v := (-1 : Int32)) dX3_readCommand_79 (by decide) ?_
        refine z_icmp_ne CX 85 dX3_readCommand_80 (by decide) (fun _ => ?_) (fun q9 => absurd q9 (dgV_nn (by decide) (by rw [f2])))
        refine z_aload_n CX 0 dX3_readCommand_85 rfl rfl ?_
        refine z_get CX dX3_readCommand_86 fg_X3_15 xt_0 rfl ?_
        refine z_iload_n CX 2 dX3_readCommand_89 rfl rfl ?_
        refine z_iload_n CX 3 dX3_readCommand_90 rfl rfl ?_
        refine z_is CX (j := 1) dX3_readCommand_91 xt_2 rfl (by omega) (by decide) ?_
        refine z_heap xt_d ?_
        refine z_iinc CX (v := 2) dX3_readCommand_92 rfl (by decide) (by decide) ?_
        refine z_goto CX 35 dX3_readCommand_95 (by decide) ?_
        refine z_iload_n CX 2 dX3_readCommand_35 rfl rfl ?_
        refine z_aload_n CX 0 dX3_readCommand_36 rfl rfl ?_
        refine z_get CX dX3_readCommand_37 fg_X3_15 xt_0 rfl ?_
        refine z_alen CX 0 dX3_readCommand_40 xt_2 rfl rfl ?_
        refine z_icmp_ge CX 98 dX3_readCommand_41 (by decide) (fun q9 => absurd q9 (show ¬ (4 : Int32) ≤ 2 by decide)) (fun _ => ?_)
        refine z_iconst CX (v := 3) dX3_readCommand_44 (by decide) ?_
        refine z_iload_n CX 2 dX3_readCommand_45 rfl rfl ?_
        refine z_imul CX dX3_readCommand_46 ?_
        refine z_iconst CX (v := 2) dX3_readCommand_47 (by decide) ?_
        refine z_iadd CX dX3_readCommand_48 ?_
        refine z_aload_n CX 1 dX3_readCommand_49 rfl rfl ?_
        refine z_oalen CX dX3_readCommand_50 (by decide) rfl ?_
        refine z_icmp_ge CX 98 dX3_readCommand_51 (by decide) (fun q9 => absurd q9 (by decide)) (fun _ => ?_)
        refine z_aload_n CX 0 dX3_readCommand_54 rfl rfl ?_
        refine z_aload_n CX 1 dX3_readCommand_55 rfl rfl ?_
        refine z_iconst CX (v := 3) dX3_readCommand_56 (by decide) ?_
        refine z_iload_n CX 2 dX3_readCommand_57 rfl rfl ?_
        refine z_imul CX dX3_readCommand_58 ?_
        refine z_oald CX (v := 1) dX3_readCommand_59 (by decide) (by unfold vp_in; decide) (by decide) ?_
        refine z_aload_n CX 1 dX3_readCommand_60 rfl rfl ?_
        refine z_iconst CX (v := 3) dX3_readCommand_61 (by decide) ?_
        refine z_iload_n CX 2 dX3_readCommand_62 rfl rfl ?_
        refine z_imul CX dX3_readCommand_63 ?_
        refine z_iconst CX (v := 1) dX3_readCommand_64 (by decide) ?_
        refine z_iadd CX dX3_readCommand_65 ?_
        refine z_oald CX (v := 0) dX3_readCommand_66 (by decide) (by unfold vp_in; decide) (by decide) ?_
        refine z_aload_n CX 1 dX3_readCommand_67 rfl rfl ?_
        refine z_iconst CX (v := 3) dX3_readCommand_68 (by decide) ?_
        refine z_iload_n CX 2 dX3_readCommand_69 rfl rfl ?_
        refine z_imul CX dX3_readCommand_70 ?_
        refine z_iconst CX (v := 2) dX3_readCommand_71 (by decide) ?_
        refine z_iadd CX dX3_readCommand_72 ?_
        refine z_oald CX (v := 5) dX3_readCommand_73 (by decide) (by unfold vp_in; decide) (by decide) ?_
        refine z_callV1 CX dX3_readCommand_74 cv_X3_50 (x_rn1 (s9 := (upd (upd s9 2 103) 1 (nI y2))) (y := y2) (a := 0) (b := 5) (show (upd (upd s9 2 103) 1 (nI y2)) 0 = nI len from h0) hl pk_us (by omega) (by decide) (by decide)) xt_0 rfl rfl (Nat.le_of_ble_eq_true rfl) ⟨Nat.le_of_ble_eq_true rfl, Nat.le_of_ble_eq_true rfl⟩ ⟨Nat.le_refl _, Nat.le_refl _⟩ ?_
        rw [upd_up9, show (if (dgS c9 len (nI 0) (nI 5) (y2, true)).2 = true then dgV c9 len (nI 0) (nI 5) (y2, true) else -1) = -1 from by rw [f3]; rfl, f3]
        refine z_istore_n CX 3 dX3_readCommand_77 rfl (by decide) ?_
        refine z_iload_n CX 3 dX3_readCommand_78 rfl rfl ?_
        refine z_iconst CX (v := (-1 : Int32)) dX3_readCommand_79 (by decide) ?_
        refine z_icmp_ne CX 85 dX3_readCommand_80 (by decide) (fun q9 => absurd q9 (fun z => z rfl)) (fun _ => ?_)
        refine z_iconst CX (v := 0) dX3_readCommand_83 (by decide) ?_
        exact z_zret CX dX3_readCommand_84 rfl (by first | rfl | exact bI_nar _) rfl rfl (Or.inl rfl)
    · obtain ⟨y2, e2⟩ : ∃ y2, dgS c9 len 0 5 (y1, true) = (y2, false) := ⟨(dgS c9 len 0 5 (y1, true)).1, Prod.ext rfl (Bool.eq_false_iff.mpr g2)⟩
      have f2 : dgS c9 len (nI 0) (nI 5) (y1, true) = (y2, false) := e2
      have ee : (pzG c9 len (y + 1)).1 = (y2, false) := by subst hy0; unfold pzG; simp only [e1, e2, dgS_w, twS_w]
      rw [ee]
      refine ⟨(upd d9 0 (twV c9 len (nI 4) (nI 40) (y0, true))), @fun l w hs n k s9 h0 h1 => ?_, fun q => absurd q Bool.false_ne_true⟩
      refine Cn.of (d := mX3_readCommand) (by decide +kernel) (Nat.le_of_ble_eq_true rfl) ?_
      intro p e R s m args below meth c CX
      replace CX : Ctx p s m args meth c R w RX3 "readCommand" cX3_readCommand 4 (some .boolean) 2 46 0 0 := CX
      show ZW p l e R s m args below meth c w 4 _ _ 0 0 (MQ below (Qn w _ _ _) args s 0 0 (wA w)) 0 [(0, .ref (wB w + k))] []
      refine z_aload_n CX 0 dX3_readCommand_0 rfl rfl ?_
      refine z_aload_n CX 0 dX3_readCommand_1 rfl rfl ?_
      refine z_callV1 CX dX3_readCommand_2 cv_X3_25 (x_hand h0 hl h1 (by omega)) xt_0 rfl rfl (Nat.le_of_ble_eq_true rfl) ⟨Nat.le_of_ble_eq_true rfl, Nat.le_of_ble_eq_true rfl⟩ ⟨Nat.le_refl _, Nat.le_refl _⟩ ?_
      rw [hz]
      refine z_put CX dX3_readCommand_5 fg_X3_33 fp_X3_4 xt_0 (Nat.le_of_ble_eq_true rfl) rfl rfl ?_
      refine z_heap xt_f2 ?_
      refine z_aload_n CX 0 dX3_readCommand_8 rfl rfl ?_
      refine z_get CX dX3_readCommand_9 fg_X3_33 xt_0 rfl ?_
      refine z_callS1 CX dX3_readCommand_12 cs_X3_46 x_nb_103 rfl rfl (Nat.le_of_ble_eq_true rfl) ⟨Nat.le_of_ble_eq_true rfl, Nat.le_of_ble_eq_true rfl⟩ ⟨Nat.le_refl _, Nat.le_refl _⟩ ?_
      refine z_astore_n CX 1 dX3_readCommand_15 rfl (by decide) ?_
      refine z_aload_n CX 1 dX3_readCommand_16 rfl rfl ?_
      refine z_oalen CX dX3_readCommand_17 (by decide) rfl ?_
      refine z_if_ne CX 23 dX3_readCommand_18 (by decide) (fun _ => ?_) (fun q9 => absurd q9 (by decide))
      refine z_aload_n CX 0 dX3_readCommand_23 rfl rfl ?_
      refine z_dup CX dX3_readCommand_24 rfl ?_
      refine z_get CX dX3_readCommand_25 fg_X3_22 xt_0 rfl ?_
      refine z_iconst CX (v := 1) dX3_readCommand_28 (by decide) ?_
      refine z_iadd CX dX3_readCommand_29 ?_
      rw [show upd s9 2 103 1 + 1 = nI (y + 1) from by show s9 1 + 1 = _; rw [h1]; exact ix_add (a := y) (b := 1) rfl rfl, ← hy0]
      refine z_put CX dX3_readCommand_30 fg_X3_22 fp_X3_3 xt_0 (Nat.le_of_ble_eq_true rfl) rfl rfl ?_
      refine z_heap xt_f1 ?_
      refine z_iconst CX (v := 0) dX3_readCommand_33 (by decide) ?_
      refine z_istore_n CX 2 dX3_readCommand_34 rfl (by decide) ?_
      refine z_iload_n CX 2 dX3_readCommand_35 rfl rfl ?_
      refine z_aload_n CX 0 dX3_readCommand_36 rfl rfl ?_
      refine z_get CX dX3_readCommand_37 fg_X3_15 xt_0 rfl ?_
      refine z_alen CX 0 dX3_readCommand_40 xt_2 rfl rfl ?_
      refine z_icmp_ge CX 98 dX3_readCommand_41 (by decide) (fun q9 => absurd q9 (show ¬ (4 : Int32) ≤ 0 by decide)) (fun _ => ?_)
      refine z_iconst CX (v := 3) dX3_readCommand_44 (by decide) ?_
      refine z_iload_n CX 2 dX3_readCommand_45 rfl rfl ?_
      refine z_imul CX dX3_readCommand_46 ?_
      refine z_iconst CX (v := 2) dX3_readCommand_47 (by decide) ?_
      refine z_iadd CX dX3_readCommand_48 ?_
      refine z_aload_n CX 1 dX3_readCommand_49 rfl rfl ?_
      refine z_oalen CX dX3_readCommand_50 (by decide) rfl ?_
      refine z_icmp_ge CX 98 dX3_readCommand_51 (by decide) (fun q9 => absurd q9 (by decide)) (fun _ => ?_)
      refine z_aload_n CX 0 dX3_readCommand_54 rfl rfl ?_
      refine z_aload_n CX 1 dX3_readCommand_55 rfl rfl ?_
      refine z_iconst CX (v := 3) dX3_readCommand_56 (by decide) ?_
      refine z_iload_n CX 2 dX3_readCommand_57 rfl rfl ?_
      refine z_imul CX dX3_readCommand_58 ?_
      refine z_oald CX (v := 10) dX3_readCommand_59 (by decide) (by unfold vp_in; decide) (by decide) ?_
      refine z_aload_n CX 1 dX3_readCommand_60 rfl rfl ?_
      refine z_iconst CX (v := 3) dX3_readCommand_61 (by decide) ?_
      refine z_iload_n CX 2 dX3_readCommand_62 rfl rfl ?_
      refine z_imul CX dX3_readCommand_63 ?_
      refine z_iconst CX (v := 1) dX3_readCommand_64 (by decide) ?_
      refine z_iadd CX dX3_readCommand_65 ?_
      refine z_oald CX (v := 4) dX3_readCommand_66 (by decide) (by unfold vp_in; decide) (by decide) ?_
      refine z_aload_n CX 1 dX3_readCommand_67 rfl rfl ?_
      refine z_iconst CX (v := 3) dX3_readCommand_68 (by decide) ?_
      refine z_iload_n CX 2 dX3_readCommand_69 rfl rfl ?_
      refine z_imul CX dX3_readCommand_70 ?_
      refine z_iconst CX (v := 2) dX3_readCommand_71 (by decide) ?_
      refine z_iadd CX dX3_readCommand_72 ?_
      refine z_oald CX (v := 40) dX3_readCommand_73 (by decide) (by unfold vp_in; decide) (by decide) ?_
      refine z_callV1 CX dX3_readCommand_74 cv_X3_50 (x_rn2 (s9 := (upd (upd s9 2 103) 1 (nI y0))) (y := y0) (a := 4) (b := 40) (show (upd (upd s9 2 103) 1 (nI y0)) 0 = nI len from h0) hl pk_us (by omega) (by decide) (by decide)) xt_0 rfl rfl (Nat.le_of_ble_eq_true rfl) ⟨Nat.le_of_ble_eq_true rfl, Nat.le_of_ble_eq_true rfl⟩ ⟨Nat.le_refl _, Nat.le_refl _⟩ ?_
      rw [upd_up9, show (if (twS c9 len (nI 4) (nI 40) (y0, true)).2 = true then twV c9 len (nI 4) (nI 40) (y0, true) else -1) = twV c9 len (nI 4) (nI 40) (y0, true) from by rw [f1]; rfl, f1]
      refine z_istore_n CX 3 dX3_readCommand_77 rfl (by decide) ?_
      refine z_iload_n CX 3 dX3_readCommand_78 rfl rfl ?_
      refine z_iconst CX (v := (-1 : Int32)) dX3_readCommand_79 (by decide) ?_
      refine z_icmp_ne CX 85 dX3_readCommand_80 (by decide) (fun _ => ?_) (fun q9 => absurd q9 (twV_nn (by decide) (by decide) (by rw [f1])))
      refine z_aload_n CX 0 dX3_readCommand_85 rfl rfl ?_
      refine z_get CX dX3_readCommand_86 fg_X3_15 xt_0 rfl ?_
      refine z_iload_n CX 2 dX3_readCommand_89 rfl rfl ?_
      refine z_iload_n CX 3 dX3_readCommand_90 rfl rfl ?_
      refine z_is CX (j := 0) dX3_readCommand_91 xt_2 rfl (by omega) (by decide) ?_
      refine z_heap xt_d ?_
      refine z_iinc CX (v := 1) dX3_readCommand_92 rfl (by decide) (by decide) ?_
      refine z_goto CX 35 dX3_readCommand_95 (by decide) ?_
      refine z_iload_n CX 2 dX3_readCommand_35 rfl rfl ?_
      refine z_aload_n CX 0 dX3_readCommand_36 rfl rfl ?_
      refine z_get CX dX3_readCommand_37 fg_X3_15 xt_0 rfl ?_
      refine z_alen CX 0 dX3_readCommand_40 xt_2 rfl rfl ?_
      refine z_icmp_ge CX 98 dX3_readCommand_41 (by decide) (fun q9 => absurd q9 (show ¬ (4 : Int32) ≤ 1 by decide)) (fun _ => ?_)
      refine z_iconst CX (v := 3) dX3_readCommand_44 (by decide) ?_
      refine z_iload_n CX 2 dX3_readCommand_45 rfl rfl ?_
      refine z_imul CX dX3_readCommand_46 ?_
      refine z_iconst CX (v := 2) dX3_readCommand_47 (by decide) ?_
      refine z_iadd CX dX3_readCommand_48 ?_
      refine z_aload_n CX 1 dX3_readCommand_49 rfl rfl ?_
      refine z_oalen CX dX3_readCommand_50 (by decide) rfl ?_
      refine z_icmp_ge CX 98 dX3_readCommand_51 (by decide) (fun q9 => absurd q9 (by decide)) (fun _ => ?_)
      refine z_aload_n CX 0 dX3_readCommand_54 rfl rfl ?_
      refine z_aload_n CX 1 dX3_readCommand_55 rfl rfl ?_
      refine z_iconst CX (v := 3) dX3_readCommand_56 (by decide) ?_
      refine z_iload_n CX 2 dX3_readCommand_57 rfl rfl ?_
      refine z_imul CX dX3_readCommand_58 ?_
      refine z_oald CX (v := 1) dX3_readCommand_59 (by decide) (by unfold vp_in; decide) (by decide) ?_
      refine z_aload_n CX 1 dX3_readCommand_60 rfl rfl ?_
      refine z_iconst CX (v := 3) dX3_readCommand_61 (by decide) ?_
      refine z_iload_n CX 2 dX3_readCommand_62 rfl rfl ?_
      refine z_imul CX dX3_readCommand_63 ?_
      refine z_iconst CX (v := 1) dX3_readCommand_64 (by decide) ?_
      refine z_iadd CX dX3_readCommand_65 ?_
      refine z_oald CX (v := 0) dX3_readCommand_66 (by decide) (by unfold vp_in; decide) (by decide) ?_
      refine z_aload_n CX 1 dX3_readCommand_67 rfl rfl ?_
      refine z_iconst CX (v := 3) dX3_readCommand_68 (by decide) ?_
      refine z_iload_n CX 2 dX3_readCommand_69 rfl rfl ?_
      refine z_imul CX dX3_readCommand_70 ?_
      refine z_iconst CX (v := 2) dX3_readCommand_71 (by decide) ?_
      refine z_iadd CX dX3_readCommand_72 ?_
      refine z_oald CX (v := 5) dX3_readCommand_73 (by decide) (by unfold vp_in; decide) (by decide) ?_
      refine z_callV1 CX dX3_readCommand_74 cv_X3_50 (x_rn1 (s9 := (upd (upd s9 2 103) 1 (nI y1))) (y := y1) (a := 0) (b := 5) (show (upd (upd s9 2 103) 1 (nI y1)) 0 = nI len from h0) hl pk_us (by omega) (by decide) (by decide)) xt_0 rfl rfl (Nat.le_of_ble_eq_true rfl) ⟨Nat.le_of_ble_eq_true rfl, Nat.le_of_ble_eq_true rfl⟩ ⟨Nat.le_refl _, Nat.le_refl _⟩ ?_
      rw [upd_up9, show (if (dgS c9 len (nI 0) (nI 5) (y1, true)).2 = true then dgV c9 len (nI 0) (nI 5) (y1, true) else -1) = -1 from by rw [f2]; rfl, f2]
      refine z_istore_n CX 3 dX3_readCommand_77 rfl (by decide) ?_
      refine z_iload_n CX 3 dX3_readCommand_78 rfl rfl ?_
      refine z_iconst CX (v := (-1 : Int32)) dX3_readCommand_79 (by decide) ?_
      refine z_icmp_ne CX 85 dX3_readCommand_80 (by decide) (fun q9 => absurd q9 (fun z => z rfl)) (fun _ => ?_)
      refine z_iconst CX (v := 0) dX3_readCommand_83 (by decide) ?_
      exact z_zret CX dX3_readCommand_84 rfl (by first | rfl | exact bI_nar _) rfl rfl (Or.inl rfl)
  · obtain ⟨y1, e1⟩ : ∃ y1, twS c9 len 4 40 (y0, true) = (y1, false) := ⟨(twS c9 len 4 40 (y0, true)).1, Prod.ext rfl (Bool.eq_false_iff.mpr g1)⟩
    have f1 : twS c9 len (nI 4) (nI 40) (y0, true) = (y1, false) := e1
    have ee : (pzG c9 len (y + 1)).1 = (y1, false) := by subst hy0; unfold pzG; simp only [e1, dgS_w, twS_w]
    rw [ee]
    refine ⟨d9, @fun l w hs n k s9 h0 h1 => ?_, fun q => absurd q Bool.false_ne_true⟩
    refine Cn.of (d := mX3_readCommand) (by decide +kernel) (Nat.le_of_ble_eq_true rfl) ?_
    intro p e R s m args below meth c CX
    replace CX : Ctx p s m args meth c R w RX3 "readCommand" cX3_readCommand 4 (some .boolean) 2 46 0 0 := CX
    show ZW p l e R s m args below meth c w 4 _ _ 0 0 (MQ below (Qn w _ _ _) args s 0 0 (wA w)) 0 [(0, .ref (wB w + k))] []
    refine z_aload_n CX 0 dX3_readCommand_0 rfl rfl ?_
    refine z_aload_n CX 0 dX3_readCommand_1 rfl rfl ?_
    refine z_callV1 CX dX3_readCommand_2 cv_X3_25 (x_hand h0 hl h1 (by omega)) xt_0 rfl rfl (Nat.le_of_ble_eq_true rfl) ⟨Nat.le_of_ble_eq_true rfl, Nat.le_of_ble_eq_true rfl⟩ ⟨Nat.le_refl _, Nat.le_refl _⟩ ?_
    rw [hz]
    refine z_put CX dX3_readCommand_5 fg_X3_33 fp_X3_4 xt_0 (Nat.le_of_ble_eq_true rfl) rfl rfl ?_
    refine z_heap xt_f2 ?_
    refine z_aload_n CX 0 dX3_readCommand_8 rfl rfl ?_
    refine z_get CX dX3_readCommand_9 fg_X3_33 xt_0 rfl ?_
    refine z_callS1 CX dX3_readCommand_12 cs_X3_46 x_nb_103 rfl rfl (Nat.le_of_ble_eq_true rfl) ⟨Nat.le_of_ble_eq_true rfl, Nat.le_of_ble_eq_true rfl⟩ ⟨Nat.le_refl _, Nat.le_refl _⟩ ?_
    refine z_astore_n CX 1 dX3_readCommand_15 rfl (by decide) ?_
    refine z_aload_n CX 1 dX3_readCommand_16 rfl rfl ?_
    refine z_oalen CX dX3_readCommand_17 (by decide) rfl ?_
    refine z_if_ne CX 23 dX3_readCommand_18 (by decide) (fun _ => ?_) (fun q9 => absurd q9 (by decide))
    refine z_aload_n CX 0 dX3_readCommand_23 rfl rfl ?_
    refine z_dup CX dX3_readCommand_24 rfl ?_
    refine z_get CX dX3_readCommand_25 fg_X3_22 xt_0 rfl ?_
    refine z_iconst CX (v := 1) dX3_readCommand_28 (by decide) ?_
    refine z_iadd CX dX3_readCommand_29 ?_
    rw [show upd s9 2 103 1 + 1 = nI (y + 1) from by show s9 1 + 1 = _; rw [h1]; exact ix_add (a := y) (b := 1) rfl rfl, ← hy0]
    refine z_put CX dX3_readCommand_30 fg_X3_22 fp_X3_3 xt_0 (Nat.le_of_ble_eq_true rfl) rfl rfl ?_
    refine z_heap xt_f1 ?_
    refine z_iconst CX (v := 0) dX3_readCommand_33 (by decide) ?_
    refine z_istore_n CX 2 dX3_readCommand_34 rfl (by decide) ?_
    refine z_iload_n CX 2 dX3_readCommand_35 rfl rfl ?_
    refine z_aload_n CX 0 dX3_readCommand_36 rfl rfl ?_
    refine z_get CX dX3_readCommand_37 fg_X3_15 xt_0 rfl ?_
    refine z_alen CX 0 dX3_readCommand_40 xt_2 rfl rfl ?_
    refine z_icmp_ge CX 98 dX3_readCommand_41 (by decide) (fun q9 => absurd q9 (show ¬ (4 : Int32) ≤ 0 by decide)) (fun _ => ?_)
    refine z_iconst CX (v := 3) dX3_readCommand_44 (by decide) ?_
    refine z_iload_n CX 2 dX3_readCommand_45 rfl rfl ?_
    refine z_imul CX dX3_readCommand_46 ?_
    refine z_iconst CX (v := 2) dX3_readCommand_47 (by decide) ?_
    refine z_iadd CX dX3_readCommand_48 ?_
    refine z_aload_n CX 1 dX3_readCommand_49 rfl rfl ?_
    refine z_oalen CX dX3_readCommand_50 (by decide) rfl ?_
    refine z_icmp_ge CX 98 dX3_readCommand_51 (by decide) (fun q9 => absurd q9 (by decide)) (fun _ => ?_)
    refine z_aload_n CX 0 dX3_readCommand_54 rfl rfl ?_
    refine z_aload_n CX 1 dX3_readCommand_55 rfl rfl ?_
    refine z_iconst CX (v := 3) dX3_readCommand_56 (by decide) ?_
    refine z_iload_n CX 2 dX3_readCommand_57 rfl rfl ?_
    refine z_imul CX dX3_readCommand_58 ?_
    refine z_oald CX (v := 10) dX3_readCommand_59 (by decide) (by unfold vp_in; decide) (by decide) ?_
    refine z_aload_n CX 1 dX3_readCommand_60 rfl rfl ?_
    refine z_iconst CX (v := 3) dX3_readCommand_61 (by decide) ?_
    refine z_iload_n CX 2 dX3_readCommand_62 rfl rfl ?_
    refine z_imul CX dX3_readCommand_63 ?_
    refine z_iconst CX (v := 1) dX3_readCommand_64 (by decide) ?_
    refine z_iadd CX dX3_readCommand_65 ?_
    refine z_oald CX (v := 4) dX3_readCommand_66 (by decide) (by unfold vp_in; decide) (by decide) ?_
    refine z_aload_n CX 1 dX3_readCommand_67 rfl rfl ?_
    refine z_iconst CX (v := 3) dX3_readCommand_68 (by decide) ?_
    refine z_iload_n CX 2 dX3_readCommand_69 rfl rfl ?_
    refine z_imul CX dX3_readCommand_70 ?_
    refine z_iconst CX (v := 2) dX3_readCommand_71 (by decide) ?_
    refine z_iadd CX dX3_readCommand_72 ?_
    refine z_oald CX (v := 40) dX3_readCommand_73 (by decide) (by unfold vp_in; decide) (by decide) ?_
    refine z_callV1 CX dX3_readCommand_74 cv_X3_50 (x_rn2 (s9 := (upd (upd s9 2 103) 1 (nI y0))) (y := y0) (a := 4) (b := 40) (show (upd (upd s9 2 103) 1 (nI y0)) 0 = nI len from h0) hl pk_us (by omega) (by decide) (by decide)) xt_0 rfl rfl (Nat.le_of_ble_eq_true rfl) ⟨Nat.le_of_ble_eq_true rfl, Nat.le_of_ble_eq_true rfl⟩ ⟨Nat.le_refl _, Nat.le_refl _⟩ ?_
    rw [upd_up9, show (if (twS c9 len (nI 4) (nI 40) (y0, true)).2 = true then twV c9 len (nI 4) (nI 40) (y0, true) else -1) = -1 from by rw [f1]; rfl, f1]
    refine z_istore_n CX 3 dX3_readCommand_77 rfl (by decide) ?_
    refine z_iload_n CX 3 dX3_readCommand_78 rfl rfl ?_
    refine z_iconst CX (v := (-1 : Int32)) dX3_readCommand_79 (by decide) ?_
    refine z_icmp_ne CX 85 dX3_readCommand_80 (by decide) (fun q9 => absurd q9 (fun z => z rfl)) (fun _ => ?_)
    refine z_iconst CX (v := 0) dX3_readCommand_83 (by decide) ?_
    exact z_zret CX dX3_readCommand_84 rfl (by first | rfl | exact bI_nar _) rfl rfl (Or.inl rfl)
set_option maxHeartbeats 4000000 in
set_option maxRecDepth 100000 in
theorem x_rc_98 {c9 d9 : Nat → Int32} {len y : Nat} (hl : len ≤ 120) (hy : y < 200) (hz : hrF c9 len y = 98) : ∃ dd : Nat → Int32, (∀ {l : Launch} {w : Wt} {hs : Hs} {n : Option Nat} {k : Nat} {s9 : Nat → Int32}, s9 0 = nI len → s9 1 = nI y → Cn l w mX3_readCommand 0 0 [.ref (wB w + k)] (XT w hs k s9 c9 d9) n (XT w hs k (upd (upd s9 2 98) 1 (nI (pzB c9 len (y + 1)).1.1)) c9 dd) n (some (.int (bI (pzB c9 len (y + 1)).1.2)))) ∧ ((pzB c9 len (y + 1)).1.2 = true → dd 0 = (pzB c9 len (y + 1)).2.1 ∧ dd 1 = (pzB c9 len (y + 1)).2.2.1 ∧ dd 2 = (pzB c9 len (y + 1)).2.2.2.1) := by
  obtain ⟨y0, hy0⟩ : ∃ y0, y0 = y + 1 := ⟨_, rfl⟩
  by_cases g1 : (dgS c9 len 1 9 (y0, true)).2 = true
  · obtain ⟨y1, e1⟩ : ∃ y1, dgS c9 len 1 9 (y0, true) = (y1, true) := ⟨(dgS c9 len 1 9 (y0, true)).1, Prod.ext rfl g1⟩
    have f1 : dgS c9 len (nI 1) (nI 9) (y0, true) = (y1, true) := e1
    have b1 : y1 ≤ y0 + 2 := by have q := (dgS_le (t := c9) (len := len) (lo := 1) (hi := 9) (q := (y0, true))).2; rw [e1] at q; show y1 ≤ (y0, true).1 + 2; omega
    by_cases g2 : (dgS c9 len 0 3 (y1, true)).2 = true
    · obtain ⟨y2, e2⟩ : ∃ y2, dgS c9 len 0 3 (y1, true) = (y2, true) := ⟨(dgS c9 len 0 3 (y1, true)).1, Prod.ext rfl g2⟩
      have f2 : dgS c9 len (nI 0) (nI 3) (y1, true) = (y2, true) := e2
      have b2 : y2 ≤ y1 + 2 := by have q := (dgS_le (t := c9) (len := len) (lo := 0) (hi := 3) (q := (y1, true))).2; rw [e2] at q; show y2 ≤ (y1, true).1 + 2; omega
      by_cases g3 : (dgS c9 len 0 3 (y2, true)).2 = true
      · obtain ⟨y3, e3⟩ : ∃ y3, dgS c9 len 0 3 (y2, true) = (y3, true) := ⟨(dgS c9 len 0 3 (y2, true)).1, Prod.ext rfl g3⟩
        have f3 : dgS c9 len (nI 0) (nI 3) (y2, true) = (y3, true) := e3
        have b3 : y3 ≤ y2 + 2 := by have q := (dgS_le (t := c9) (len := len) (lo := 0) (hi := 3) (q := (y2, true))).2; rw [e3] at q; show y3 ≤ (y2, true).1 + 2; omega
        have ee : (pzB c9 len (y + 1)) = ((y3, true), dgV c9 len 1 9 (y0, true), dgV c9 len 0 3 (y1, true), dgV c9 len 0 3 (y2, true), 0) := by subst hy0; unfold pzB; rw [e1, e2, e3]
        rw [ee]
        refine ⟨(upd (upd (upd d9 0 (dgV c9 len (nI 1) (nI 9) (y0, true))) 1 (dgV c9 len (nI 0) (nI 3) (y1, true))) 2 (dgV c9 len (nI 0) (nI 3) (y2, true))), @fun l w hs n k s9 h0 h1 => ?_, fun _ => ⟨rfl, rfl, rfl⟩⟩
        refine Cn.of (d := mX3_readCommand) (by decide +kernel) (Nat.le_of_ble_eq_true rfl) ?_
        intro p e R s m args below meth c CX
        replace CX : Ctx p s m args meth c R w RX3 "readCommand" cX3_readCommand 4 (some .boolean) 2 46 0 0 := CX
        show ZW p l e R s m args below meth c w 4 _ _ 0 0 (MQ below (Qn w _ _ _) args s 0 0 (wA w)) 0 [(0, .ref (wB w + k))] []
        refine z_aload_n CX 0 dX3_readCommand_0 rfl rfl ?_
        refine z_aload_n CX 0 dX3_readCommand_1 rfl rfl ?_
        refine z_callV1 CX dX3_readCommand_2 cv_X3_25 (x_hand h0 hl h1 (by omega)) xt_0 rfl rfl (Nat.le_of_ble_eq_true rfl) ⟨Nat.le_of_ble_eq_true rfl, Nat.le_of_ble_eq_true rfl⟩ ⟨Nat.le_refl _, Nat.le_refl _⟩ ?_
        rw [hz]
        refine z_put CX dX3_readCommand_5 fg_X3_33 fp_X3_4 xt_0 (Nat.le_of_ble_eq_true rfl) rfl rfl ?_
        refine z_heap xt_f2 ?_
        refine z_aload_n CX 0 dX3_readCommand_8 rfl rfl ?_
        refine z_get CX dX3_readCommand_9 fg_X3_33 xt_0 rfl ?_
        refine z_callS1 CX dX3_readCommand_12 cs_X3_46 x_nb_98 rfl rfl (Nat.le_of_ble_eq_true rfl) ⟨Nat.le_of_ble_eq_true rfl, Nat.le_of_ble_eq_true rfl⟩ ⟨Nat.le_refl _, Nat.le_refl _⟩ ?_
        refine z_astore_n CX 1 dX3_readCommand_15 rfl (by decide) ?_
        refine z_aload_n CX 1 dX3_readCommand_16 rfl rfl ?_
        refine z_oalen CX dX3_readCommand_17 (by decide) rfl ?_
        refine z_if_ne CX 23 dX3_readCommand_18 (by decide) (fun _ => ?_) (fun q9 => absurd q9 (by decide))
        refine z_aload_n CX 0 dX3_readCommand_23 rfl rfl ?_
        refine z_dup CX dX3_readCommand_24 rfl ?_
        refine z_get CX dX3_readCommand_25 fg_X3_22 xt_0 rfl ?_
        refine z_iconst CX (v := 1) dX3_readCommand_28 (by decide) ?_
        refine z_iadd CX dX3_readCommand_29 ?_
        rw [show upd s9 2 98 1 + 1 = nI (y + 1) from by show s9 1 + 1 = _; rw [h1]; exact ix_add (a := y) (b := 1) rfl rfl, ← hy0]
        refine z_put CX dX3_readCommand_30 fg_X3_22 fp_X3_3 xt_0 (Nat.le_of_ble_eq_true rfl) rfl rfl ?_
        refine z_heap xt_f1 ?_
        refine z_iconst CX (v := 0) dX3_readCommand_33 (by decide) ?_
        refine z_istore_n CX 2 dX3_readCommand_34 rfl (by decide) ?_
        refine z_iload_n CX 2 dX3_readCommand_35 rfl rfl ?_
        refine z_aload_n CX 0 dX3_readCommand_36 rfl rfl ?_
        refine z_get CX dX3_readCommand_37 fg_X3_15 xt_0 rfl ?_
        refine z_alen CX 0 dX3_readCommand_40 xt_2 rfl rfl ?_
        refine z_icmp_ge CX 98 dX3_readCommand_41 (by decide) (fun q9 => absurd q9 (show ¬ (4 : Int32) ≤ 0 by decide)) (fun _ => ?_)
        refine z_iconst CX (v := 3) dX3_readCommand_44 (by decide) ?_
        refine z_iload_n CX 2 dX3_readCommand_45 rfl rfl ?_
        refine z_imul CX dX3_readCommand_46 ?_
        refine z_iconst CX (v := 2) dX3_readCommand_47 (by decide) ?_
        refine z_iadd CX dX3_readCommand_48 ?_
        refine z_aload_n CX 1 dX3_readCommand_49 rfl rfl ?_
        refine z_oalen CX dX3_readCommand_50 (by decide) rfl ?_
        refine z_icmp_ge CX 98 dX3_readCommand_51 (by decide) (fun q9 => absurd q9 (by decide)) (fun _ => ?_)
        refine z_aload_n CX 0 dX3_readCommand_54 rfl rfl ?_
        refine z_aload_n CX 1 dX3_readCommand_55 rfl rfl ?_
        refine z_iconst CX (v := 3) dX3_readCommand_56 (by decide) ?_
        refine z_iload_n CX 2 dX3_readCommand_57 rfl rfl ?_
        refine z_imul CX dX3_readCommand_58 ?_
        refine z_oald CX (v := 1) dX3_readCommand_59 (by decide) (by unfold vp_in; decide) (by decide) ?_
        refine z_aload_n CX 1 dX3_readCommand_60 rfl rfl ?_
        refine z_iconst CX (v := 3) dX3_readCommand_61 (by decide) ?_
        refine z_iload_n CX 2 dX3_readCommand_62 rfl rfl ?_
        refine z_imul CX dX3_readCommand_63 ?_
        refine z_iconst CX (v := 1) dX3_readCommand_64 (by decide) ?_
        refine z_iadd CX dX3_readCommand_65 ?_
        refine z_oald CX (v := 1) dX3_readCommand_66 (by decide) (by unfold vp_in; decide) (by decide) ?_
        refine z_aload_n CX 1 dX3_readCommand_67 rfl rfl ?_
        refine z_iconst CX (v := 3) dX3_readCommand_68 (by decide) ?_
        refine z_iload_n CX 2 dX3_readCommand_69 rfl rfl ?_
        refine z_imul CX dX3_readCommand_70 ?_
        refine z_iconst CX (v := 2) dX3_readCommand_71 (by decide) ?_
        refine z_iadd CX dX3_readCommand_72 ?_
        refine z_oald CX (v := 9) dX3_readCommand_73 (by decide) (by unfold vp_in; decide) (by decide) ?_
        refine z_callV1 CX dX3_readCommand_74 cv_X3_50 (x_rn1 (s9 := (upd (upd s9 2 98) 1 (nI y0))) (y := y0) (a := 1) (b := 9) (show (upd (upd s9 2 98) 1 (nI y0)) 0 = nI len from h0) hl pk_us (by omega) (by decide) (by decide)) xt_0 rfl rfl (Nat.le_of_ble_eq_true rfl) ⟨Nat.le_of_ble_eq_true rfl, Nat.le_of_ble_eq_true rfl⟩ ⟨Nat.le_refl _, Nat.le_refl _⟩ ?_
        rw [upd_up9, show (if (dgS c9 len (nI 1) (nI 9) (y0, true)).2 = true then dgV c9 len (nI 1) (nI 9) (y0, true) else -1) = dgV c9 len (nI 1) (nI 9) (y0, true) from by rw [f1]; rfl, f1]
        refine z_istore_n CX 3 dX3_readCommand_77 rfl (by decide) ?_
        refine z_iload_n CX 3 dX3_readCommand_78 rfl rfl ?_
        refine z_iconst CX (v := (-1 : Int32)) dX3_readCommand_79 (by decide) ?_
        refine z_icmp_ne CX 85 dX3_readCommand_80 (by decide) (fun _ => ?_) (fun q9 => absurd q9 (dgV_nn (by decide) (by rw [f1])))
        refine z_aload_n CX 0 dX3_readCommand_85 rfl rfl ?_
        refine z_get CX dX3_readCommand_86 fg_X3_15 xt_0 rfl ?_
        refine z_iload_n CX 2 dX3_readCommand_89 rfl rfl ?_
        refine z_iload_n CX 3 dX3_readCommand_90 rfl rfl ?_
        refine z_is CX (j := 0) dX3_readCommand_91 xt_2 rfl (by omega) (by decide) ?_
        refine z_heap xt_d ?_
        refine z_iinc CX (v := 1) dX3_readCommand_92 rfl (by decide) (by decide) ?_
        refine z_goto CX 35 dX3_readCommand_95 (by decide) ?_
        refine z_iload_n CX 2 dX3_readCommand_35 rfl rfl ?_
        refine z_aload_n CX 0 dX3_readCommand_36 rfl rfl ?_
        refine z_get CX dX3_readCommand_37 fg_X3_15 xt_0 rfl ?_
        refine z_alen CX 0 dX3_readCommand_40 xt_2 rfl rfl ?_
        refine z_icmp_ge CX 98 dX3_readCommand_41 (by decide) (fun q9 => absurd q9 (show ¬ (4 : Int32) ≤ 1 by decide)) (fun _ => ?_)
        refine z_iconst CX (v := 3) dX3_readCommand_44 (by decide) ?_
        refine z_iload_n CX 2 dX3_readCommand_45 rfl rfl ?_
        refine z_imul CX dX3_readCommand_46 ?_
        refine z_iconst CX (v := 2) dX3_readCommand_47 (by decide) ?_
        refine z_iadd CX dX3_readCommand_48 ?_
        refine z_aload_n CX 1 dX3_readCommand_49 rfl rfl ?_
        refine z_oalen CX dX3_readCommand_50 (by decide) rfl ?_
        refine z_icmp_ge CX 98 dX3_readCommand_51 (by decide) (fun q9 => absurd q9 (by decide)) (fun _ => ?_)
        refine z_aload_n CX 0 dX3_readCommand_54 rfl rfl ?_
        refine z_aload_n CX 1 dX3_readCommand_55 rfl rfl ?_
        refine z_iconst CX (v := 3) dX3_readCommand_56 (by decide) ?_
        refine z_iload_n CX 2 dX3_readCommand_57 rfl rfl ?_
        refine z_imul CX dX3_readCommand_58 ?_
        refine z_oald CX (v := 1) dX3_readCommand_59 (by decide) (by unfold vp_in; decide) (by decide) ?_
        refine z_aload_n CX 1 dX3_readCommand_60 rfl rfl ?_
        refine z_iconst CX (v := 3) dX3_readCommand_61 (by decide) ?_
        refine z_iload_n CX 2 dX3_readCommand_62 rfl rfl ?_
        refine z_imul CX dX3_readCommand_63 ?_
        refine z_iconst CX (v := 1) dX3_readCommand_64 (by decide) ?_
        refine z_iadd CX dX3_readCommand_65 ?_
        refine z_oald CX (v := 0) dX3_readCommand_66 (by decide) (by unfold vp_in; decide) (by decide) ?_
        refine z_aload_n CX 1 dX3_readCommand_67 rfl rfl ?_
        refine z_iconst CX (v := 3) dX3_readCommand_68 (by decide) ?_
        refine z_iload_n CX 2 dX3_readCommand_69 rfl rfl ?_
        refine z_imul CX dX3_readCommand_70 ?_
        refine z_iconst CX (v := 2) dX3_readCommand_71 (by decide) ?_
        refine z_iadd CX dX3_readCommand_72 ?_
        refine z_oald CX (v := 3) dX3_readCommand_73 (by decide) (by unfold vp_in; decide) (by decide) ?_
        refine z_callV1 CX dX3_readCommand_74 cv_X3_50 (x_rn1 (s9 := (upd (upd s9 2 98) 1 (nI y1))) (y := y1) (a := 0) (b := 3) (show (upd (upd s9 2 98) 1 (nI y1)) 0 = nI len from h0) hl pk_us (by omega) (by decide) (by decide)) xt_0 rfl rfl (Nat.le_of_ble_eq_true rfl) ⟨Nat.le_of_ble_eq_true rfl, Nat.le_of_ble_eq_true rfl⟩ ⟨Nat.le_refl _, Nat.le_refl _⟩ ?_
        rw [upd_up9, show (if (dgS c9 len (nI 0) (nI 3) (y1, true)).2 = true then dgV c9 len (nI 0) (nI 3) (y1, true) else -1) = dgV c9 len (nI 0) (nI 3) (y1, true) from by rw [f2]; rfl, f2]
        refine z_istore_n CX 3 dX3_readCommand_77 rfl (by decide) ?_
        refine z_iload_n CX 3 dX3_readCommand_78 rfl rfl ?_
        refine z_iconst CX (v := (-1 : Int32)) dX3_readCommand_79 (by decide) ?_
        refine z_icmp_ne CX 85 dX3_readCommand_80 (by decide) (fun _ => ?_) (fun q9 => absurd q9 (dgV_nn (by decide) (by rw [f2])))
        refine z_aload_n CX 0 dX3_readCommand_85 rfl rfl ?_
        refine z_get CX dX3_readCommand_86 fg_X3_15 xt_0 rfl ?_
        refine z_iload_n CX 2 dX3_readCommand_89 rfl rfl ?_
        refine z_iload_n CX 3 dX3_readCommand_90 rfl rfl ?_
        refine z_is CX (j := 1) dX3_readCommand_91 xt_2 rfl (by omega) (by decide) ?_
        refine z_heap xt_d ?_
        refine z_iinc CX (v := 2) dX3_readCommand_92 rfl (by decide) (by decide) ?_
        refine z_goto CX 35 dX3_readCommand_95 (by decide) ?_
        refine z_iload_n CX 2 dX3_readCommand_35 rfl rfl ?_
        refine z_aload_n CX 0 dX3_readCommand_36 rfl rfl ?_
        refine z_get CX dX3_readCommand_37 fg_X3_15 xt_0 rfl ?_
        refine z_alen CX 0 dX3_readCommand_40 xt_2 rfl rfl ?_
        refine z_icmp_ge CX 98 dX3_readCommand_41 (by decide) (fun q9 => absurd q9 (show ¬ (4 : Int32) ≤ 2 by decide)) (fun _ => ?_)
        refine z_iconst CX (v := 3) dX3_readCommand_44 (by decide) ?_
        refine z_iload_n CX 2 dX3_readCommand_45 rfl rfl ?_
        refine z_imul CX dX3_readCommand_46 ?_
        refine z_iconst CX (v := 2) dX3_readCommand_47 (by decide) ?_
        refine z_iadd CX dX3_readCommand_48 ?_
        refine z_aload_n CX 1 dX3_readCommand_49 rfl rfl ?_
        refine z_oalen CX dX3_readCommand_50 (by decide) rfl ?_
        refine z_icmp_ge CX 98 dX3_readCommand_51 (by decide) (fun q9 => absurd q9 (by decide)) (fun _ => ?_)
        refine z_aload_n CX 0 dX3_readCommand_54 rfl rfl ?_
        refine z_aload_n CX 1 dX3_readCommand_55 rfl rfl ?_
        refine z_iconst CX (v := 3) dX3_readCommand_56 (by decide) ?_
        refine z_iload_n CX 2 dX3_readCommand_57 rfl rfl ?_
        refine z_imul CX dX3_readCommand_58 ?_
        refine z_oald CX (v := 1) dX3_readCommand_59 (by decide) (by unfold vp_in; decide) (by decide) ?_
        refine z_aload_n CX 1 dX3_readCommand_60 rfl rfl ?_
        refine z_iconst CX (v := 3) dX3_readCommand_61 (by decide) ?_
        refine z_iload_n CX 2 dX3_readCommand_62 rfl rfl ?_
        refine z_imul CX dX3_readCommand_63 ?_
        refine z_iconst CX (v := 1) dX3_readCommand_64 (by decide) ?_
        refine z_iadd CX dX3_readCommand_65 ?_
        refine z_oald CX (v := 0) dX3_readCommand_66 (by decide) (by unfold vp_in; decide) (by decide) ?_
        refine z_aload_n CX 1 dX3_readCommand_67 rfl rfl ?_
        refine z_iconst CX (v := 3) dX3_readCommand_68 (by decide) ?_
        refine z_iload_n CX 2 dX3_readCommand_69 rfl rfl ?_
        refine z_imul CX dX3_readCommand_70 ?_
        refine z_iconst CX (v := 2) dX3_readCommand_71 (by decide) ?_
        refine z_iadd CX dX3_readCommand_72 ?_
        refine z_oald CX (v := 3) dX3_readCommand_73 (by decide) (by unfold vp_in; decide) (by decide) ?_
        refine z_callV1 CX dX3_readCommand_74 cv_X3_50 (x_rn1 (s9 := (upd (upd s9 2 98) 1 (nI y2))) (y := y2) (a := 0) (b := 3) (show (upd (upd s9 2 98) 1 (nI y2)) 0 = nI len from h0) hl pk_us (by omega) (by decide) (by decide)) xt_0 rfl rfl (Nat.le_of_ble_eq_true rfl) ⟨Nat.le_of_ble_eq_true rfl, Nat.le_of_ble_eq_true rfl⟩ ⟨Nat.le_refl _, Nat.le_refl _⟩ ?_
        rw [upd_up9, show (if (dgS c9 len (nI 0) (nI 3) (y2, true)).2 = true then dgV c9 len (nI 0) (nI 3) (y2, true) else -1) = dgV c9 len (nI 0) (nI 3) (y2, true) from by rw [f3]; rfl, f3]
        refine z_istore_n CX 3 dX3_readCommand_77 rfl (by decide) ?_
        refine z_iload_n CX 3 dX3_readCommand_78 rfl rfl ?_
        refine z_iconst CX (v := (-1 : Int32)) dX3_readCommand_79 (by decide) ?_
        refine z_icmp_ne CX 85 dX3_readCommand_80 (by decide) (fun _ => ?_) (fun q9 => absurd q9 (dgV_nn (by decide) (by rw [f3])))
        refine z_aload_n CX 0 dX3_readCommand_85 rfl rfl ?_
        refine z_get CX dX3_readCommand_86 fg_X3_15 xt_0 rfl ?_
        refine z_iload_n CX 2 dX3_readCommand_89 rfl rfl ?_
        refine z_iload_n CX 3 dX3_readCommand_90 rfl rfl ?_
        refine z_is CX (j := 2) dX3_readCommand_91 xt_2 rfl (by omega) (by decide) ?_
        refine z_heap xt_d ?_
        refine z_iinc CX (v := 3) dX3_readCommand_92 rfl (by decide) (by decide) ?_
        refine z_goto CX 35 dX3_readCommand_95 (by decide) ?_
        refine z_iload_n CX 2 dX3_readCommand_35 rfl rfl ?_
        refine z_aload_n CX 0 dX3_readCommand_36 rfl rfl ?_
        refine z_get CX dX3_readCommand_37 fg_X3_15 xt_0 rfl ?_
        refine z_alen CX 0 dX3_readCommand_40 xt_2 rfl rfl ?_
        refine z_icmp_ge CX 98 dX3_readCommand_41 (by decide) (fun q9 => absurd q9 (show ¬ (4 : Int32) ≤ 3 by decide)) (fun _ => ?_)
        refine z_iconst CX (v := 3) dX3_readCommand_44 (by decide) ?_
        refine z_iload_n CX 2 dX3_readCommand_45 rfl rfl ?_
        refine z_imul CX dX3_readCommand_46 ?_
        refine z_iconst CX (v := 2) dX3_readCommand_47 (by decide) ?_
        refine z_iadd CX dX3_readCommand_48 ?_
        refine z_aload_n CX 1 dX3_readCommand_49 rfl rfl ?_
        refine z_oalen CX dX3_readCommand_50 (by decide) rfl ?_
        refine z_icmp_ge CX 98 dX3_readCommand_51 (by decide) (fun _ => ?_) (fun q9 => absurd (by decide) q9)
        refine z_iconst CX (v := 1) dX3_readCommand_98 (by decide) ?_
        exact z_zret CX dX3_readCommand_99 rfl (by first | rfl | exact bI_nar _) rfl rfl (Or.inl rfl)
      · obtain ⟨y3, e3⟩ : ∃ y3, dgS c9 len 0 3 (y2, true) = (y3, false) := ⟨(dgS c9 len 0 3 (y2, true)).1, Prod.ext rfl (Bool.eq_false_iff.mpr g3)⟩
        have f3 : dgS c9 len (nI 0) (nI 3) (y2, true) = (y3, false) := e3
        have ee : (pzB c9 len (y + 1)).1 = (y3, false) := by subst hy0; unfold pzB; simp only [e1, e2, e3]
        rw [ee]
        refine ⟨(upd (upd d9 0 (dgV c9 len (nI 1) (nI 9) (y0, true))) 1 (dgV c9 len (nI 0) (nI 3) (y1, true))), @fun l w hs n k s9 h0 h1 => ?_, fun q => absurd q Bool.false_ne_true⟩
        refine Cn.of (d := mX3_readCommand) (by decide +kernel) (Nat.le_of_ble_eq_true rfl) ?_
        intro p e R s m args below meth c CX
        replace CX : Ctx p s m args meth c R w RX3 "readCommand" cX3_readCommand 4 (some .boolean) 2 46 0 0 := CX
        show ZW p l e R s m args below meth c w 4 _ _ 0 0 (MQ below (Qn w _ _ _) args s 0 0 (wA w)) 0 [(0, .ref (wB w + k))] []
        refine z_aload_n CX 0 dX3_readCommand_0 rfl rfl ?_
        refine z_aload_n CX 0 dX3_readCommand_1 rfl rfl ?_
        refine z_callV1 CX dX3_readCommand_2 cv_X3_25 (x_hand h0 hl h1 (by omega)) xt_0 rfl rfl (Nat.le_of_ble_eq_true rfl) ⟨Nat.le_of_ble_eq_true rfl, Nat.le_of_ble_eq_true rfl⟩ ⟨Nat.le_refl _, Nat.le_refl _⟩ ?_
        rw [hz]
        refine z_put CX dX3_readCommand_5 fg_X3_33 fp_X3_4 xt_0 (Nat.le_of_ble_eq_true rfl) rfl rfl ?_
        refine z_heap xt_f2 ?_
        refine z_aload_n CX 0 dX3_readCommand_8 rfl rfl ?_
        refine z_get CX dX3_readCommand_9 fg_X3_33 xt_0 rfl ?_
        refine z_callS1 CX dX3_readCommand_12 cs_X3_46 x_nb_98 rfl rfl (Nat.le_of_ble_eq_true rfl) ⟨Nat.le_of_ble_eq_true rfl, Nat.le_of_ble_eq_true rfl⟩ ⟨Nat.le_refl _, Nat.le_refl _⟩ ?_
        refine z_astore_n CX 1 dX3_readCommand_15 rfl (by decide) ?_
        refine z_aload_n CX 1 dX3_readCommand_16 rfl rfl ?_
        refine z_oalen CX dX3_readCommand_17 (by decide) rfl ?_
        refine z_if_ne CX 23 dX3_readCommand_18 (by decide) (fun _ => ?_) (fun q9 => absurd q9 (by decide))
        refine z_aload_n CX 0 dX3_readCommand_23 rfl rfl ?_
        refine z_dup CX dX3_readCommand_24 rfl ?_
        refine z_get CX dX3_readCommand_25 fg_X3_22 xt_0 rfl ?_
        refine z_iconst CX (v := 1) dX3_readCommand_28 (by decide) ?_
        refine z_iadd CX dX3_readCommand_29 ?_
        rw [show upd s9 2 98 1 + 1 = nI (y + 1) from by show s9 1 + 1 = _; rw [h1]; exact ix_add (a := y) (b := 1) rfl rfl, ← hy0]
        refine z_put CX dX3_readCommand_30 fg_X3_22 fp_X3_3 xt_0 (Nat.le_of_ble_eq_true rfl) rfl rfl ?_
        refine z_heap xt_f1 ?_
        refine z_iconst CX (v := 0) dX3_readCommand_33 (by decide) ?_
        refine z_istore_n CX 2 dX3_readCommand_34 rfl (by decide) ?_
        refine z_iload_n CX 2 dX3_readCommand_35 rfl rfl ?_
        refine z_aload_n CX 0 dX3_readCommand_36 rfl rfl ?_
        refine z_get CX dX3_readCommand_37 fg_X3_15 xt_0 rfl ?_
        refine z_alen CX 0 dX3_readCommand_40 xt_2 rfl rfl ?_
        refine z_icmp_ge CX 98 dX3_readCommand_41 (by decide) (fun q9 => absurd q9 (show ¬ (4 : Int32) ≤ 0 by decide)) (fun _ => ?_)
        refine z_iconst CX (v := 3) dX3_readCommand_44 (by decide) ?_
        refine z_iload_n CX 2 dX3_readCommand_45 rfl rfl ?_
        refine z_imul CX dX3_readCommand_46 ?_
        refine z_iconst CX (v := 2) dX3_readCommand_47 (by decide) ?_
        refine z_iadd CX dX3_readCommand_48 ?_
        refine z_aload_n CX 1 dX3_readCommand_49 rfl rfl ?_
        refine z_oalen CX dX3_readCommand_50 (by decide) rfl ?_
        refine z_icmp_ge CX 98 dX3_readCommand_51 (by decide) (fun q9 => absurd q9 (by decide)) (fun _ => ?_)
        refine z_aload_n CX 0 dX3_readCommand_54 rfl rfl ?_
        refine z_aload_n CX 1 dX3_readCommand_55 rfl rfl ?_
        refine z_iconst CX (v := 3) dX3_readCommand_56 (by decide) ?_
        refine z_iload_n CX 2 dX3_readCommand_57 rfl rfl ?_
        refine z_imul CX dX3_readCommand_58 ?_
        refine z_oald CX (v := 1) dX3_readCommand_59 (by decide) (by unfold vp_in; decide) (by decide) ?_
        refine z_aload_n CX 1 dX3_readCommand_60 rfl rfl ?_
        refine z_iconst CX (v := 3) dX3_readCommand_61 (by decide) ?_
        refine z_iload_n CX 2 dX3_readCommand_62 rfl rfl ?_
        refine z_imul CX dX3_readCommand_63 ?_
        refine z_iconst CX (v := 1) dX3_readCommand_64 (by decide) ?_
        refine z_iadd CX dX3_readCommand_65 ?_
        refine z_oald CX (v := 1) dX3_readCommand_66 (by decide) (by unfold vp_in; decide) (by decide) ?_
        refine z_aload_n CX 1 dX3_readCommand_67 rfl rfl ?_
        refine z_iconst CX (v := 3) dX3_readCommand_68 (by decide) ?_
        refine z_iload_n CX 2 dX3_readCommand_69 rfl rfl ?_
        refine z_imul CX dX3_readCommand_70 ?_
        refine z_iconst CX (v := 2) dX3_readCommand_71 (by decide) ?_
        refine z_iadd CX dX3_readCommand_72 ?_
        refine z_oald CX (v := 9) dX3_readCommand_73 (by decide) (by unfold vp_in; decide) (by decide) ?_
        refine z_callV1 CX dX3_readCommand_74 cv_X3_50 (x_rn1 (s9 := (upd (upd s9 2 98) 1 (nI y0))) (y := y0) (a := 1) (b := 9) (show (upd (upd s9 2 98) 1 (nI y0)) 0 = nI len from h0) hl pk_us (by omega) (by decide) (by decide)) xt_0 rfl rfl (Nat.le_of_ble_eq_true rfl) ⟨Nat.le_of_ble_eq_true rfl, Nat.le_of_ble_eq_true rfl⟩ ⟨Nat.le_refl _, Nat.le_refl _⟩ ?_
        rw [upd_up9, show (if (dgS c9 len (nI 1) (nI 9) (y0, true)).2 = true then dgV c9 len (nI 1) (nI 9) (y0, true) else -1) = dgV c9 len (nI 1) (nI 9) (y0, true) from by rw [f1]; rfl, f1]
        refine z_istore_n CX 3 dX3_readCommand_77 rfl (by decide) ?_
        refine z_iload_n CX 3 dX3_readCommand_78 rfl rfl ?_
        refine z_iconst CX (v := (-1 : Int32)) dX3_readCommand_79 (by decide) ?_
        refine z_icmp_ne CX 85 dX3_readCommand_80 (by decide) (fun _ => ?_) (fun q9 => absurd q9 (dgV_nn (by decide) (by rw [f1])))
        refine z_aload_n CX 0 dX3_readCommand_85 rfl rfl ?_
        refine z_get CX dX3_readCommand_86 fg_X3_15 xt_0 rfl ?_
        refine z_iload_n CX 2 dX3_readCommand_89 rfl rfl ?_
        refine z_iload_n CX 3 dX3_readCommand_90 rfl rfl ?_
        refine z_is CX (j := 0) dX3_readCommand_91 xt_2 rfl (by omega) (by decide) ?_
        refine z_heap xt_d ?_
        refine z_iinc CX (v := 1) dX3_readCommand_92 rfl (by decide) (by decide) ?_
        refine z_goto CX 35 dX3_readCommand_95 (by decide) ?_
        refine z_iload_n CX 2 dX3_readCommand_35 rfl rfl ?_
        refine z_aload_n CX 0 dX3_readCommand_36 rfl rfl ?_
        refine z_get CX dX3_readCommand_37 fg_X3_15 xt_0 rfl ?_
        refine z_alen CX 0 dX3_readCommand_40 xt_2 rfl rfl ?_
        refine z_icmp_ge CX 98 dX3_readCommand_41 (by decide) (fun q9 => absurd q9 (show ¬ (4 : Int32) ≤ 1 by decide)) (fun _ => ?_)
        refine z_iconst CX (v := 3) dX3_readCommand_44 (by decide) ?_
        refine z_iload_n CX 2 dX3_readCommand_45 rfl rfl ?_
        refine z_imul CX dX3_readCommand_46 ?_
        refine z_iconst CX (v := 2) dX3_readCommand_47 (by decide) ?_
        refine z_iadd CX dX3_readCommand_48 ?_
        refine z_aload_n CX 1 dX3_readCommand_49 rfl rfl ?_
        refine z_oalen CX dX3_readCommand_50 (by decide) rfl ?_
        refine z_icmp_ge CX 98 dX3_readCommand_51 (by decide) (fun q9 => absurd q9 (by decide)) (fun _ => ?_)
        refine z_aload_n CX 0 dX3_readCommand_54 rfl rfl ?_
        refine z_aload_n CX 1 dX3_readCommand_55 rfl rfl ?_
        refine z_iconst CX (v := 3) dX3_readCommand_56 (by decide) ?_
        refine z_iload_n CX 2 dX3_readCommand_57 rfl rfl ?_
        refine z_imul CX dX3_readCommand_58 ?_
        refine z_oald CX (v := 1) dX3_readCommand_59 (by decide) (by unfold vp_in; decide) (by decide) ?_
        refine z_aload_n CX 1 dX3_readCommand_60 rfl rfl ?_
        refine z_iconst CX (v := 3) dX3_readCommand_61 (by decide) ?_
        refine z_iload_n CX 2 dX3_readCommand_62 rfl rfl ?_
        refine z_imul CX dX3_readCommand_63 ?_
        refine z_iconst CX (v := 1) dX3_readCommand_64 (by decide) ?_
        refine z_iadd CX dX3_readCommand_65 ?_
        refine z_oald CX (v := 0) dX3_readCommand_66 (by decide) (by unfold vp_in; decide) (by decide) ?_
        refine z_aload_n CX 1 dX3_readCommand_67 rfl rfl ?_
        refine z_iconst CX (v := 3) dX3_readCommand_68 (by decide) ?_
        refine z_iload_n CX 2 dX3_readCommand_69 rfl rfl ?_
        refine z_imul CX dX3_readCommand_70 ?_
        refine z_iconst CX (v := 2) dX3_readCommand_71 (by decide) ?_
        refine z_iadd CX dX3_readCommand_72 ?_
        refine z_oald CX (v := 3) dX3_readCommand_73 (by decide) (by unfold vp_in; decide) (by decide) ?_
        refine z_callV1 CX dX3_readCommand_74 cv_X3_50 (x_rn1 (s9 := (upd (upd s9 2 98) 1 (nI y1))) (y := y1) (a := 0) (b := 3) (show (upd (upd s9 2 98) 1 (nI y1)) 0 = nI len from h0) hl pk_us (by omega) (by decide) (by decide)) xt_0 rfl rfl (Nat.le_of_ble_eq_true rfl) ⟨Nat.le_of_ble_eq_true rfl, Nat.le_of_ble_eq_true rfl⟩ ⟨Nat.le_refl _, Nat.le_refl _⟩ ?_
        rw [upd_up9, show (if (dgS c9 len (nI 0) (nI 3) (y1, true)).2 = true then dgV c9 len (nI 0) (nI 3) (y1, true) else -1) = dgV c9 len (nI 0) (nI 3) (y1, true) from by rw [f2]; rfl, f2]
        refine z_istore_n CX 3 dX3_readCommand_77 rfl (by decide) ?_
        refine z_iload_n CX 3 dX3_readCommand_78 rfl rfl ?_
        refine z_iconst CX (v := (-1 : Int32)) dX3_readCommand_79 (by decide) ?_
        refine z_icmp_ne CX 85 dX3_readCommand_80 (by decide) (fun _ => ?_) (fun q9 => absurd q9 (dgV_nn (by decide) (by rw [f2])))
        refine z_aload_n CX 0 dX3_readCommand_85 rfl rfl ?_
        refine z_get CX dX3_readCommand_86 fg_X3_15 xt_0 rfl ?_
        refine z_iload_n CX 2 dX3_readCommand_89 rfl rfl ?_
        refine z_iload_n CX 3 dX3_readCommand_90 rfl rfl ?_
        refine z_is CX (j := 1) dX3_readCommand_91 xt_2 rfl (by omega) (by decide) ?_
        refine z_heap xt_d ?_
        refine z_iinc CX (v := 2) dX3_readCommand_92 rfl (by decide) (by decide) ?_
        refine z_goto CX 35 dX3_readCommand_95 (by decide) ?_
        refine z_iload_n CX 2 dX3_readCommand_35 rfl rfl ?_
        refine z_aload_n CX 0 dX3_readCommand_36 rfl rfl ?_
        refine z_get CX dX3_readCommand_37 fg_X3_15 xt_0 rfl ?_
        refine z_alen CX 0 dX3_readCommand_40 xt_2 rfl rfl ?_
        refine z_icmp_ge CX 98 dX3_readCommand_41 (by decide) (fun q9 => absurd q9 (show ¬ (4 : Int32) ≤ 2 by decide)) (fun _ => ?_)
        refine z_iconst CX (v := 3) dX3_readCommand_44 (by decide) ?_
        refine z_iload_n CX 2 dX3_readCommand_45 rfl rfl ?_
        refine z_imul CX dX3_readCommand_46 ?_
        refine z_iconst CX (v := 2) dX3_readCommand_47 (by decide) ?_
        refine z_iadd CX dX3_readCommand_48 ?_
        refine z_aload_n CX 1 dX3_readCommand_49 rfl rfl ?_
        refine z_oalen CX dX3_readCommand_50 (by decide) rfl ?_
        refine z_icmp_ge CX 98 dX3_readCommand_51 (by decide) (fun q9 => absurd q9 (by decide)) (fun _ => ?_)
        refine z_aload_n CX 0 dX3_readCommand_54 rfl rfl ?_
        refine z_aload_n CX 1 dX3_readCommand_55 rfl rfl ?_
        refine z_iconst CX (v := 3) dX3_readCommand_56 (by decide) ?_
        refine z_iload_n CX 2 dX3_readCommand_57 rfl rfl ?_
        refine z_imul CX dX3_readCommand_58 ?_
        refine z_oald CX (v := 1) dX3_readCommand_59 (by decide) (by unfold vp_in; decide) (by decide) ?_
        refine z_aload_n CX 1 dX3_readCommand_60 rfl rfl ?_
        refine z_iconst CX (v := 3) dX3_readCommand_61 (by decide) ?_
        refine z_iload_n CX 2 dX3_readCommand_62 rfl rfl ?_
        refine z_imul CX dX3_readCommand_63 ?_
        refine z_iconst CX (v := 1) dX3_readCommand_64 (by decide) ?_
        refine z_iadd CX dX3_readCommand_65 ?_
        refine z_oald CX (v := 0) dX3_readCommand_66 (by decide) (by unfold vp_in; decide) (by decide) ?_
        refine z_aload_n CX 1 dX3_readCommand_67 rfl rfl ?_
        refine z_iconst CX (v := 3) dX3_readCommand_68 (by decide) ?_
        refine z_iload_n CX 2 dX3_readCommand_69 rfl rfl ?_
        refine z_imul CX dX3_readCommand_70 ?_
        refine z_iconst CX (v := 2) dX3_readCommand_71 (by decide) ?_
        refine z_iadd CX dX3_readCommand_72 ?_
        refine z_oald CX (v := 3) dX3_readCommand_73 (by decide) (by unfold vp_in; decide) (by decide) ?_
        refine z_callV1 CX dX3_readCommand_74 cv_X3_50 (x_rn1 (s9 := (upd (upd s9 2 98) 1 (nI y2))) (y := y2) (a := 0) (b := 3) (show (upd (upd s9 2 98) 1 (nI y2)) 0 = nI len from h0) hl pk_us (by omega) (by decide) (by decide)) xt_0 rfl rfl (Nat.le_of_ble_eq_true rfl) ⟨Nat.le_of_ble_eq_true rfl, Nat.le_of_ble_eq_true rfl⟩ ⟨Nat.le_refl _, Nat.le_refl _⟩ ?_
        rw [upd_up9, show (if (dgS c9 len (nI 0) (nI 3) (y2, true)).2 = true then dgV c9 len (nI 0) (nI 3) (y2, true) else -1) = -1 from by rw [f3]; rfl, f3]
        refine z_istore_n CX 3 dX3_readCommand_77 rfl (by decide) ?_
        refine z_iload_n CX 3 dX3_readCommand_78 rfl rfl ?_
        refine z_iconst CX (v := (-1 : Int32)) dX3_readCommand_79 (by decide) ?_
        refine z_icmp_ne CX 85 dX3_readCommand_80 (by decide) (fun q9 => absurd q9 (fun z => z rfl)) (fun _ => ?_)
        refine z_iconst CX (v := 0) dX3_readCommand_83 (by decide) ?_
        exact z_zret CX dX3_readCommand_84 rfl (by first | rfl | exact bI_nar _) rfl rfl (Or.inl rfl)
    · obtain ⟨y2, e2⟩ : ∃ y2, dgS c9 len 0 3 (y1, true) = (y2, false) := ⟨(dgS c9 len 0 3 (y1, true)).1, Prod.ext rfl (Bool.eq_false_iff.mpr g2)⟩
      have f2 : dgS c9 len (nI 0) (nI 3) (y1, true) = (y2, false) := e2
      have ee : (pzB c9 len (y + 1)).1 = (y2, false) := by subst hy0; unfold pzB; simp only [e1, e2, dgS_w]
      rw [ee]
      refine ⟨(upd d9 0 (dgV c9 len (nI 1) (nI 9) (y0, true))), @fun l w hs n k s9 h0 h1 => ?_, fun q => absurd q Bool.false_ne_true⟩
      refine Cn.of (d := mX3_readCommand) (by decide +kernel) (Nat.le_of_ble_eq_true rfl) ?_
      intro p e R s m args below meth c CX
      replace CX : Ctx p s m args meth c R w RX3 "readCommand" cX3_readCommand 4 (some .boolean) 2 46 0 0 := CX
      show ZW p l e R s m args below meth c w 4 _ _ 0 0 (MQ below (Qn w _ _ _) args s 0 0 (wA w)) 0 [(0, .ref (wB w + k))] []
      refine z_aload_n CX 0 dX3_readCommand_0 rfl rfl ?_
      refine z_aload_n CX 0 dX3_readCommand_1 rfl rfl ?_
      refine z_callV1 CX dX3_readCommand_2 cv_X3_25 (x_hand h0 hl h1 (by omega)) xt_0 rfl rfl (Nat.le_of_ble_eq_true rfl) ⟨Nat.le_of_ble_eq_true rfl, Nat.le_of_ble_eq_true rfl⟩ ⟨Nat.le_refl _, Nat.le_refl _⟩ ?_
      rw [hz]
      refine z_put CX dX3_readCommand_5 fg_X3_33 fp_X3_4 xt_0 (Nat.le_of_ble_eq_true rfl) rfl rfl ?_
      refine z_heap xt_f2 ?_
      refine z_aload_n CX 0 dX3_readCommand_8 rfl rfl ?_
      refine z_get CX dX3_readCommand_9 fg_X3_33 xt_0 rfl ?_
      refine z_callS1 CX dX3_readCommand_12 cs_X3_46 x_nb_98 rfl rfl (Nat.le_of_ble_eq_true rfl) ⟨Nat.le_of_ble_eq_true rfl, Nat.le_of_ble_eq_true rfl⟩ ⟨Nat.le_refl _, Nat.le_refl _⟩ ?_
      refine z_astore_n CX 1 dX3_readCommand_15 rfl (by decide) ?_
      refine z_aload_n CX 1 dX3_readCommand_16 rfl rfl ?_
      refine z_oalen CX dX3_readCommand_17 (by decide) rfl ?_
      refine z_if_ne CX 23 dX3_readCommand_18 (by decide) (fun _ => ?_) (fun q9 => absurd q9 (by decide))
      refine z_aload_n CX 0 dX3_readCommand_23 rfl rfl ?_
      refine z_dup CX dX3_readCommand_24 rfl ?_
      refine z_get CX dX3_readCommand_25 fg_X3_22 xt_0 rfl ?_
      refine z_iconst CX (v := 1) dX3_readCommand_28 (by decide) ?_
      refine z_iadd CX dX3_readCommand_29 ?_
      rw [show upd s9 2 98 1 + 1 = nI (y + 1) from by show s9 1 + 1 = _; rw [h1]; exact ix_add (a := y) (b := 1) rfl rfl, ← hy0]
      refine z_put CX dX3_readCommand_30 fg_X3_22 fp_X3_3 xt_0 (Nat.le_of_ble_eq_true rfl) rfl rfl ?_
      refine z_heap xt_f1 ?_
      refine z_iconst CX (v := 0) dX3_readCommand_33 (by decide) ?_
      refine z_istore_n CX 2 dX3_readCommand_34 rfl (by decide) ?_
      refine z_iload_n CX 2 dX3_readCommand_35 rfl rfl ?_
      refine z_aload_n CX 0 dX3_readCommand_36 rfl rfl ?_
      refine z_get CX dX3_readCommand_37 fg_X3_15 xt_0 rfl ?_
      refine z_alen CX 0 dX3_readCommand_40 xt_2 rfl rfl ?_
      refine z_icmp_ge CX 98 dX3_readCommand_41 (by decide) (fun q9 => absurd q9 (show ¬ (4 : Int32) ≤ 0 by decide)) (fun _ => ?_)
      refine z_iconst CX (v := 3) dX3_readCommand_44 (by decide) ?_
      refine z_iload_n CX 2 dX3_readCommand_45 rfl rfl ?_
      refine z_imul CX dX3_readCommand_46 ?_
      refine z_iconst CX (v := 2) dX3_readCommand_47 (by decide) ?_
      refine z_iadd CX dX3_readCommand_48 ?_
      refine z_aload_n CX 1 dX3_readCommand_49 rfl rfl ?_
      refine z_oalen CX dX3_readCommand_50 (by decide) rfl ?_
      refine z_icmp_ge CX 98 dX3_readCommand_51 (by decide) (fun q9 => absurd q9 (by decide)) (fun _ => ?_)
      refine z_aload_n CX 0 dX3_readCommand_54 rfl rfl ?_
      refine z_aload_n CX 1 dX3_readCommand_55 rfl rfl ?_
      refine z_iconst CX (v := 3) dX3_readCommand_56 (by decide) ?_
      refine z_iload_n CX 2 dX3_readCommand_57 rfl rfl ?_
      refine z_imul CX dX3_readCommand_58 ?_
      refine z_oald CX (v := 1) dX3_readCommand_59 (by decide) (by unfold vp_in; decide) (by decide) ?_
      refine z_aload_n CX 1 dX3_readCommand_60 rfl rfl ?_
      refine z_iconst CX (v := 3) dX3_readCommand_61 (by decide) ?_
      refine z_iload_n CX 2 dX3_readCommand_62 rfl rfl ?_
      refine z_imul CX dX3_readCommand_63 ?_
      refine z_iconst CX (v := 1) dX3_readCommand_64 (by decide) ?_
      refine z_iadd CX dX3_readCommand_65 ?_
      refine z_oald CX (v := 1) dX3_readCommand_66 (by decide) (by unfold vp_in; decide) (by decide) ?_
      refine z_aload_n CX 1 dX3_readCommand_67 rfl rfl ?_
      refine z_iconst CX (v := 3) dX3_readCommand_68 (by decide) ?_
      refine z_iload_n CX 2 dX3_readCommand_69 rfl rfl ?_
      refine z_imul CX dX3_readCommand_70 ?_
      refine z_iconst CX (v := 2) dX3_readCommand_71 (by decide) ?_
      refine z_iadd CX dX3_readCommand_72 ?_
      refine z_oald CX (v := 9) dX3_readCommand_73 (by decide) (by unfold vp_in; decide) (by decide) ?_
      refine z_callV1 CX dX3_readCommand_74 cv_X3_50 (x_rn1 (s9 := (upd (upd s9 2 98) 1 (nI y0))) (y := y0) (a := 1) (b := 9) (show (upd (upd s9 2 98) 1 (nI y0)) 0 = nI len from h0) hl pk_us (by omega) (by decide) (by decide)) xt_0 rfl rfl (Nat.le_of_ble_eq_true rfl) ⟨Nat.le_of_ble_eq_true rfl, Nat.le_of_ble_eq_true rfl⟩ ⟨Nat.le_refl _, Nat.le_refl _⟩ ?_
      rw [upd_up9, show (if (dgS c9 len (nI 1) (nI 9) (y0, true)).2 = true then dgV c9 len (nI 1) (nI 9) (y0, true) else -1) = dgV c9 len (nI 1) (nI 9) (y0, true) from by rw [f1]; rfl, f1]
      refine z_istore_n CX 3 dX3_readCommand_77 rfl (by decide) ?_
      refine z_iload_n CX 3 dX3_readCommand_78 rfl rfl ?_
      refine z_iconst CX (v := (-1 : Int32)) dX3_readCommand_79 (by decide) ?_
      refine z_icmp_ne CX 85 dX3_readCommand_80 (by decide) (fun _ => ?_) (fun q9 => absurd q9 (dgV_nn (by decide) (by rw [f1])))
      refine z_aload_n CX 0 dX3_readCommand_85 rfl rfl ?_
      refine z_get CX dX3_readCommand_86 fg_X3_15 xt_0 rfl ?_
      refine z_iload_n CX 2 dX3_readCommand_89 rfl rfl ?_
      refine z_iload_n CX 3 dX3_readCommand_90 rfl rfl ?_
      refine z_is CX (j := 0) dX3_readCommand_91 xt_2 rfl (by omega) (by decide) ?_
      refine z_heap xt_d ?_
      refine z_iinc CX (v := 1) dX3_readCommand_92 rfl (by decide) (by decide) ?_
      refine z_goto CX 35 dX3_readCommand_95 (by decide) ?_
      refine z_iload_n CX 2 dX3_readCommand_35 rfl rfl ?_
      refine z_aload_n CX 0 dX3_readCommand_36 rfl rfl ?_
      refine z_get CX dX3_readCommand_37 fg_X3_15 xt_0 rfl ?_
      refine z_alen CX 0 dX3_readCommand_40 xt_2 rfl rfl ?_
      refine z_icmp_ge CX 98 dX3_readCommand_41 (by decide) (fun q9 => absurd q9 (show ¬ (4 : Int32) ≤ 1 by decide)) (fun _ => ?_)
      refine z_iconst CX (v := 3) dX3_readCommand_44 (by decide) ?_
      refine z_iload_n CX 2 dX3_readCommand_45 rfl rfl ?_
      refine z_imul CX dX3_readCommand_46 ?_
      refine z_iconst CX (v := 2) dX3_readCommand_47 (by decide) ?_
      refine z_iadd CX dX3_readCommand_48 ?_
      refine z_aload_n CX 1 dX3_readCommand_49 rfl rfl ?_
      refine z_oalen CX dX3_readCommand_50 (by decide) rfl ?_
      refine z_icmp_ge CX 98 dX3_readCommand_51 (by decide) (fun q9 => absurd q9 (by decide)) (fun _ => ?_)
      refine z_aload_n CX 0 dX3_readCommand_54 rfl rfl ?_
      refine z_aload_n CX 1 dX3_readCommand_55 rfl rfl ?_
      refine z_iconst CX (v := 3) dX3_readCommand_56 (by decide) ?_
      refine z_iload_n CX 2 dX3_readCommand_57 rfl rfl ?_
      refine z_imul CX dX3_readCommand_58 ?_
      refine z_oald CX (v := 1) dX3_readCommand_59 (by decide) (by unfold vp_in; decide) (by decide) ?_
      refine z_aload_n CX 1 dX3_readCommand_60 rfl rfl ?_
      refine z_iconst CX (v := 3) dX3_readCommand_61 (by decide) ?_
      refine z_iload_n CX 2 dX3_readCommand_62 rfl rfl ?_
      refine z_imul CX dX3_readCommand_63 ?_
      refine z_iconst CX (v := 1) dX3_readCommand_64 (by decide) ?_
      refine z_iadd CX dX3_readCommand_65 ?_
      refine z_oald CX (v := 0) dX3_readCommand_66 (by decide) (by unfold vp_in; decide) (by decide) ?_
      refine z_aload_n CX 1 dX3_readCommand_67 rfl rfl ?_
      refine z_iconst CX (v := 3) dX3_readCommand_68 (by decide) ?_
      refine z_iload_n CX 2 dX3_readCommand_69 rfl rfl ?_
      refine z_imul CX dX3_readCommand_70 ?_
      refine z_iconst CX (v := 2) dX3_readCommand_71 (by decide) ?_
      refine z_iadd CX dX3_readCommand_72 ?_
      refine z_oald CX (v := 3) dX3_readCommand_73 (by decide) (by unfold vp_in; decide) (by decide) ?_
      refine z_callV1 CX dX3_readCommand_74 cv_X3_50 (x_rn1 (s9 := (upd (upd s9 2 98) 1 (nI y1))) (y := y1) (a := 0) (b := 3) (show (upd (upd s9 2 98) 1 (nI y1)) 0 = nI len from h0) hl pk_us (by omega) (by decide) (by decide)) xt_0 rfl rfl (Nat.le_of_ble_eq_true rfl) ⟨Nat.le_of_ble_eq_true rfl, Nat.le_of_ble_eq_true rfl⟩ ⟨Nat.le_refl _, Nat.le_refl _⟩ ?_
      rw [upd_up9, show (if (dgS c9 len (nI 0) (nI 3) (y1, true)).2 = true then dgV c9 len (nI 0) (nI 3) (y1, true) else -1) = -1 from by rw [f2]; rfl, f2]
      refine z_istore_n CX 3 dX3_readCommand_77 rfl (by decide) ?_
      refine z_iload_n CX 3 dX3_readCommand_78 rfl rfl ?_
      refine z_iconst CX (v := (-1 : Int32)) dX3_readCommand_79 (by decide) ?_
      refine z_icmp_ne CX 85 dX3_readCommand_80 (by decide) (fun q9 => absurd q9 (fun z => z rfl)) (fun _ => ?_)
      refine z_iconst CX (v := 0) dX3_readCommand_83 (by decide) ?_
      exact z_zret CX dX3_readCommand_84 rfl (by first | rfl | exact bI_nar _) rfl rfl (Or.inl rfl)
  · obtain ⟨y1, e1⟩ : ∃ y1, dgS c9 len 1 9 (y0, true) = (y1, false) := ⟨(dgS c9 len 1 9 (y0, true)).1, Prod.ext rfl (Bool.eq_false_iff.mpr g1)⟩
    have f1 : dgS c9 len (nI 1) (nI 9) (y0, true) = (y1, false) := e1
    have ee : (pzB c9 len (y + 1)).1 = (y1, false) := by subst hy0; unfold pzB; simp only [e1, dgS_w]
    rw [ee]
    refine ⟨d9, @fun l w hs n k s9 h0 h1 => ?_, fun q => absurd q Bool.false_ne_true⟩
    refine Cn.of (d := mX3_readCommand) (by decide +kernel) (Nat.le_of_ble_eq_true rfl) ?_
    intro p e R s m args below meth c CX
    replace CX : Ctx p s m args meth c R w RX3 "readCommand" cX3_readCommand 4 (some .boolean) 2 46 0 0 := CX
    show ZW p l e R s m args below meth c w 4 _ _ 0 0 (MQ below (Qn w _ _ _) args s 0 0 (wA w)) 0 [(0, .ref (wB w + k))] []
    refine z_aload_n CX 0 dX3_readCommand_0 rfl rfl ?_
    refine z_aload_n CX 0 dX3_readCommand_1 rfl rfl ?_
    refine z_callV1 CX dX3_readCommand_2 cv_X3_25 (x_hand h0 hl h1 (by omega)) xt_0 rfl rfl (Nat.le_of_ble_eq_true rfl) ⟨Nat.le_of_ble_eq_true rfl, Nat.le_of_ble_eq_true rfl⟩ ⟨Nat.le_refl _, Nat.le_refl _⟩ ?_
    rw [hz]
    refine z_put CX dX3_readCommand_5 fg_X3_33 fp_X3_4 xt_0 (Nat.le_of_ble_eq_true rfl) rfl rfl ?_
    refine z_heap xt_f2 ?_
    refine z_aload_n CX 0 dX3_readCommand_8 rfl rfl ?_
    refine z_get CX dX3_readCommand_9 fg_X3_33 xt_0 rfl ?_
    refine z_callS1 CX dX3_readCommand_12 cs_X3_46 x_nb_98 rfl rfl (Nat.le_of_ble_eq_true rfl) ⟨Nat.le_of_ble_eq_true rfl, Nat.le_of_ble_eq_true rfl⟩ ⟨Nat.le_refl _, Nat.le_refl _⟩ ?_
    refine z_astore_n CX 1 dX3_readCommand_15 rfl (by decide) ?_
    refine z_aload_n CX 1 dX3_readCommand_16 rfl rfl ?_
    refine z_oalen CX dX3_readCommand_17 (by decide) rfl ?_
    refine z_if_ne CX 23 dX3_readCommand_18 (by decide) (fun _ => ?_) (fun q9 => absurd q9 (by decide))
    refine z_aload_n CX 0 dX3_readCommand_23 rfl rfl ?_
    refine z_dup CX dX3_readCommand_24 rfl ?_
    refine z_get CX dX3_readCommand_25 fg_X3_22 xt_0 rfl ?_
    refine z_iconst CX (v := 1) dX3_readCommand_28 (by decide) ?_
    refine z_iadd CX dX3_readCommand_29 ?_
    rw [show upd s9 2 98 1 + 1 = nI (y + 1) from by show s9 1 + 1 = _; rw [h1]; exact ix_add (a := y) (b := 1) rfl rfl, ← hy0]
    refine z_put CX dX3_readCommand_30 fg_X3_22 fp_X3_3 xt_0 (Nat.le_of_ble_eq_true rfl) rfl rfl ?_
    refine z_heap xt_f1 ?_
    refine z_iconst CX (v := 0) dX3_readCommand_33 (by decide) ?_
    refine z_istore_n CX 2 dX3_readCommand_34 rfl (by decide) ?_
    refine z_iload_n CX 2 dX3_readCommand_35 rfl rfl ?_
    refine z_aload_n CX 0 dX3_readCommand_36 rfl rfl ?_
    refine z_get CX dX3_readCommand_37 fg_X3_15 xt_0 rfl ?_
    refine z_alen CX 0 dX3_readCommand_40 xt_2 rfl rfl ?_
    refine z_icmp_ge CX 98 dX3_readCommand_41 (by decide) (fun q9 => absurd q9 (show ¬ (4 : Int32) ≤ 0 by decide)) (fun _ => ?_)
    refine z_iconst CX (v := 3) dX3_readCommand_44 (by decide) ?_
    refine z_iload_n CX 2 dX3_readCommand_45 rfl rfl ?_
    refine z_imul CX dX3_readCommand_46 ?_
    refine z_iconst CX (v := 2) dX3_readCommand_47 (by decide) ?_
    refine z_iadd CX dX3_readCommand_48 ?_
    refine z_aload_n CX 1 dX3_readCommand_49 rfl rfl ?_
    refine z_oalen CX dX3_readCommand_50 (by decide) rfl ?_
    refine z_icmp_ge CX 98 dX3_readCommand_51 (by decide) (fun q9 => absurd q9 (by decide)) (fun _ => ?_)
    refine z_aload_n CX 0 dX3_readCommand_54 rfl rfl ?_
    refine z_aload_n CX 1 dX3_readCommand_55 rfl rfl ?_
    refine z_iconst CX (v := 3) dX3_readCommand_56 (by decide) ?_
    refine z_iload_n CX 2 dX3_readCommand_57 rfl rfl ?_
    refine z_imul CX dX3_readCommand_58 ?_
    refine z_oald CX (v := 1) dX3_readCommand_59 (by decide) (by unfold vp_in; decide) (by decide) ?_
    refine z_aload_n CX 1 dX3_readCommand_60 rfl rfl ?_
    refine z_iconst CX (v := 3) dX3_readCommand_61 (by decide) ?_
    refine z_iload_n CX 2 dX3_readCommand_62 rfl rfl ?_
    refine z_imul CX dX3_readCommand_63 ?_
    refine z_iconst CX (v := 1) dX3_readCommand_64 (by decide) ?_
    refine z_iadd CX dX3_readCommand_65 ?_
    refine z_oald CX (v := 1) dX3_readCommand_66 (by decide) (by unfold vp_in; decide) (by decide) ?_
    refine z_aload_n CX 1 dX3_readCommand_67 rfl rfl ?_
    refine z_iconst CX (v := 3) dX3_readCommand_68 (by decide) ?_
    refine z_iload_n CX 2 dX3_readCommand_69 rfl rfl ?_
    refine z_imul CX dX3_readCommand_70 ?_
    refine z_iconst CX (v := 2) dX3_readCommand_71 (by decide) ?_
    refine z_iadd CX dX3_readCommand_72 ?_
    refine z_oald CX (v := 9) dX3_readCommand_73 (by decide) (by unfold vp_in; decide) (by decide) ?_
    refine z_callV1 CX dX3_readCommand_74 cv_X3_50 (x_rn1 (s9 := (upd (upd s9 2 98) 1 (nI y0))) (y := y0) (a := 1) (b := 9) (show (upd (upd s9 2 98) 1 (nI y0)) 0 = nI len from h0) hl pk_us (by omega) (by decide) (by decide)) xt_0 rfl rfl (Nat.le_of_ble_eq_true rfl) ⟨Nat.le_of_ble_eq_true rfl, Nat.le_of_ble_eq_true rfl⟩ ⟨Nat.le_refl _, Nat.le_refl _⟩ ?_
    rw [upd_up9, show (if (dgS c9 len (nI 1) (nI 9) (y0, true)).2 = true then dgV c9 len (nI 1) (nI 9) (y0, true) else -1) = -1 from by rw [f1]; rfl, f1]
    refine z_istore_n CX 3 dX3_readCommand_77 rfl (by decide) ?_
    refine z_iload_n CX 3 dX3_readCommand_78 rfl rfl ?_
    refine z_iconst CX (v := (-1 : Int32)) dX3_readCommand_79 (by decide) ?_
    refine z_icmp_ne CX 85 dX3_readCommand_80 (by decide) (fun q9 => absurd q9 (fun z => z rfl)) (fun _ => ?_)
    refine z_iconst CX (v := 0) dX3_readCommand_83 (by decide) ?_
    exact z_zret CX dX3_readCommand_84 rfl (by first | rfl | exact bI_nar _) rfl rfl (Or.inl rfl)
set_option maxHeartbeats 4000000 in
set_option maxRecDepth 100000 in
theorem x_rc_108 {c9 d9 : Nat → Int32} {len y : Nat} (hl : len ≤ 120) (hy : y < 200) (hz : hrF c9 len y = 108) : ∃ dd : Nat → Int32, (∀ {l : Launch} {w : Wt} {hs : Hs} {n : Option Nat} {k : Nat} {s9 : Nat → Int32}, s9 0 = nI len → s9 1 = nI y → Cn l w mX3_readCommand 0 0 [.ref (wB w + k)] (XT w hs k s9 c9 d9) n (XT w hs k (upd (upd s9 2 108) 1 (nI (pzL c9 len (y + 1)).1.1)) c9 dd) n (some (.int (bI (pzL c9 len (y + 1)).1.2)))) ∧ ((pzL c9 len (y + 1)).1.2 = true → dd 0 = (pzL c9 len (y + 1)).2.1 ∧ dd 1 = (pzL c9 len (y + 1)).2.2.1) := by
  obtain ⟨y0, hy0⟩ : ∃ y0, y0 = y + 1 := ⟨_, rfl⟩
  by_cases g1 : (dgS c9 len 0 9 (y0, true)).2 = true
  · obtain ⟨y1, e1⟩ : ∃ y1, dgS c9 len 0 9 (y0, true) = (y1, true) := ⟨(dgS c9 len 0 9 (y0, true)).1, Prod.ext rfl g1⟩
    have f1 : dgS c9 len (nI 0) (nI 9) (y0, true) = (y1, true) := e1
    have b1 : y1 ≤ y0 + 2 := by have q := (dgS_le (t := c9) (len := len) (lo := 0) (hi := 9) (q := (y0, true))).2; rw [e1] at q; show y1 ≤ (y0, true).1 + 2; omega
    by_cases g2 : (dgS c9 len 0 5 (y1, true)).2 = true
    · obtain ⟨y2, e2⟩ : ∃ y2, dgS c9 len 0 5 (y1, true) = (y2, true) := ⟨(dgS c9 len 0 5 (y1, true)).1, Prod.ext rfl g2⟩
      have f2 : dgS c9 len (nI 0) (nI 5) (y1, true) = (y2, true) := e2
      have b2 : y2 ≤ y1 + 2 := by have q := (dgS_le (t := c9) (len := len) (lo := 0) (hi := 5) (q := (y1, true))).2; rw [e2] at q; show y2 ≤ (y1, true).1 + 2; omega
      have ee : (pzL c9 len (y + 1)) = ((y2, true), dgV c9 len 0 9 (y0, true), dgV c9 len 0 5 (y1, true), 0, 0) := by subst hy0; unfold pzL; rw [e1, e2]
      rw [ee]
      refine ⟨(upd (upd d9 0 (dgV c9 len (nI 0) (nI 9) (y0, true))) 1 (dgV c9 len (nI 0) (nI 5) (y1, true))), @fun l w hs n k s9 h0 h1 => ?_, fun _ => ⟨rfl, rfl⟩⟩
      refine Cn.of (d := mX3_readCommand) (by decide +kernel) (Nat.le_of_ble_eq_true rfl) ?_
      intro p e R s m args below meth c CX
      replace CX : Ctx p s m args meth c R w RX3 "readCommand" cX3_readCommand 4 (some .boolean) 2 46 0 0 := CX
      show ZW p l e R s m args below meth c w 4 _ _ 0 0 (MQ below (Qn w _ _ _) args s 0 0 (wA w)) 0 [(0, .ref (wB w + k))] []
      refine z_aload_n CX 0 dX3_readCommand_0 rfl rfl ?_
      refine z_aload_n CX 0 dX3_readCommand_1 rfl rfl ?_
      refine z_callV1 CX dX3_readCommand_2 cv_X3_25 (x_hand h0 hl h1 (by omega)) xt_0 rfl rfl (Nat.le_of_ble_eq_true rfl) ⟨Nat.le_of_ble_eq_true rfl, Nat.le_of_ble_eq_true rfl⟩ ⟨Nat.le_refl _, Nat.le_refl _⟩ ?_
      rw [hz]
      refine z_put CX dX3_readCommand_5 fg_X3_33 fp_X3_4 xt_0 (Nat.le_of_ble_eq_true rfl) rfl rfl ?_
      refine z_heap xt_f2 ?_
      refine z_aload_n CX 0 dX3_readCommand_8 rfl rfl ?_
      refine z_get CX dX3_readCommand_9 fg_X3_33 xt_0 rfl ?_
      refine z_callS1 CX dX3_readCommand_12 cs_X3_46 x_nb_108 rfl rfl (Nat.le_of_ble_eq_true rfl) ⟨Nat.le_of_ble_eq_true rfl, Nat.le_of_ble_eq_true rfl⟩ ⟨Nat.le_refl _, Nat.le_refl _⟩ ?_
      refine z_astore_n CX 1 dX3_readCommand_15 rfl (by decide) ?_
      refine z_aload_n CX 1 dX3_readCommand_16 rfl rfl ?_
      refine z_oalen CX dX3_readCommand_17 (by decide) rfl ?_
      refine z_if_ne CX 23 dX3_readCommand_18 (by decide) (fun _ => ?_) (fun q9 => absurd q9 (by decide))
      refine z_aload_n CX 0 dX3_readCommand_23 rfl rfl ?_
      refine z_dup CX dX3_readCommand_24 rfl ?_
      refine z_get CX dX3_readCommand_25 fg_X3_22 xt_0 rfl ?_
      refine z_iconst CX (v := 1) dX3_readCommand_28 (by decide) ?_
      refine z_iadd CX dX3_readCommand_29 ?_
      rw [show upd s9 2 108 1 + 1 = nI (y + 1) from by show s9 1 + 1 = _; rw [h1]; exact ix_add (a := y) (b := 1) rfl rfl, ← hy0]
      refine z_put CX dX3_readCommand_30 fg_X3_22 fp_X3_3 xt_0 (Nat.le_of_ble_eq_true rfl) rfl rfl ?_
      refine z_heap xt_f1 ?_
      refine z_iconst CX (v := 0) dX3_readCommand_33 (by decide) ?_
      refine z_istore_n CX 2 dX3_readCommand_34 rfl (by decide) ?_
      refine z_iload_n CX 2 dX3_readCommand_35 rfl rfl ?_
      refine z_aload_n CX 0 dX3_readCommand_36 rfl rfl ?_
      refine z_get CX dX3_readCommand_37 fg_X3_15 xt_0 rfl ?_
      refine z_alen CX 0 dX3_readCommand_40 xt_2 rfl rfl ?_
      refine z_icmp_ge CX 98 dX3_readCommand_41 (by decide) (fun q9 => absurd q9 (show ¬ (4 : Int32) ≤ 0 by decide)) (fun _ => ?_)
      refine z_iconst CX (v := 3) dX3_readCommand_44 (by decide) ?_
      refine z_iload_n CX 2 dX3_readCommand_45 rfl rfl ?_
      refine z_imul CX dX3_readCommand_46 ?_
      refine z_iconst CX (v := 2) dX3_readCommand_47 (by decide) ?_
      refine z_iadd CX dX3_readCommand_48 ?_
      refine z_aload_n CX 1 dX3_readCommand_49 rfl rfl ?_
      refine z_oalen CX dX3_readCommand_50 (by decide) rfl ?_
      refine z_icmp_ge CX 98 dX3_readCommand_51 (by decide) (fun q9 => absurd q9 (by decide)) (fun _ => ?_)
      refine z_aload_n CX 0 dX3_readCommand_54 rfl rfl ?_
      refine z_aload_n CX 1 dX3_readCommand_55 rfl rfl ?_
      refine z_iconst CX (v := 3) dX3_readCommand_56 (by decide) ?_
      refine z_iload_n CX 2 dX3_readCommand_57 rfl rfl ?_
      refine z_imul CX dX3_readCommand_58 ?_
      refine z_oald CX (v := 1) dX3_readCommand_59 (by decide) (by unfold vp_in; decide) (by decide) ?_
      refine z_aload_n CX 1 dX3_readCommand_60 rfl rfl ?_
      refine z_iconst CX (v := 3) dX3_readCommand_61 (by decide) ?_
      refine z_iload_n CX 2 dX3_readCommand_62 rfl rfl ?_
      refine z_imul CX dX3_readCommand_63 ?_
      refine z_iconst CX (v := 1) dX3_readCommand_64 (by decide) ?_
      refine z_iadd CX dX3_readCommand_65 ?_
      refine z_oald CX (v := 0) dX3_readCommand_66 (by decide) (by unfold vp_in; decide) (by decide) ?_
      refine z_aload_n CX 1 dX3_readCommand_67 rfl rfl ?_
      refine z_iconst CX (v := 3) dX3_readCommand_68 (by decide) ?_
      refine z_iload_n CX 2 dX3_readCommand_69 rfl rfl ?_
      refine z_imul CX dX3_readCommand_70 ?_
      refine z_iconst CX (v := 2) dX3_readCommand_71 (by decide) ?_
      refine z_iadd CX dX3_readCommand_72 ?_
      refine z_oald CX (v := 9) dX3_readCommand_73 (by decide) (by unfold vp_in; decide) (by decide) ?_
      refine z_callV1 CX dX3_readCommand_74 cv_X3_50 (x_rn1 (s9 := (upd (upd s9 2 108) 1 (nI y0))) (y := y0) (a := 0) (b := 9) (show (upd (upd s9 2 108) 1 (nI y0)) 0 = nI len from h0) hl pk_us (by omega) (by decide) (by decide)) xt_0 rfl rfl (Nat.le_of_ble_eq_true rfl) ⟨Nat.le_of_ble_eq_true rfl, Nat.le_of_ble_eq_true rfl⟩ ⟨Nat.le_refl _, Nat.le_refl _⟩ ?_
      rw [upd_up9, show (if (dgS c9 len (nI 0) (nI 9) (y0, true)).2 = true then dgV c9 len (nI 0) (nI 9) (y0, true) else -1) = dgV c9 len (nI 0) (nI 9) (y0, true) from by rw [f1]; rfl, f1]
      refine z_istore_n CX 3 dX3_readCommand_77 rfl (by decide) ?_
      refine z_iload_n CX 3 dX3_readCommand_78 rfl rfl ?_
      refine z_iconst CX (v := (-1 : Int32)) dX3_readCommand_79 (by decide) ?_
      refine z_icmp_ne CX 85 dX3_readCommand_80 (by decide) (fun _ => ?_) (fun q9 => absurd q9 (dgV_nn (by decide) (by rw [f1])))
      refine z_aload_n CX 0 dX3_readCommand_85 rfl rfl ?_
      refine z_get CX dX3_readCommand_86 fg_X3_15 xt_0 rfl ?_
      refine z_iload_n CX 2 dX3_readCommand_89 rfl rfl ?_
      refine z_iload_n CX 3 dX3_readCommand_90 rfl rfl ?_
      refine z_is CX (j := 0) dX3_readCommand_91 xt_2 rfl (by omega) (by decide) ?_
      refine z_heap xt_d ?_
      refine z_iinc CX (v := 1) dX3_readCommand_92 rfl (by decide) (by decide) ?_
      refine z_goto CX 35 dX3_readCommand_95 (by decide) ?_
      refine z_iload_n CX 2 dX3_readCommand_35 rfl rfl ?_
      refine z_aload_n CX 0 dX3_readCommand_36 rfl rfl ?_
      refine z_get CX dX3_readCommand_37 fg_X3_15 xt_0 rfl ?_
      refine z_alen CX 0 dX3_readCommand_40 xt_2 rfl rfl ?_
      refine z_icmp_ge CX 98 dX3_readCommand_41 (by decide) (fun q9 => absurd q9 (show ¬ (4 : Int32) ≤ 1 by decide)) (fun _ => ?_)
      refine z_iconst CX (v := 3) dX3_readCommand_44 (by decide) ?_
      refine z_iload_n CX 2 dX3_readCommand_45 rfl rfl ?_
      refine z_imul CX dX3_readCommand_46 ?_
      refine z_iconst CX (v := 2) dX3_readCommand_47 (by decide) ?_
      refine z_iadd CX dX3_readCommand_48 ?_
      refine z_aload_n CX 1 dX3_readCommand_49 rfl rfl ?_
      refine z_oalen CX dX3_readCommand_50 (by decide) rfl ?_
      refine z_icmp_ge CX 98 dX3_readCommand_51 (by decide) (fun q9 => absurd q9 (by decide)) (fun _ => ?_)
      refine z_aload_n CX 0 dX3_readCommand_54 rfl rfl ?_
      refine z_aload_n CX 1 dX3_readCommand_55 rfl rfl ?_
      refine z_iconst CX (v := 3) dX3_readCommand_56 (by decide) ?_
      refine z_iload_n CX 2 dX3_readCommand_57 rfl rfl ?_
      refine z_imul CX dX3_readCommand_58 ?_
      refine z_oald CX (v := 1) dX3_readCommand_59 (by decide) (by unfold vp_in; decide) (by decide) ?_
      refine z_aload_n CX 1 dX3_readCommand_60 rfl rfl ?_
      refine z_iconst CX (v := 3) dX3_readCommand_61 (by decide) ?_
      refine z_iload_n CX 2 dX3_readCommand_62 rfl rfl ?_
      refine z_imul CX dX3_readCommand_63 ?_
      refine z_iconst CX (v := 1) dX3_readCommand_64 (by decide) ?_
      refine z_iadd CX dX3_readCommand_65 ?_
      refine z_oald CX (v := 0) dX3_readCommand_66 (by decide) (by unfold vp_in; decide) (by decide) ?_
      refine z_aload_n CX 1 dX3_readCommand_67 rfl rfl ?_
      refine z_iconst CX (v := 3) dX3_readCommand_68 (by decide) ?_
      refine z_iload_n CX 2 dX3_readCommand_69 rfl rfl ?_
      refine z_imul CX dX3_readCommand_70 ?_
      refine z_iconst CX (v := 2) dX3_readCommand_71 (by decide) ?_
      refine z_iadd CX dX3_readCommand_72 ?_
      refine z_oald CX (v := 5) dX3_readCommand_73 (by decide) (by unfold vp_in; decide) (by decide) ?_
      refine z_callV1 CX dX3_readCommand_74 cv_X3_50 (x_rn1 (s9 := (upd (upd s9 2 108) 1 (nI y1))) (y := y1) (a := 0) (b := 5) (show (upd (upd s9 2 108) 1 (nI y1)) 0 = nI len from h0) hl pk_us (by omega) (by decide) (by decide)) xt_0 rfl rfl (Nat.le_of_ble_eq_true rfl) ⟨Nat.le_of_ble_eq_true rfl, Nat.le_of_ble_eq_true rfl⟩ ⟨Nat.le_refl _, Nat.le_refl _⟩ ?_
      rw [upd_up9, show (if (dgS c9 len (nI 0) (nI 5) (y1, true)).2 = true then dgV c9 len (nI 0) (nI 5) (y1, true) else -1) = dgV c9 len (nI 0) (nI 5) (y1, true) from by rw [f2]; rfl, f2]
      refine z_istore_n CX 3 dX3_readCommand_77 rfl (by decide) ?_
      refine z_iload_n CX 3 dX3_readCommand_78 rfl rfl ?_
      refine z_iconst CX (v := (-1 : Int32)) dX3_readCommand_79 (by decide) ?_
      refine z_icmp_ne CX 85 dX3_readCommand_80 (by decide) (fun _ => ?_) (fun q9 => absurd q9 (dgV_nn (by decide) (by rw [f2])))
      refine z_aload_n CX 0 dX3_readCommand_85 rfl rfl ?_
      refine z_get CX dX3_readCommand_86 fg_X3_15 xt_0 rfl ?_
      refine z_iload_n CX 2 dX3_readCommand_89 rfl rfl ?_
      refine z_iload_n CX 3 dX3_readCommand_90 rfl rfl ?_
      refine z_is CX (j := 1) dX3_readCommand_91 xt_2 rfl (by omega) (by decide) ?_
      refine z_heap xt_d ?_
      refine z_iinc CX (v := 2) dX3_readCommand_92 rfl (by decide) (by decide) ?_
      refine z_goto CX 35 dX3_readCommand_95 (by decide) ?_
      refine z_iload_n CX 2 dX3_readCommand_35 rfl rfl ?_
      refine z_aload_n CX 0 dX3_readCommand_36 rfl rfl ?_
      refine z_get CX dX3_readCommand_37 fg_X3_15 xt_0 rfl ?_
      refine z_alen CX 0 dX3_readCommand_40 xt_2 rfl rfl ?_
      refine z_icmp_ge CX 98 dX3_readCommand_41 (by decide) (fun q9 => absurd q9 (show ¬ (4 : Int32) ≤ 2 by decide)) (fun _ => ?_)
      refine z_iconst CX (v := 3) dX3_readCommand_44 (by decide) ?_
      refine z_iload_n CX 2 dX3_readCommand_45 rfl rfl ?_
      refine z_imul CX dX3_readCommand_46 ?_
      refine z_iconst CX (v := 2) dX3_readCommand_47 (by decide) ?_
      refine z_iadd CX dX3_readCommand_48 ?_
      refine z_aload_n CX 1 dX3_readCommand_49 rfl rfl ?_
      refine z_oalen CX dX3_readCommand_50 (by decide) rfl ?_
      refine z_icmp_ge CX 98 dX3_readCommand_51 (by decide) (fun _ => ?_) (fun q9 => absurd (by decide) q9)
      refine z_iconst CX (v := 1) dX3_readCommand_98 (by decide) ?_
      exact z_zret CX dX3_readCommand_99 rfl (by first | rfl | exact bI_nar _) rfl rfl (Or.inl rfl)
    · obtain ⟨y2, e2⟩ : ∃ y2, dgS c9 len 0 5 (y1, true) = (y2, false) := ⟨(dgS c9 len 0 5 (y1, true)).1, Prod.ext rfl (Bool.eq_false_iff.mpr g2)⟩
      have f2 : dgS c9 len (nI 0) (nI 5) (y1, true) = (y2, false) := e2
      have ee : (pzL c9 len (y + 1)).1 = (y2, false) := by subst hy0; unfold pzL; simp only [e1, e2]
      rw [ee]
      refine ⟨(upd d9 0 (dgV c9 len (nI 0) (nI 9) (y0, true))), @fun l w hs n k s9 h0 h1 => ?_, fun q => absurd q Bool.false_ne_true⟩
      refine Cn.of (d := mX3_readCommand) (by decide +kernel) (Nat.le_of_ble_eq_true rfl) ?_
      intro p e R s m args below meth c CX
      replace CX : Ctx p s m args meth c R w RX3 "readCommand" cX3_readCommand 4 (some .boolean) 2 46 0 0 := CX
      show ZW p l e R s m args below meth c w 4 _ _ 0 0 (MQ below (Qn w _ _ _) args s 0 0 (wA w)) 0 [(0, .ref (wB w + k))] []
      refine z_aload_n CX 0 dX3_readCommand_0 rfl rfl ?_
      refine z_aload_n CX 0 dX3_readCommand_1 rfl rfl ?_
      refine z_callV1 CX dX3_readCommand_2 cv_X3_25 (x_hand h0 hl h1 (by omega)) xt_0 rfl rfl (Nat.le_of_ble_eq_true rfl) ⟨Nat.le_of_ble_eq_true rfl, Nat.le_of_ble_eq_true rfl⟩ ⟨Nat.le_refl _, Nat.le_refl _⟩ ?_
      rw [hz]
      refine z_put CX dX3_readCommand_5 fg_X3_33 fp_X3_4 xt_0 (Nat.le_of_ble_eq_true rfl) rfl rfl ?_
      refine z_heap xt_f2 ?_
      refine z_aload_n CX 0 dX3_readCommand_8 rfl rfl ?_
      refine z_get CX dX3_readCommand_9 fg_X3_33 xt_0 rfl ?_
      refine z_callS1 CX dX3_readCommand_12 cs_X3_46 x_nb_108 rfl rfl (Nat.le_of_ble_eq_true rfl) ⟨Nat.le_of_ble_eq_true rfl, Nat.le_of_ble_eq_true rfl⟩ ⟨Nat.le_refl _, Nat.le_refl _⟩ ?_
      refine z_astore_n CX 1 dX3_readCommand_15 rfl (by decide) ?_
      refine z_aload_n CX 1 dX3_readCommand_16 rfl rfl ?_
      refine z_oalen CX dX3_readCommand_17 (by decide) rfl ?_
      refine z_if_ne CX 23 dX3_readCommand_18 (by decide) (fun _ => ?_) (fun q9 => absurd q9 (by decide))
      refine z_aload_n CX 0 dX3_readCommand_23 rfl rfl ?_
      refine z_dup CX dX3_readCommand_24 rfl ?_
      refine z_get CX dX3_readCommand_25 fg_X3_22 xt_0 rfl ?_
      refine z_iconst CX (v := 1) dX3_readCommand_28 (by decide) ?_
      refine z_iadd CX dX3_readCommand_29 ?_
      rw [show upd s9 2 108 1 + 1 = nI (y + 1) from by show s9 1 + 1 = _; rw [h1]; exact ix_add (a := y) (b := 1) rfl rfl, ← hy0]
      refine z_put CX dX3_readCommand_30 fg_X3_22 fp_X3_3 xt_0 (Nat.le_of_ble_eq_true rfl) rfl rfl ?_
      refine z_heap xt_f1 ?_
      refine z_iconst CX (v := 0) dX3_readCommand_33 (by decide) ?_
      refine z_istore_n CX 2 dX3_readCommand_34 rfl (by decide) ?_
      refine z_iload_n CX 2 dX3_readCommand_35 rfl rfl ?_
      refine z_aload_n CX 0 dX3_readCommand_36 rfl rfl ?_
      refine z_get CX dX3_readCommand_37 fg_X3_15 xt_0 rfl ?_
      refine z_alen CX 0 dX3_readCommand_40 xt_2 rfl rfl ?_
      refine z_icmp_ge CX 98 dX3_readCommand_41 (by decide) (fun q9 => absurd q9 (show ¬ (4 : Int32) ≤ 0 by decide)) (fun _ => ?_)
      refine z_iconst CX (v := 3) dX3_readCommand_44 (by decide) ?_
      refine z_iload_n CX 2 dX3_readCommand_45 rfl rfl ?_
      refine z_imul CX dX3_readCommand_46 ?_
      refine z_iconst CX (v := 2) dX3_readCommand_47 (by decide) ?_
      refine z_iadd CX dX3_readCommand_48 ?_
      refine z_aload_n CX 1 dX3_readCommand_49 rfl rfl ?_
      refine z_oalen CX dX3_readCommand_50 (by decide) rfl ?_
      refine z_icmp_ge CX 98 dX3_readCommand_51 (by decide) (fun q9 => absurd q9 (by decide)) (fun _ => ?_)
      refine z_aload_n CX 0 dX3_readCommand_54 rfl rfl ?_
      refine z_aload_n CX 1 dX3_readCommand_55 rfl rfl ?_
      refine z_iconst CX (v := 3) dX3_readCommand_56 (by decide) ?_
      refine z_iload_n CX 2 dX3_readCommand_57 rfl rfl ?_
      refine z_imul CX dX3_readCommand_58 ?_
      refine z_oald CX (v := 1) dX3_readCommand_59 (by decide) (by unfold vp_in; decide) (by decide) ?_
      refine z_aload_n CX 1 dX3_readCommand_60 rfl rfl ?_
      refine z_iconst CX (v := 3) dX3_readCommand_61 (by decide) ?_
      refine z_iload_n CX 2 dX3_readCommand_62 rfl rfl ?_
      refine z_imul CX dX3_readCommand_63 ?_
      refine z_iconst CX (v := 1) dX3_readCommand_64 (by decide) ?_
      refine z_iadd CX dX3_readCommand_65 ?_
      refine z_oald CX (v := 0) dX3_readCommand_66 (by decide) (by unfold vp_in; decide) (by decide) ?_
      refine z_aload_n CX 1 dX3_readCommand_67 rfl rfl ?_
      refine z_iconst CX (v := 3) dX3_readCommand_68 (by decide) ?_
      refine z_iload_n CX 2 dX3_readCommand_69 rfl rfl ?_
      refine z_imul CX dX3_readCommand_70 ?_
      refine z_iconst CX (v := 2) dX3_readCommand_71 (by decide) ?_
      refine z_iadd CX dX3_readCommand_72 ?_
      refine z_oald CX (v := 9) dX3_readCommand_73 (by decide) (by unfold vp_in; decide) (by decide) ?_
      refine z_callV1 CX dX3_readCommand_74 cv_X3_50 (x_rn1 (s9 := (upd (upd s9 2 108) 1 (nI y0))) (y := y0) (a := 0) (b := 9) (show (upd (upd s9 2 108) 1 (nI y0)) 0 = nI len from h0) hl pk_us (by omega) (by decide) (by decide)) xt_0 rfl rfl (Nat.le_of_ble_eq_true rfl) ⟨Nat.le_of_ble_eq_true rfl, Nat.le_of_ble_eq_true rfl⟩ ⟨Nat.le_refl _, Nat.le_refl _⟩ ?_
      rw [upd_up9, show (if (dgS c9 len (nI 0) (nI 9) (y0, true)).2 = true then dgV c9 len (nI 0) (nI 9) (y0, true) else -1) = dgV c9 len (nI 0) (nI 9) (y0, true) from by rw [f1]; rfl, f1]
      refine z_istore_n CX 3 dX3_readCommand_77 rfl (by decide) ?_
      refine z_iload_n CX 3 dX3_readCommand_78 rfl rfl ?_
      refine z_iconst CX (v := (-1 : Int32)) dX3_readCommand_79 (by decide) ?_
      refine z_icmp_ne CX 85 dX3_readCommand_80 (by decide) (fun _ => ?_) (fun q9 => absurd q9 (dgV_nn (by decide) (by rw [f1])))
      refine z_aload_n CX 0 dX3_readCommand_85 rfl rfl ?_
      refine z_get CX dX3_readCommand_86 fg_X3_15 xt_0 rfl ?_
      refine z_iload_n CX 2 dX3_readCommand_89 rfl rfl ?_
      refine z_iload_n CX 3 dX3_readCommand_90 rfl rfl ?_
      refine z_is CX (j := 0) dX3_readCommand_91 xt_2 rfl (by omega) (by decide) ?_
      refine z_heap xt_d ?_
      refine z_iinc CX (v := 1) dX3_readCommand_92 rfl (by decide) (by decide) ?_
      refine z_goto CX 35 dX3_readCommand_95 (by decide) ?_
      refine z_iload_n CX 2 dX3_readCommand_35 rfl rfl ?_
      refine z_aload_n CX 0 dX3_readCommand_36 rfl rfl ?_
      refine z_get CX dX3_readCommand_37 fg_X3_15 xt_0 rfl ?_
      refine z_alen CX 0 dX3_readCommand_40 xt_2 rfl rfl ?_
      refine z_icmp_ge CX 98 dX3_readCommand_41 (by decide) (fun q9 => absurd q9 (show ¬ (4 : Int32) ≤ 1 by decide)) (fun _ => ?_)
      refine z_iconst CX (v := 3) dX3_readCommand_44 (by decide) ?_
      refine z_iload_n CX 2 dX3_readCommand_45 rfl rfl ?_
      refine z_imul CX dX3_readCommand_46 ?_
      refine z_iconst CX (v := 2) dX3_readCommand_47 (by decide) ?_
      refine z_iadd CX dX3_readCommand_48 ?_
      refine z_aload_n CX 1 dX3_readCommand_49 rfl rfl ?_
      refine z_oalen CX dX3_readCommand_50 (by decide) rfl ?_
      refine z_icmp_ge CX 98 dX3_readCommand_51 (by decide) (fun q9 => absurd q9 (by decide)) (fun _ => ?_)
      refine z_aload_n CX 0 dX3_readCommand_54 rfl rfl ?_
      refine z_aload_n CX 1 dX3_readCommand_55 rfl rfl ?_
      refine z_iconst CX (v := 3) dX3_readCommand_56 (by decide) ?_
      refine z_iload_n CX 2 dX3_readCommand_57 rfl rfl ?_
      refine z_imul CX dX3_readCommand_58 ?_
      refine z_oald CX (v := 1) dX3_readCommand_59 (by decide) (by unfold vp_in; decide) (by decide) ?_
      refine z_aload_n CX 1 dX3_readCommand_60 rfl rfl ?_
      refine z_iconst CX (v := 3) dX3_readCommand_61 (by decide) ?_
      refine z_iload_n CX 2 dX3_readCommand_62 rfl rfl ?_
      refine z_imul CX dX3_readCommand_63 ?_
      refine z_iconst CX (v := 1) dX3_readCommand_64 (by decide) ?_
      refine z_iadd CX dX3_readCommand_65 ?_
      refine z_oald CX (v := 0) dX3_readCommand_66 (by decide) (by unfold vp_in; decide) (by decide) ?_
      refine z_aload_n CX 1 dX3_readCommand_67 rfl rfl ?_
      refine z_iconst CX (v := 3) dX3_readCommand_68 (by decide) ?_
      refine z_iload_n CX 2 dX3_readCommand_69 rfl rfl ?_
      refine z_imul CX dX3_readCommand_70 ?_
      refine z_iconst CX (v := 2) dX3_readCommand_71 (by decide) ?_
      refine z_iadd CX dX3_readCommand_72 ?_
      refine z_oald CX (v := 5) dX3_readCommand_73 (by decide) (by unfold vp_in; decide) (by decide) ?_
      refine z_callV1 CX dX3_readCommand_74 cv_X3_50 (x_rn1 (s9 := (upd (upd s9 2 108) 1 (nI y1))) (y := y1) (a := 0) (b := 5) (show (upd (upd s9 2 108) 1 (nI y1)) 0 = nI len from h0) hl pk_us (by omega) (by decide) (by decide)) xt_0 rfl rfl (Nat.le_of_ble_eq_true rfl) ⟨Nat.le_of_ble_eq_true rfl, Nat.le_of_ble_eq_true rfl⟩ ⟨Nat.le_refl _, Nat.le_refl _⟩ ?_
      rw [upd_up9, show (if (dgS c9 len (nI 0) (nI 5) (y1, true)).2 = true then dgV c9 len (nI 0) (nI 5) (y1, true) else -1) = -1 from by rw [f2]; rfl, f2]
      refine z_istore_n CX 3 dX3_readCommand_77 rfl (by decide) ?_
      refine z_iload_n CX 3 dX3_readCommand_78 rfl rfl ?_
      refine z_iconst CX (v := (-1 : Int32)) dX3_readCommand_79 (by decide) ?_
      refine z_icmp_ne CX 85 dX3_readCommand_80 (by decide) (fun q9 => absurd q9 (fun z => z rfl)) (fun _ => ?_)
      refine z_iconst CX (v := 0) dX3_readCommand_83 (by decide) ?_
      exact z_zret CX dX3_readCommand_84 rfl (by first | rfl | exact bI_nar _) rfl rfl (Or.inl rfl)
  · obtain ⟨y1, e1⟩ : ∃ y1, dgS c9 len 0 9 (y0, true) = (y1, false) := ⟨(dgS c9 len 0 9 (y0, true)).1, Prod.ext rfl (Bool.eq_false_iff.mpr g1)⟩
    have f1 : dgS c9 len (nI 0) (nI 9) (y0, true) = (y1, false) := e1
    have ee : (pzL c9 len (y + 1)).1 = (y1, false) := by subst hy0; unfold pzL; simp only [e1, dgS_w]
    rw [ee]
    refine ⟨d9, @fun l w hs n k s9 h0 h1 => ?_, fun q => absurd q Bool.false_ne_true⟩
    refine Cn.of (d := mX3_readCommand) (by decide +kernel) (Nat.le_of_ble_eq_true rfl) ?_
    intro p e R s m args below meth c CX
    replace CX : Ctx p s m args meth c R w RX3 "readCommand" cX3_readCommand 4 (some .boolean) 2 46 0 0 := CX
    show ZW p l e R s m args below meth c w 4 _ _ 0 0 (MQ below (Qn w _ _ _) args s 0 0 (wA w)) 0 [(0, .ref (wB w + k))] []
    refine z_aload_n CX 0 dX3_readCommand_0 rfl rfl ?_
    refine z_aload_n CX 0 dX3_readCommand_1 rfl rfl ?_
    refine z_callV1 CX dX3_readCommand_2 cv_X3_25 (x_hand h0 hl h1 (by omega)) xt_0 rfl rfl (Nat.le_of_ble_eq_true rfl) ⟨Nat.le_of_ble_eq_true rfl, Nat.le_of_ble_eq_true rfl⟩ ⟨Nat.le_refl _, Nat.le_refl _⟩ ?_
    rw [hz]
    refine z_put CX dX3_readCommand_5 fg_X3_33 fp_X3_4 xt_0 (Nat.le_of_ble_eq_true rfl) rfl rfl ?_
    refine z_heap xt_f2 ?_
    refine z_aload_n CX 0 dX3_readCommand_8 rfl rfl ?_
    refine z_get CX dX3_readCommand_9 fg_X3_33 xt_0 rfl ?_
    refine z_callS1 CX dX3_readCommand_12 cs_X3_46 x_nb_108 rfl rfl (Nat.le_of_ble_eq_true rfl) ⟨Nat.le_of_ble_eq_true rfl, Nat.le_of_ble_eq_true rfl⟩ ⟨Nat.le_refl _, Nat.le_refl _⟩ ?_
    refine z_astore_n CX 1 dX3_readCommand_15 rfl (by decide) ?_
    refine z_aload_n CX 1 dX3_readCommand_16 rfl rfl ?_
    refine z_oalen CX dX3_readCommand_17 (by decide) rfl ?_
    refine z_if_ne CX 23 dX3_readCommand_18 (by decide) (fun _ => ?_) (fun q9 => absurd q9 (by decide))
    refine z_aload_n CX 0 dX3_readCommand_23 rfl rfl ?_
    refine z_dup CX dX3_readCommand_24 rfl ?_
    refine z_get CX dX3_readCommand_25 fg_X3_22 xt_0 rfl ?_
    refine z_iconst CX (v := 1) dX3_readCommand_28 (by decide) ?_
    refine z_iadd CX dX3_readCommand_29 ?_
    rw [show upd s9 2 108 1 + 1 = nI (y + 1) from by show s9 1 + 1 = _; rw [h1]; exact ix_add (a := y) (b := 1) rfl rfl, ← hy0]
    refine z_put CX dX3_readCommand_30 fg_X3_22 fp_X3_3 xt_0 (Nat.le_of_ble_eq_true rfl) rfl rfl ?_
    refine z_heap xt_f1 ?_
    refine z_iconst CX (v := 0) dX3_readCommand_33 (by decide) ?_
    refine z_istore_n CX 2 dX3_readCommand_34 rfl (by decide) ?_
    refine z_iload_n CX 2 dX3_readCommand_35 rfl rfl ?_
    refine z_aload_n CX 0 dX3_readCommand_36 rfl rfl ?_
    refine z_get CX dX3_readCommand_37 fg_X3_15 xt_0 rfl ?_
    refine z_alen CX 0 dX3_readCommand_40 xt_2 rfl rfl ?_
    refine z_icmp_ge CX 98 dX3_readCommand_41 (by decide) (fun q9 => absurd q9 (show ¬ (4 : Int32) ≤ 0 by decide)) (fun _ => ?_)
    refine z_iconst CX (v := 3) dX3_readCommand_44 (by decide) ?_
    refine z_iload_n CX 2 dX3_readCommand_45 rfl rfl ?_
    refine z_imul CX dX3_readCommand_46 ?_
    refine z_iconst CX (v := 2) dX3_readCommand_47 (by decide) ?_
    refine z_iadd CX dX3_readCommand_48 ?_
    refine z_aload_n CX 1 dX3_readCommand_49 rfl rfl ?_
    refine z_oalen CX dX3_readCommand_50 (by decide) rfl ?_
    refine z_icmp_ge CX 98 dX3_readCommand_51 (by decide) (fun q9 => absurd q9 (by decide)) (fun _ => ?_)
    refine z_aload_n CX 0 dX3_readCommand_54 rfl rfl ?_
    refine z_aload_n CX 1 dX3_readCommand_55 rfl rfl ?_
    refine z_iconst CX (v := 3) dX3_readCommand_56 (by decide) ?_
    refine z_iload_n CX 2 dX3_readCommand_57 rfl rfl ?_
    refine z_imul CX dX3_readCommand_58 ?_
    refine z_oald CX (v := 1) dX3_readCommand_59 (by decide) (by unfold vp_in; decide) (by decide) ?_
    refine z_aload_n CX 1 dX3_readCommand_60 rfl rfl ?_
    refine z_iconst CX (v := 3) dX3_readCommand_61 (by decide) ?_
    refine z_iload_n CX 2 dX3_readCommand_62 rfl rfl ?_
    refine z_imul CX dX3_readCommand_63 ?_
    refine z_iconst CX (v := 1) dX3_readCommand_64 (by decide) ?_
    refine z_iadd CX dX3_readCommand_65 ?_
    refine z_oald CX (v := 0) dX3_readCommand_66 (by decide) (by unfold vp_in; decide) (by decide) ?_
    refine z_aload_n CX 1 dX3_readCommand_67 rfl rfl ?_
    refine z_iconst CX (v := 3) dX3_readCommand_68 (by decide) ?_
    refine z_iload_n CX 2 dX3_readCommand_69 rfl rfl ?_
    refine z_imul CX dX3_readCommand_70 ?_
    refine z_iconst CX (v := 2) dX3_readCommand_71 (by decide) ?_
    refine z_iadd CX dX3_readCommand_72 ?_
    refine z_oald CX (v := 9) dX3_readCommand_73 (by decide) (by unfold vp_in; decide) (by decide) ?_
    refine z_callV1 CX dX3_readCommand_74 cv_X3_50 (x_rn1 (s9 := (upd (upd s9 2 108) 1 (nI y0))) (y := y0) (a := 0) (b := 9) (show (upd (upd s9 2 108) 1 (nI y0)) 0 = nI len from h0) hl pk_us (by omega) (by decide) (by decide)) xt_0 rfl rfl (Nat.le_of_ble_eq_true rfl) ⟨Nat.le_of_ble_eq_true rfl, Nat.le_of_ble_eq_true rfl⟩ ⟨Nat.le_refl _, Nat.le_refl _⟩ ?_
    rw [upd_up9, show (if (dgS c9 len (nI 0) (nI 9) (y0, true)).2 = true then dgV c9 len (nI 0) (nI 9) (y0, true) else -1) = -1 from by rw [f1]; rfl, f1]
    refine z_istore_n CX 3 dX3_readCommand_77 rfl (by decide) ?_
    refine z_iload_n CX 3 dX3_readCommand_78 rfl rfl ?_
    refine z_iconst CX (v := (-1 : Int32)) dX3_readCommand_79 (by decide) ?_
    refine z_icmp_ne CX 85 dX3_readCommand_80 (by decide) (fun q9 => absurd q9 (fun z => z rfl)) (fun _ => ?_)
    refine z_iconst CX (v := 0) dX3_readCommand_83 (by decide) ?_
    exact z_zret CX dX3_readCommand_84 rfl (by first | rfl | exact bI_nar _) rfl rfl (Or.inl rfl)
set_option maxHeartbeats 4000000 in
set_option maxRecDepth 100000 in
theorem x_rc_109 {c9 d9 : Nat → Int32} {len y : Nat} (hl : len ≤ 120) (hy : y < 200) (hz : hrF c9 len y = 109) : ∃ dd : Nat → Int32, (∀ {l : Launch} {w : Wt} {hs : Hs} {n : Option Nat} {k : Nat} {s9 : Nat → Int32}, s9 0 = nI len → s9 1 = nI y → Cn l w mX3_readCommand 0 0 [.ref (wB w + k)] (XT w hs k s9 c9 d9) n (XT w hs k (upd (upd s9 2 109) 1 (nI (pzM c9 len (y + 1)).1.1)) c9 dd) n (some (.int (bI (pzM c9 len (y + 1)).1.2)))) ∧ ((pzM c9 len (y + 1)).1.2 = true → dd 0 = (pzM c9 len (y + 1)).2.1) := by
  obtain ⟨y0, hy0⟩ : ∃ y0, y0 = y + 1 := ⟨_, rfl⟩
  by_cases g1 : (twS c9 len 1 60 (y0, true)).2 = true
  · obtain ⟨y1, e1⟩ : ∃ y1, twS c9 len 1 60 (y0, true) = (y1, true) := ⟨(twS c9 len 1 60 (y0, true)).1, Prod.ext rfl g1⟩
    have f1 : twS c9 len (nI 1) (nI 60) (y0, true) = (y1, true) := e1
    have b1 : y1 ≤ y0 + 2 := by have q := (twS_le (t := c9) (len := len) (lo := 1) (hi := 60) (q := (y0, true))).2; rw [e1] at q; show y1 ≤ (y0, true).1 + 2; omega
    have ee : (pzM c9 len (y + 1)) = ((y1, true), twV c9 len 1 60 (y0, true), 0, 0, 0) := by subst hy0; unfold pzM; rw [e1]
    rw [ee]
    refine ⟨(upd d9 0 (twV c9 len (nI 1) (nI 60) (y0, true))), @fun l w hs n k s9 h0 h1 => ?_, fun _ => rfl⟩
    refine Cn.of (d := mX3_readCommand) (by decide +kernel) (Nat.le_of_ble_eq_true rfl) ?_
    intro p e R s m args below meth c CX
    replace CX : Ctx p s m args meth c R w RX3 "readCommand" cX3_readCommand 4 (some .boolean) 2 46 0 0 := CX
    show ZW p l e R s m args below meth c w 4 _ _ 0 0 (MQ below (Qn w _ _ _) args s 0 0 (wA w)) 0 [(0, .ref (wB w + k))] []
    refine z_aload_n CX 0 dX3_readCommand_0 rfl rfl ?_
    refine z_aload_n CX 0 dX3_readCommand_1 rfl rfl ?_
    refine z_callV1 CX dX3_readCommand_2 cv_X3_25 (x_hand h0 hl h1 (by omega)) xt_0 rfl rfl (Nat.le_of_ble_eq_true rfl) ⟨Nat.le_of_ble_eq_true rfl, Nat.le_of_ble_eq_true rfl⟩ ⟨Nat.le_refl _, Nat.le_refl _⟩ ?_
    rw [hz]
    refine z_put CX dX3_readCommand_5 fg_X3_33 fp_X3_4 xt_0 (Nat.le_of_ble_eq_true rfl) rfl rfl ?_
    refine z_heap xt_f2 ?_
    refine z_aload_n CX 0 dX3_readCommand_8 rfl rfl ?_
    refine z_get CX dX3_readCommand_9 fg_X3_33 xt_0 rfl ?_
    refine z_callS1 CX dX3_readCommand_12 cs_X3_46 x_nb_109 rfl rfl (Nat.le_of_ble_eq_true rfl) ⟨Nat.le_of_ble_eq_true rfl, Nat.le_of_ble_eq_true rfl⟩ ⟨Nat.le_refl _, Nat.le_refl _⟩ ?_
    refine z_astore_n CX 1 dX3_readCommand_15 rfl (by decide) ?_
    refine z_aload_n CX 1 dX3_readCommand_16 rfl rfl ?_
    refine z_oalen CX dX3_readCommand_17 (by decide) rfl ?_
    refine z_if_ne CX 23 dX3_readCommand_18 (by decide) (fun _ => ?_) (fun q9 => absurd q9 (by decide))
    refine z_aload_n CX 0 dX3_readCommand_23 rfl rfl ?_
    refine z_dup CX dX3_readCommand_24 rfl ?_
    refine z_get CX dX3_readCommand_25 fg_X3_22 xt_0 rfl ?_
    refine z_iconst CX (v := 1) dX3_readCommand_28 (by decide) ?_
    refine z_iadd CX dX3_readCommand_29 ?_
    rw [show upd s9 2 109 1 + 1 = nI (y + 1) from by show s9 1 + 1 = _; rw [h1]; exact ix_add (a := y) (b := 1) rfl rfl, ← hy0]
    refine z_put CX dX3_readCommand_30 fg_X3_22 fp_X3_3 xt_0 (Nat.le_of_ble_eq_true rfl) rfl rfl ?_
    refine z_heap xt_f1 ?_
    refine z_iconst CX (v := 0) dX3_readCommand_33 (by decide) ?_
    refine z_istore_n CX 2 dX3_readCommand_34 rfl (by decide) ?_
    refine z_iload_n CX 2 dX3_readCommand_35 rfl rfl ?_
    refine z_aload_n CX 0 dX3_readCommand_36 rfl rfl ?_
    refine z_get CX dX3_readCommand_37 fg_X3_15 xt_0 rfl ?_
    refine z_alen CX 0 dX3_readCommand_40 xt_2 rfl rfl ?_
    refine z_icmp_ge CX 98 dX3_readCommand_41 (by decide) (fun q9 => absurd q9 (show ¬ (4 : Int32) ≤ 0 by decide)) (fun _ => ?_)
    refine z_iconst CX (v := 3) dX3_readCommand_44 (by decide) ?_
    refine z_iload_n CX 2 dX3_readCommand_45 rfl rfl ?_
    refine z_imul CX dX3_readCommand_46 ?_
    refine z_iconst CX (v := 2) dX3_readCommand_47 (by decide) ?_
    refine z_iadd CX dX3_readCommand_48 ?_
    refine z_aload_n CX 1 dX3_readCommand_49 rfl rfl ?_
    refine z_oalen CX dX3_readCommand_50 (by decide) rfl ?_
    refine z_icmp_ge CX 98 dX3_readCommand_51 (by decide) (fun q9 => absurd q9 (by decide)) (fun _ => ?_)
    refine z_aload_n CX 0 dX3_readCommand_54 rfl rfl ?_
    refine z_aload_n CX 1 dX3_readCommand_55 rfl rfl ?_
    refine z_iconst CX (v := 3) dX3_readCommand_56 (by decide) ?_
    refine z_iload_n CX 2 dX3_readCommand_57 rfl rfl ?_
    refine z_imul CX dX3_readCommand_58 ?_
    refine z_oald CX (v := 10) dX3_readCommand_59 (by decide) (by unfold vp_in; decide) (by decide) ?_
    refine z_aload_n CX 1 dX3_readCommand_60 rfl rfl ?_
    refine z_iconst CX (v := 3) dX3_readCommand_61 (by decide) ?_
    refine z_iload_n CX 2 dX3_readCommand_62 rfl rfl ?_
    refine z_imul CX dX3_readCommand_63 ?_
    refine z_iconst CX (v := 1) dX3_readCommand_64 (by decide) ?_
    refine z_iadd CX dX3_readCommand_65 ?_
    refine z_oald CX (v := 1) dX3_readCommand_66 (by decide) (by unfold vp_in; decide) (by decide) ?_
    refine z_aload_n CX 1 dX3_readCommand_67 rfl rfl ?_
    refine z_iconst CX (v := 3) dX3_readCommand_68 (by decide) ?_
    refine z_iload_n CX 2 dX3_readCommand_69 rfl rfl ?_
    refine z_imul CX dX3_readCommand_70 ?_
    refine z_iconst CX (v := 2) dX3_readCommand_71 (by decide) ?_
    refine z_iadd CX dX3_readCommand_72 ?_
    refine z_oald CX (v := 60) dX3_readCommand_73 (by decide) (by unfold vp_in; decide) (by decide) ?_
    refine z_callV1 CX dX3_readCommand_74 cv_X3_50 (x_rn2 (s9 := (upd (upd s9 2 109) 1 (nI y0))) (y := y0) (a := 1) (b := 60) (show (upd (upd s9 2 109) 1 (nI y0)) 0 = nI len from h0) hl pk_us (by omega) (by decide) (by decide)) xt_0 rfl rfl (Nat.le_of_ble_eq_true rfl) ⟨Nat.le_of_ble_eq_true rfl, Nat.le_of_ble_eq_true rfl⟩ ⟨Nat.le_refl _, Nat.le_refl _⟩ ?_
    rw [upd_up9, show (if (twS c9 len (nI 1) (nI 60) (y0, true)).2 = true then twV c9 len (nI 1) (nI 60) (y0, true) else -1) = twV c9 len (nI 1) (nI 60) (y0, true) from by rw [f1]; rfl, f1]
    refine z_istore_n CX 3 dX3_readCommand_77 rfl (by decide) ?_
    refine z_iload_n CX 3 dX3_readCommand_78 rfl rfl ?_
    refine z_iconst CX (v := (-1 : Int32)) dX3_readCommand_79 (by decide) ?_
    refine z_icmp_ne CX 85 dX3_readCommand_80 (by decide) (fun _ => ?_) (fun q9 => absurd q9 (twV_nn (by decide) (by decide) (by rw [f1])))
    refine z_aload_n CX 0 dX3_readCommand_85 rfl rfl ?_
    refine z_get CX dX3_readCommand_86 fg_X3_15 xt_0 rfl ?_
    refine z_iload_n CX 2 dX3_readCommand_89 rfl rfl ?_
    refine z_iload_n CX 3 dX3_readCommand_90 rfl rfl ?_
    refine z_is CX (j := 0) dX3_readCommand_91 xt_2 rfl (by omega) (by decide) ?_
    refine z_heap xt_d ?_
    refine z_iinc CX (v := 1) dX3_readCommand_92 rfl (by decide) (by decide) ?_
    refine z_goto CX 35 dX3_readCommand_95 (by decide) ?_
    refine z_iload_n CX 2 dX3_readCommand_35 rfl rfl ?_
    refine z_aload_n CX 0 dX3_readCommand_36 rfl rfl ?_
    refine z_get CX dX3_readCommand_37 fg_X3_15 xt_0 rfl ?_
    refine z_alen CX 0 dX3_readCommand_40 xt_2 rfl rfl ?_
    refine z_icmp_ge CX 98 dX3_readCommand_41 (by decide) (fun q9 => absurd q9 (show ¬ (4 : Int32) ≤ 1 by decide)) (fun _ => ?_)
    refine z_iconst CX (v := 3) dX3_readCommand_44 (by decide) ?_
    refine z_iload_n CX 2 dX3_readCommand_45 rfl rfl ?_
    refine z_imul CX dX3_readCommand_46 ?_
    refine z_iconst CX (v := 2) dX3_readCommand_47 (by decide) ?_
    refine z_iadd CX dX3_readCommand_48 ?_
    refine z_aload_n CX 1 dX3_readCommand_49 rfl rfl ?_
    refine z_oalen CX dX3_readCommand_50 (by decide) rfl ?_
    refine z_icmp_ge CX 98 dX3_readCommand_51 (by decide) (fun _ => ?_) (fun q9 => absurd (by decide) q9)
    refine z_iconst CX (v := 1) dX3_readCommand_98 (by decide) ?_
    exact z_zret CX dX3_readCommand_99 rfl (by first | rfl | exact bI_nar _) rfl rfl (Or.inl rfl)
  · obtain ⟨y1, e1⟩ : ∃ y1, twS c9 len 1 60 (y0, true) = (y1, false) := ⟨(twS c9 len 1 60 (y0, true)).1, Prod.ext rfl (Bool.eq_false_iff.mpr g1)⟩
    have f1 : twS c9 len (nI 1) (nI 60) (y0, true) = (y1, false) := e1
    have ee : (pzM c9 len (y + 1)).1 = (y1, false) := by subst hy0; unfold pzM; simp only [e1]
    rw [ee]
    refine ⟨d9, @fun l w hs n k s9 h0 h1 => ?_, fun q => absurd q Bool.false_ne_true⟩
    refine Cn.of (d := mX3_readCommand) (by decide +kernel) (Nat.le_of_ble_eq_true rfl) ?_
    intro p e R s m args below meth c CX
    replace CX : Ctx p s m args meth c R w RX3 "readCommand" cX3_readCommand 4 (some .boolean) 2 46 0 0 := CX
    show ZW p l e R s m args below meth c w 4 _ _ 0 0 (MQ below (Qn w _ _ _) args s 0 0 (wA w)) 0 [(0, .ref (wB w + k))] []
    refine z_aload_n CX 0 dX3_readCommand_0 rfl rfl ?_
    refine z_aload_n CX 0 dX3_readCommand_1 rfl rfl ?_
    refine z_callV1 CX dX3_readCommand_2 cv_X3_25 (x_hand h0 hl h1 (by omega)) xt_0 rfl rfl (Nat.le_of_ble_eq_true rfl) ⟨Nat.le_of_ble_eq_true rfl, Nat.le_of_ble_eq_true rfl⟩ ⟨Nat.le_refl _, Nat.le_refl _⟩ ?_
    rw [hz]
    refine z_put CX dX3_readCommand_5 fg_X3_33 fp_X3_4 xt_0 (Nat.le_of_ble_eq_true rfl) rfl rfl ?_
    refine z_heap xt_f2 ?_
    refine z_aload_n CX 0 dX3_readCommand_8 rfl rfl ?_
    refine z_get CX dX3_readCommand_9 fg_X3_33 xt_0 rfl ?_
    refine z_callS1 CX dX3_readCommand_12 cs_X3_46 x_nb_109 rfl rfl (Nat.le_of_ble_eq_true rfl) ⟨Nat.le_of_ble_eq_true rfl, Nat.le_of_ble_eq_true rfl⟩ ⟨Nat.le_refl _, Nat.le_refl _⟩ ?_
    refine z_astore_n CX 1 dX3_readCommand_15 rfl (by decide) ?_
    refine z_aload_n CX 1 dX3_readCommand_16 rfl rfl ?_
    refine z_oalen CX dX3_readCommand_17 (by decide) rfl ?_
    refine z_if_ne CX 23 dX3_readCommand_18 (by decide) (fun _ => ?_) (fun q9 => absurd q9 (by decide))
    refine z_aload_n CX 0 dX3_readCommand_23 rfl rfl ?_
    refine z_dup CX dX3_readCommand_24 rfl ?_
    refine z_get CX dX3_readCommand_25 fg_X3_22 xt_0 rfl ?_
    refine z_iconst CX (v := 1) dX3_readCommand_28 (by decide) ?_
    refine z_iadd CX dX3_readCommand_29 ?_
    rw [show upd s9 2 109 1 + 1 = nI (y + 1) from by show s9 1 + 1 = _; rw [h1]; exact ix_add (a := y) (b := 1) rfl rfl, ← hy0]
    refine z_put CX dX3_readCommand_30 fg_X3_22 fp_X3_3 xt_0 (Nat.le_of_ble_eq_true rfl) rfl rfl ?_
    refine z_heap xt_f1 ?_
    refine z_iconst CX (v := 0) dX3_readCommand_33 (by decide) ?_
    refine z_istore_n CX 2 dX3_readCommand_34 rfl (by decide) ?_
    refine z_iload_n CX 2 dX3_readCommand_35 rfl rfl ?_
    refine z_aload_n CX 0 dX3_readCommand_36 rfl rfl ?_
    refine z_get CX dX3_readCommand_37 fg_X3_15 xt_0 rfl ?_
    refine z_alen CX 0 dX3_readCommand_40 xt_2 rfl rfl ?_
    refine z_icmp_ge CX 98 dX3_readCommand_41 (by decide) (fun q9 => absurd q9 (show ¬ (4 : Int32) ≤ 0 by decide)) (fun _ => ?_)
    refine z_iconst CX (v := 3) dX3_readCommand_44 (by decide) ?_
    refine z_iload_n CX 2 dX3_readCommand_45 rfl rfl ?_
    refine z_imul CX dX3_readCommand_46 ?_
    refine z_iconst CX (v := 2) dX3_readCommand_47 (by decide) ?_
    refine z_iadd CX dX3_readCommand_48 ?_
    refine z_aload_n CX 1 dX3_readCommand_49 rfl rfl ?_
    refine z_oalen CX dX3_readCommand_50 (by decide) rfl ?_
    refine z_icmp_ge CX 98 dX3_readCommand_51 (by decide) (fun q9 => absurd q9 (by decide)) (fun _ => ?_)
    refine z_aload_n CX 0 dX3_readCommand_54 rfl rfl ?_
    refine z_aload_n CX 1 dX3_readCommand_55 rfl rfl ?_
    refine z_iconst CX (v := 3) dX3_readCommand_56 (by decide) ?_
    refine z_iload_n CX 2 dX3_readCommand_57 rfl rfl ?_
    refine z_imul CX dX3_readCommand_58 ?_
    refine z_oald CX (v := 10) dX3_readCommand_59 (by decide) (by unfold vp_in; decide) (by decide) ?_
    refine z_aload_n CX 1 dX3_readCommand_60 rfl rfl ?_
    refine z_iconst CX (v := 3) dX3_readCommand_61 (by decide) ?_
    refine z_iload_n CX 2 dX3_readCommand_62 rfl rfl ?_
    refine z_imul CX dX3_readCommand_63 ?_
    refine z_iconst CX (v := 1) dX3_readCommand_64 (by decide) ?_
    refine z_iadd CX dX3_readCommand_65 ?_
    refine z_oald CX (v := 1) dX3_readCommand_66 (by decide) (by unfold vp_in; decide) (by decide) ?_
    refine z_aload_n CX 1 dX3_readCommand_67 rfl rfl ?_
    refine z_iconst CX (v := 3) dX3_readCommand_68 (by decide) ?_
    refine z_iload_n CX 2 dX3_readCommand_69 rfl rfl ?_
    refine z_imul CX dX3_readCommand_70 ?_
    refine z_iconst CX (v := 2) dX3_readCommand_71 (by decide) ?_
    refine z_iadd CX dX3_readCommand_72 ?_
    refine z_oald CX (v := 60) dX3_readCommand_73 (by decide) (by unfold vp_in; decide) (by decide) ?_
    refine z_callV1 CX dX3_readCommand_74 cv_X3_50 (x_rn2 (s9 := (upd (upd s9 2 109) 1 (nI y0))) (y := y0) (a := 1) (b := 60) (show (upd (upd s9 2 109) 1 (nI y0)) 0 = nI len from h0) hl pk_us (by omega) (by decide) (by decide)) xt_0 rfl rfl (Nat.le_of_ble_eq_true rfl) ⟨Nat.le_of_ble_eq_true rfl, Nat.le_of_ble_eq_true rfl⟩ ⟨Nat.le_refl _, Nat.le_refl _⟩ ?_
    rw [upd_up9, show (if (twS c9 len (nI 1) (nI 60) (y0, true)).2 = true then twV c9 len (nI 1) (nI 60) (y0, true) else -1) = -1 from by rw [f1]; rfl, f1]
    refine z_istore_n CX 3 dX3_readCommand_77 rfl (by decide) ?_
    refine z_iload_n CX 3 dX3_readCommand_78 rfl rfl ?_
    refine z_iconst CX (v := (-1 : Int32)) dX3_readCommand_79 (by decide) ?_
    refine z_icmp_ne CX 85 dX3_readCommand_80 (by decide) (fun q9 => absurd q9 (fun z => z rfl)) (fun _ => ?_)
    refine z_iconst CX (v := 0) dX3_readCommand_83 (by decide) ?_
    exact z_zret CX dX3_readCommand_84 rfl (by first | rfl | exact bI_nar _) rfl rfl (Or.inl rfl)
set_option maxHeartbeats 4000000 in
set_option maxRecDepth 100000 in
theorem x_rc_104 {c9 d9 : Nat → Int32} {len y : Nat} (hl : len ≤ 120) (hy : y < 200) (hz : hrF c9 len y = 104) : ∃ dd : Nat → Int32, (∀ {l : Launch} {w : Wt} {hs : Hs} {n : Option Nat} {k : Nat} {s9 : Nat → Int32}, s9 0 = nI len → s9 1 = nI y → Cn l w mX3_readCommand 0 0 [.ref (wB w + k)] (XT w hs k s9 c9 d9) n (XT w hs k (upd (upd s9 2 104) 1 (nI (pzH c9 len (y + 1)).1.1)) c9 dd) n (some (.int (bI (pzH c9 len (y + 1)).1.2)))) ∧ ((pzH c9 len (y + 1)).1.2 = true → dd 0 = (pzH c9 len (y + 1)).2.1 ∧ dd 1 = (pzH c9 len (y + 1)).2.2.1 ∧ dd 2 = (pzH c9 len (y + 1)).2.2.2.1) := by
  obtain ⟨y0, hy0⟩ : ∃ y0, y0 = y + 1 := ⟨_, rfl⟩
  by_cases g1 : (dgS c9 len 0 3 (y0, true)).2 = true
  · obtain ⟨y1, e1⟩ : ∃ y1, dgS c9 len 0 3 (y0, true) = (y1, true) := ⟨(dgS c9 len 0 3 (y0, true)).1, Prod.ext rfl g1⟩
    have f1 : dgS c9 len (nI 0) (nI 3) (y0, true) = (y1, true) := e1
    have b1 : y1 ≤ y0 + 2 := by have q := (dgS_le (t := c9) (len := len) (lo := 0) (hi := 3) (q := (y0, true))).2; rw [e1] at q; show y1 ≤ (y0, true).1 + 2; omega
    by_cases g2 : (dgS c9 len 0 5 (y1, true)).2 = true
    · obtain ⟨y2, e2⟩ : ∃ y2, dgS c9 len 0 5 (y1, true) = (y2, true) := ⟨(dgS c9 len 0 5 (y1, true)).1, Prod.ext rfl g2⟩
      have f2 : dgS c9 len (nI 0) (nI 5) (y1, true) = (y2, true) := e2
      have b2 : y2 ≤ y1 + 2 := by have q := (dgS_le (t := c9) (len := len) (lo := 0) (hi := 5) (q := (y1, true))).2; rw [e2] at q; show y2 ≤ (y1, true).1 + 2; omega
      by_cases g3 : (twS c9 len 0 39 (y2, true)).2 = true
      · obtain ⟨y3, e3⟩ : ∃ y3, twS c9 len 0 39 (y2, true) = (y3, true) := ⟨(twS c9 len 0 39 (y2, true)).1, Prod.ext rfl g3⟩
        have f3 : twS c9 len (nI 0) (nI 39) (y2, true) = (y3, true) := e3
        have b3 : y3 ≤ y2 + 2 := by have q := (twS_le (t := c9) (len := len) (lo := 0) (hi := 39) (q := (y2, true))).2; rw [e3] at q; show y3 ≤ (y2, true).1 + 2; omega
        have ee : (pzH c9 len (y + 1)) = ((y3, true), dgV c9 len 0 3 (y0, true), dgV c9 len 0 5 (y1, true), twV c9 len 0 39 (y2, true), 0) := by subst hy0; unfold pzH; rw [e1, e2, e3]
        rw [ee]
        refine ⟨(upd (upd (upd d9 0 (dgV c9 len (nI 0) (nI 3) (y0, true))) 1 (dgV c9 len (nI 0) (nI 5) (y1, true))) 2 (twV c9 len (nI 0) (nI 39) (y2, true))), @fun l w hs n k s9 h0 h1 => ?_, fun _ => ⟨rfl, rfl, rfl⟩⟩
        refine Cn.of (d := mX3_readCommand) (by decide +kernel) (Nat.le_of_ble_eq_true rfl) ?_
        intro p e R s m args below meth c CX
        replace CX : Ctx p s m args meth c R w RX3 "readCommand" cX3_readCommand 4 (some .boolean) 2 46 0 0 := CX
        show ZW p l e R s m args below meth c w 4 _ _ 0 0 (MQ below (Qn w _ _ _) args s 0 0 (wA w)) 0 [(0, .ref (wB w + k))] []
        refine z_aload_n CX 0 dX3_readCommand_0 rfl rfl ?_
        refine z_aload_n CX 0 dX3_readCommand_1 rfl rfl ?_
        refine z_callV1 CX dX3_readCommand_2 cv_X3_25 (x_hand h0 hl h1 (by omega)) xt_0 rfl rfl (Nat.le_of_ble_eq_true rfl) ⟨Nat.le_of_ble_eq_true rfl, Nat.le_of_ble_eq_true rfl⟩ ⟨Nat.le_refl _, Nat.le_refl _⟩ ?_
        rw [hz]
        refine z_put CX dX3_readCommand_5 fg_X3_33 fp_X3_4 xt_0 (Nat.le_of_ble_eq_true rfl) rfl rfl ?_
        refine z_heap xt_f2 ?_
        refine z_aload_n CX 0 dX3_readCommand_8 rfl rfl ?_
        refine z_get CX dX3_readCommand_9 fg_X3_33 xt_0 rfl ?_
        refine z_callS1 CX dX3_readCommand_12 cs_X3_46 x_nb_104 rfl rfl (Nat.le_of_ble_eq_true rfl) ⟨Nat.le_of_ble_eq_true rfl, Nat.le_of_ble_eq_true rfl⟩ ⟨Nat.le_refl _, Nat.le_refl _⟩ ?_
        refine z_astore_n CX 1 dX3_readCommand_15 rfl (by decide) ?_
        refine z_aload_n CX 1 dX3_readCommand_16 rfl rfl ?_
        refine z_oalen CX dX3_readCommand_17 (by decide) rfl ?_
        refine z_if_ne CX 23 dX3_readCommand_18 (by decide) (fun _ => ?_) (fun q9 => absurd q9 (by decide))
        refine z_aload_n CX 0 dX3_readCommand_23 rfl rfl ?_
        refine z_dup CX dX3_readCommand_24 rfl ?_
        refine z_get CX dX3_readCommand_25 fg_X3_22 xt_0 rfl ?_
        refine z_iconst CX (v := 1) dX3_readCommand_28 (by decide) ?_
        refine z_iadd CX dX3_readCommand_29 ?_
        rw [show upd s9 2 104 1 + 1 = nI (y + 1) from by show s9 1 + 1 = _; rw [h1]; exact ix_add (a := y) (b := 1) rfl rfl, ← hy0]
        refine z_put CX dX3_readCommand_30 fg_X3_22 fp_X3_3 xt_0 (Nat.le_of_ble_eq_true rfl) rfl rfl ?_
        refine z_heap xt_f1 ?_
        refine z_iconst CX (v := 0) dX3_readCommand_33 (by decide) ?_
        refine z_istore_n CX 2 dX3_readCommand_34 rfl (by decide) ?_
        refine z_iload_n CX 2 dX3_readCommand_35 rfl rfl ?_
        refine z_aload_n CX 0 dX3_readCommand_36 rfl rfl ?_
        refine z_get CX dX3_readCommand_37 fg_X3_15 xt_0 rfl ?_
        refine z_alen CX 0 dX3_readCommand_40 xt_2 rfl rfl ?_
        refine z_icmp_ge CX 98 dX3_readCommand_41 (by decide) (fun q9 => absurd q9 (show ¬ (4 : Int32) ≤ 0 by decide)) (fun _ => ?_)
        refine z_iconst CX (v := 3) dX3_readCommand_44 (by decide) ?_
        refine z_iload_n CX 2 dX3_readCommand_45 rfl rfl ?_
        refine z_imul CX dX3_readCommand_46 ?_
        refine z_iconst CX (v := 2) dX3_readCommand_47 (by decide) ?_
        refine z_iadd CX dX3_readCommand_48 ?_
        refine z_aload_n CX 1 dX3_readCommand_49 rfl rfl ?_
        refine z_oalen CX dX3_readCommand_50 (by decide) rfl ?_
        refine z_icmp_ge CX 98 dX3_readCommand_51 (by decide) (fun q9 => absurd q9 (by decide)) (fun _ => ?_)
        refine z_aload_n CX 0 dX3_readCommand_54 rfl rfl ?_
        refine z_aload_n CX 1 dX3_readCommand_55 rfl rfl ?_
        refine z_iconst CX (v := 3) dX3_readCommand_56 (by decide) ?_
        refine z_iload_n CX 2 dX3_readCommand_57 rfl rfl ?_
        refine z_imul CX dX3_readCommand_58 ?_
        refine z_oald CX (v := 1) dX3_readCommand_59 (by decide) (by unfold vp_in; decide) (by decide) ?_
        refine z_aload_n CX 1 dX3_readCommand_60 rfl rfl ?_
        refine z_iconst CX (v := 3) dX3_readCommand_61 (by decide) ?_
        refine z_iload_n CX 2 dX3_readCommand_62 rfl rfl ?_
        refine z_imul CX dX3_readCommand_63 ?_
        refine z_iconst CX (v := 1) dX3_readCommand_64 (by decide) ?_
        refine z_iadd CX dX3_readCommand_65 ?_
        refine z_oald CX (v := 0) dX3_readCommand_66 (by decide) (by unfold vp_in; decide) (by decide) ?_
        refine z_aload_n CX 1 dX3_readCommand_67 rfl rfl ?_
        refine z_iconst CX (v := 3) dX3_readCommand_68 (by decide) ?_
        refine z_iload_n CX 2 dX3_readCommand_69 rfl rfl ?_
        refine z_imul CX dX3_readCommand_70 ?_
        refine z_iconst CX (v := 2) dX3_readCommand_71 (by decide) ?_
        refine z_iadd CX dX3_readCommand_72 ?_
        refine z_oald CX (v := 3) dX3_readCommand_73 (by decide) (by unfold vp_in; decide) (by decide) ?_
        refine z_callV1 CX dX3_readCommand_74 cv_X3_50 (x_rn1 (s9 := (upd (upd s9 2 104) 1 (nI y0))) (y := y0) (a := 0) (b := 3) (show (upd (upd s9 2 104) 1 (nI y0)) 0 = nI len from h0) hl pk_us (by omega) (by decide) (by decide)) xt_0 rfl rfl (Nat.le_of_ble_eq_true rfl) ⟨Nat.le_of_ble_eq_true rfl, Nat.le_of_ble_eq_true rfl⟩ ⟨Nat.le_refl _, Nat.le_refl _⟩ ?_
        rw [upd_up9, show (if (dgS c9 len (nI 0) (nI 3) (y0, true)).2 = true then dgV c9 len (nI 0) (nI 3) (y0, true) else -1) = dgV c9 len (nI 0) (nI 3) (y0, true) from by rw [f1]; rfl, f1]
        refine z_istore_n CX 3 dX3_readCommand_77 rfl (by decide) ?_
        refine z_iload_n CX 3 dX3_readCommand_78 rfl rfl ?_
        refine z_iconst CX (v := (-1 : Int32)) dX3_readCommand_79 (by decide) ?_
        refine z_icmp_ne CX 85 dX3_readCommand_80 (by decide) (fun _ => ?_) (fun q9 => absurd q9 (dgV_nn (by decide) (by rw [f1])))
        refine z_aload_n CX 0 dX3_readCommand_85 rfl rfl ?_
        refine z_get CX dX3_readCommand_86 fg_X3_15 xt_0 rfl ?_
        refine z_iload_n CX 2 dX3_readCommand_89 rfl rfl ?_
        refine z_iload_n CX 3 dX3_readCommand_90 rfl rfl ?_
        refine z_is CX (j := 0) dX3_readCommand_91 xt_2 rfl (by omega) (by decide) ?_
        refine z_heap xt_d ?_
        refine z_iinc CX (v := 1) dX3_readCommand_92 rfl (by decide) (by decide) ?_
        refine z_goto CX 35 dX3_readCommand_95 (by decide) ?_
        refine z_iload_n CX 2 dX3_readCommand_35 rfl rfl ?_
        refine z_aload_n CX 0 dX3_readCommand_36 rfl rfl ?_
        refine z_get CX dX3_readCommand_37 fg_X3_15 xt_0 rfl ?_
        refine z_alen CX 0 dX3_readCommand_40 xt_2 rfl rfl ?_
        refine z_icmp_ge CX 98 dX3_readCommand_41 (by decide) (fun q9 => absurd q9 (show ¬ (4 : Int32) ≤ 1 by decide)) (fun _ => ?_)
        refine z_iconst CX (v := 3) dX3_readCommand_44 (by decide) ?_
        refine z_iload_n CX 2 dX3_readCommand_45 rfl rfl ?_
        refine z_imul CX dX3_readCommand_46 ?_
        refine z_iconst CX (v := 2) dX3_readCommand_47 (by decide) ?_
        refine z_iadd CX dX3_readCommand_48 ?_
        refine z_aload_n CX 1 dX3_readCommand_49 rfl rfl ?_
        refine z_oalen CX dX3_readCommand_50 (by decide) rfl ?_
        refine z_icmp_ge CX 98 dX3_readCommand_51 (by decide) (fun q9 => absurd q9 (by decide)) (fun _ => ?_)
        refine z_aload_n CX 0 dX3_readCommand_54 rfl rfl ?_
        refine z_aload_n CX 1 dX3_readCommand_55 rfl rfl ?_
        refine z_iconst CX (v := 3) dX3_readCommand_56 (by decide) ?_
        refine z_iload_n CX 2 dX3_readCommand_57 rfl rfl ?_
        refine z_imul CX dX3_readCommand_58 ?_
        refine z_oald CX (v := 1) dX3_readCommand_59 (by decide) (by unfold vp_in; decide) (by decide) ?_
        refine z_aload_n CX 1 dX3_readCommand_60 rfl rfl ?_
        refine z_iconst CX (v := 3) dX3_readCommand_61 (by decide) ?_
        refine z_iload_n CX 2 dX3_readCommand_62 rfl rfl ?_
        refine z_imul CX dX3_readCommand_63 ?_
        refine z_iconst CX (v := 1) dX3_readCommand_64 (by decide) ?_
        refine z_iadd CX dX3_readCommand_65 ?_
        refine z_oald CX (v := 0) dX3_readCommand_66 (by decide) (by unfold vp_in; decide) (by decide) ?_
        refine z_aload_n CX 1 dX3_readCommand_67 rfl rfl ?_
        refine z_iconst CX (v := 3) dX3_readCommand_68 (by decide) ?_
        refine z_iload_n CX 2 dX3_readCommand_69 rfl rfl ?_
        refine z_imul CX dX3_readCommand_70 ?_
        refine z_iconst CX (v := 2) dX3_readCommand_71 (by decide) ?_
        refine z_iadd CX dX3_readCommand_72 ?_
        refine z_oald CX (v := 5) dX3_readCommand_73 (by decide) (by unfold vp_in; decide) (by decide) ?_
        refine z_callV1 CX dX3_readCommand_74 cv_X3_50 (x_rn1 (s9 := (upd (upd s9 2 104) 1 (nI y1))) (y := y1) (a := 0) (b := 5) (show (upd (upd s9 2 104) 1 (nI y1)) 0 = nI len from h0) hl pk_us (by omega) (by decide) (by decide)) xt_0 rfl rfl (Nat.le_of_ble_eq_true rfl) ⟨Nat.le_of_ble_eq_true rfl, Nat.le_of_ble_eq_true rfl⟩ ⟨Nat.le_refl _, Nat.le_refl _⟩ ?_
        rw [upd_up9, show (if (dgS c9 len (nI 0) (nI 5) (y1, true)).2 = true then dgV c9 len (nI 0) (nI 5) (y1, true) else -1) = dgV c9 len (nI 0) (nI 5) (y1, true) from by rw [f2]; rfl, f2]
        refine z_istore_n CX 3 dX3_readCommand_77 rfl (by decide) ?_
        refine z_iload_n CX 3 dX3_readCommand_78 rfl rfl ?_
        refine z_iconst CX (v := (-1 : Int32)) dX3_readCommand_79 (by decide) ?_
        refine z_icmp_ne CX 85 dX3_readCommand_80 (by decide) (fun _ => ?_) (fun q9 => absurd q9 (dgV_nn (by decide) (by rw [f2])))
        refine z_aload_n CX 0 dX3_readCommand_85 rfl rfl ?_
        refine z_get CX dX3_readCommand_86 fg_X3_15 xt_0 rfl ?_
        refine z_iload_n CX 2 dX3_readCommand_89 rfl rfl ?_
        refine z_iload_n CX 3 dX3_readCommand_90 rfl rfl ?_
        refine z_is CX (j := 1) dX3_readCommand_91 xt_2 rfl (by omega) (by decide) ?_
        refine z_heap xt_d ?_
        refine z_iinc CX (v := 2) dX3_readCommand_92 rfl (by decide) (by decide) ?_
        refine z_goto CX 35 dX3_readCommand_95 (by decide) ?_
        refine z_iload_n CX 2 dX3_readCommand_35 rfl rfl ?_
        refine z_aload_n CX 0 dX3_readCommand_36 rfl rfl ?_
        refine z_get CX dX3_readCommand_37 fg_X3_15 xt_0 rfl ?_
        refine z_alen CX 0 dX3_readCommand_40 xt_2 rfl rfl ?_
        refine z_icmp_ge CX 98 dX3_readCommand_41 (by decide) (fun q9 => absurd q9 (show ¬ (4 : Int32) ≤ 2 by decide)) (fun _ => ?_)
        refine z_iconst CX (v := 3) dX3_readCommand_44 (by decide) ?_
        refine z_iload_n CX 2 dX3_readCommand_45 rfl rfl ?_
        refine z_imul CX dX3_readCommand_46 ?_
        refine z_iconst CX (v := 2) dX3_readCommand_47 (by decide) ?_
        refine z_iadd CX dX3_readCommand_48 ?_
        refine z_aload_n CX 1 dX3_readCommand_49 rfl rfl ?_
        refine z_oalen CX dX3_readCommand_50 (by decide) rfl ?_
        refine z_icmp_ge CX 98 dX3_readCommand_51 (by decide) (fun q9 => absurd q9 (by decide)) (fun _ => ?_)
        refine z_aload_n CX 0 dX3_readCommand_54 rfl rfl ?_
        refine z_aload_n CX 1 dX3_readCommand_55 rfl rfl ?_
        refine z_iconst CX (v := 3) dX3_readCommand_56 (by decide) ?_
        refine z_iload_n CX 2 dX3_readCommand_57 rfl rfl ?_
        refine z_imul CX dX3_readCommand_58 ?_
        refine z_oald CX (v := 10) dX3_readCommand_59 (by decide) (by unfold vp_in; decide) (by decide) ?_
        refine z_aload_n CX 1 dX3_readCommand_60 rfl rfl ?_
        refine z_iconst CX (v := 3) dX3_readCommand_61 (by decide) ?_
        refine z_iload_n CX 2 dX3_readCommand_62 rfl rfl ?_
        refine z_imul CX dX3_readCommand_63 ?_
        refine z_iconst CX (v := 1) dX3_readCommand_64 (by decide) ?_
        refine z_iadd CX dX3_readCommand_65 ?_
        refine z_oald CX (v := 0) dX3_readCommand_66 (by decide) (by unfold vp_in; decide) (by decide) ?_
        refine z_aload_n CX 1 dX3_readCommand_67 rfl rfl ?_
        refine z_iconst CX (v := 3) dX3_readCommand_68 (by decide) ?_
        refine z_iload_n CX 2 dX3_readCommand_69 rfl rfl ?_
        refine z_imul CX dX3_readCommand_70 ?_
        refine z_iconst CX (v := 2) dX3_readCommand_71 (by decide) ?_
        refine z_iadd CX dX3_readCommand_72 ?_
        refine z_oald CX (v := 39) dX3_readCommand_73 (by decide) (by unfold vp_in; decide) (by decide) ?_
        refine z_callV1 CX dX3_readCommand_74 cv_X3_50 (x_rn2 (s9 := (upd (upd s9 2 104) 1 (nI y2))) (y := y2) (a := 0) (b := 39) (show (upd (upd s9 2 104) 1 (nI y2)) 0 = nI len from h0) hl pk_us (by omega) (by decide) (by decide)) xt_0 rfl rfl (Nat.le_of_ble_eq_true rfl) ⟨Nat.le_of_ble_eq_true rfl, Nat.le_of_ble_eq_true rfl⟩ ⟨Nat.le_refl _, Nat.le_refl _⟩ ?_
        rw [upd_up9, show (if (twS c9 len (nI 0) (nI 39) (y2, true)).2 = true then twV c9 len (nI 0) (nI 39) (y2, true) else -1) = twV c9 len (nI 0) (nI 39) (y2, true) from by rw [f3]; rfl, f3]
        refine z_istore_n CX 3 dX3_readCommand_77 rfl (by decide) ?_
        refine z_iload_n CX 3 dX3_readCommand_78 rfl rfl ?_
        refine z_iconst CX (v := (-1 : Int32)) dX3_readCommand_79 (by decide) ?_
        refine z_icmp_ne CX 85 dX3_readCommand_80 (by decide) (fun _ => ?_) (fun q9 => absurd q9 (twV_nn (by decide) (by decide) (by rw [f3])))
        refine z_aload_n CX 0 dX3_readCommand_85 rfl rfl ?_
        refine z_get CX dX3_readCommand_86 fg_X3_15 xt_0 rfl ?_
        refine z_iload_n CX 2 dX3_readCommand_89 rfl rfl ?_
        refine z_iload_n CX 3 dX3_readCommand_90 rfl rfl ?_
        refine z_is CX (j := 2) dX3_readCommand_91 xt_2 rfl (by omega) (by decide) ?_
        refine z_heap xt_d ?_
        refine z_iinc CX (v := 3) dX3_readCommand_92 rfl (by decide) (by decide) ?_
        refine z_goto CX 35 dX3_readCommand_95 (by decide) ?_
        refine z_iload_n CX 2 dX3_readCommand_35 rfl rfl ?_
        refine z_aload_n CX 0 dX3_readCommand_36 rfl rfl ?_
        refine z_get CX dX3_readCommand_37 fg_X3_15 xt_0 rfl ?_
        refine z_alen CX 0 dX3_readCommand_40 xt_2 rfl rfl ?_
        refine z_icmp_ge CX 98 dX3_readCommand_41 (by decide) (fun q9 => absurd q9 (show ¬ (4 : Int32) ≤ 3 by decide)) (fun _ => ?_)
        refine z_iconst CX (v := 3) dX3_readCommand_44 (by decide) ?_
        refine z_iload_n CX 2 dX3_readCommand_45 rfl rfl ?_
        refine z_imul CX dX3_readCommand_46 ?_
        refine z_iconst CX (v := 2) dX3_readCommand_47 (by decide) ?_
        refine z_iadd CX dX3_readCommand_48 ?_
        refine z_aload_n CX 1 dX3_readCommand_49 rfl rfl ?_
        refine z_oalen CX dX3_readCommand_50 (by decide) rfl ?_
        refine z_icmp_ge CX 98 dX3_readCommand_51 (by decide) (fun _ => ?_) (fun q9 => absurd (by decide) q9)
        refine z_iconst CX (v := 1) dX3_readCommand_98 (by decide) ?_
        exact z_zret CX dX3_readCommand_99 rfl (by first | rfl | exact bI_nar _) rfl rfl (Or.inl rfl)
      · obtain ⟨y3, e3⟩ : ∃ y3, twS c9 len 0 39 (y2, true) = (y3, false) := ⟨(twS c9 len 0 39 (y2, true)).1, Prod.ext rfl (Bool.eq_false_iff.mpr g3)⟩
        have f3 : twS c9 len (nI 0) (nI 39) (y2, true) = (y3, false) := e3
        have ee : (pzH c9 len (y + 1)).1 = (y3, false) := by subst hy0; unfold pzH; simp only [e1, e2, e3]
        rw [ee]
        refine ⟨(upd (upd d9 0 (dgV c9 len (nI 0) (nI 3) (y0, true))) 1 (dgV c9 len (nI 0) (nI 5) (y1, true))), @fun l w hs n k s9 h0 h1 => ?_, fun q => absurd q Bool.false_ne_true⟩
        refine Cn.of (d := mX3_readCommand) (by decide +kernel) (Nat.le_of_ble_eq_true rfl) ?_
        intro p e R s m args below meth c CX
        replace CX : Ctx p s m args meth c R w RX3 "readCommand" cX3_readCommand 4 (some .boolean) 2 46 0 0 := CX
        show ZW p l e R s m args below meth c w 4 _ _ 0 0 (MQ below (Qn w _ _ _) args s 0 0 (wA w)) 0 [(0, .ref (wB w + k))] []
        refine z_aload_n CX 0 dX3_readCommand_0 rfl rfl ?_
        refine z_aload_n CX 0 dX3_readCommand_1 rfl rfl ?_
        refine z_callV1 CX dX3_readCommand_2 cv_X3_25 (x_hand h0 hl h1 (by omega)) xt_0 rfl rfl (Nat.le_of_ble_eq_true rfl) ⟨Nat.le_of_ble_eq_true rfl, Nat.le_of_ble_eq_true rfl⟩ ⟨Nat.le_refl _, Nat.le_refl _⟩ ?_
        rw [hz]
        refine z_put CX dX3_readCommand_5 fg_X3_33 fp_X3_4 xt_0 (Nat.le_of_ble_eq_true rfl) rfl rfl ?_
        refine z_heap xt_f2 ?_
        refine z_aload_n CX 0 dX3_readCommand_8 rfl rfl ?_
        refine z_get CX dX3_readCommand_9 fg_X3_33 xt_0 rfl ?_
        refine z_callS1 CX dX3_readCommand_12 cs_X3_46 x_nb_104 rfl rfl (Nat.le_of_ble_eq_true rfl) ⟨Nat.le_of_ble_eq_true rfl, Nat.le_of_ble_eq_true rfl⟩ ⟨Nat.le_refl _, Nat.le_refl _⟩ ?_
        refine z_astore_n CX 1 dX3_readCommand_15 rfl (by decide) ?_
        refine z_aload_n CX 1 dX3_readCommand_16 rfl rfl ?_
        refine z_oalen CX dX3_readCommand_17 (by decide) rfl ?_
        refine z_if_ne CX 23 dX3_readCommand_18 (by decide) (fun _ => ?_) (fun q9 => absurd q9 (by decide))
        refine z_aload_n CX 0 dX3_readCommand_23 rfl rfl ?_
        refine z_dup CX dX3_readCommand_24 rfl ?_
        refine z_get CX dX3_readCommand_25 fg_X3_22 xt_0 rfl ?_
        refine z_iconst CX (v := 1) dX3_readCommand_28 (by decide) ?_
        refine z_iadd CX dX3_readCommand_29 ?_
        rw [show upd s9 2 104 1 + 1 = nI (y + 1) from by show s9 1 + 1 = _; rw [h1]; exact ix_add (a := y) (b := 1) rfl rfl, ← hy0]
        refine z_put CX dX3_readCommand_30 fg_X3_22 fp_X3_3 xt_0 (Nat.le_of_ble_eq_true rfl) rfl rfl ?_
        refine z_heap xt_f1 ?_
        refine z_iconst CX (v := 0) dX3_readCommand_33 (by decide) ?_
        refine z_istore_n CX 2 dX3_readCommand_34 rfl (by decide) ?_
        refine z_iload_n CX 2 dX3_readCommand_35 rfl rfl ?_
        refine z_aload_n CX 0 dX3_readCommand_36 rfl rfl ?_
        refine z_get CX dX3_readCommand_37 fg_X3_15 xt_0 rfl ?_
        refine z_alen CX 0 dX3_readCommand_40 xt_2 rfl rfl ?_
        refine z_icmp_ge CX 98 dX3_readCommand_41 (by decide) (fun q9 => absurd q9 (show ¬ (4 : Int32) ≤ 0 by decide)) (fun _ => ?_)
        refine z_iconst CX (v := 3) dX3_readCommand_44 (by decide) ?_
        refine z_iload_n CX 2 dX3_readCommand_45 rfl rfl ?_
        refine z_imul CX dX3_readCommand_46 ?_
        refine z_iconst CX (v := 2) dX3_readCommand_47 (by decide) ?_
        refine z_iadd CX dX3_readCommand_48 ?_
        refine z_aload_n CX 1 dX3_readCommand_49 rfl rfl ?_
        refine z_oalen CX dX3_readCommand_50 (by decide) rfl ?_
        refine z_icmp_ge CX 98 dX3_readCommand_51 (by decide) (fun q9 => absurd q9 (by decide)) (fun _ => ?_)
        refine z_aload_n CX 0 dX3_readCommand_54 rfl rfl ?_
        refine z_aload_n CX 1 dX3_readCommand_55 rfl rfl ?_
        refine z_iconst CX (v := 3) dX3_readCommand_56 (by decide) ?_
        refine z_iload_n CX 2 dX3_readCommand_57 rfl rfl ?_
        refine z_imul CX dX3_readCommand_58 ?_
        refine z_oald CX (v := 1) dX3_readCommand_59 (by decide) (by unfold vp_in; decide) (by decide) ?_
        refine z_aload_n CX 1 dX3_readCommand_60 rfl rfl ?_
        refine z_iconst CX (v := 3) dX3_readCommand_61 (by decide) ?_
        refine z_iload_n CX 2 dX3_readCommand_62 rfl rfl ?_
        refine z_imul CX dX3_readCommand_63 ?_
        refine z_iconst CX (v := 1) dX3_readCommand_64 (by decide) ?_
        refine z_iadd CX dX3_readCommand_65 ?_
        refine z_oald CX (v := 0) dX3_readCommand_66 (by decide) (by unfold vp_in; decide) (by decide) ?_
        refine z_aload_n CX 1 dX3_readCommand_67 rfl rfl ?_
        refine z_iconst CX (v := 3) dX3_readCommand_68 (by decide) ?_
        refine z_iload_n CX 2 dX3_readCommand_69 rfl rfl ?_
        refine z_imul CX dX3_readCommand_70 ?_
        refine z_iconst CX (v := 2) dX3_readCommand_71 (by decide) ?_
        refine z_iadd CX dX3_readCommand_72 ?_
        refine z_oald CX (v := 3) dX3_readCommand_73 (by decide) (by unfold vp_in; decide) (by decide) ?_
        refine z_callV1 CX dX3_readCommand_74 cv_X3_50 (x_rn1 (s9 := (upd (upd s9 2 104) 1 (nI y0))) (y := y0) (a := 0) (b := 3) (show (upd (upd s9 2 104) 1 (nI y0)) 0 = nI len from h0) hl pk_us (by omega) (by decide) (by decide)) xt_0 rfl rfl (Nat.le_of_ble_eq_true rfl) ⟨Nat.le_of_ble_eq_true rfl, Nat.le_of_ble_eq_true rfl⟩ ⟨Nat.le_refl _, Nat.le_refl _⟩ ?_
        rw [upd_up9, show (if (dgS c9 len (nI 0) (nI 3) (y0, true)).2 = true then dgV c9 len (nI 0) (nI 3) (y0, true) else -1) = dgV c9 len (nI 0) (nI 3) (y0, true) from by rw [f1]; rfl, f1]
        refine z_istore_n CX 3 dX3_readCommand_77 rfl (by decide) ?_
        refine z_iload_n CX 3 dX3_readCommand_78 rfl rfl ?_
        refine z_iconst CX (v := (-1 : Int32)) dX3_readCommand_79 (by decide) ?_
        refine z_icmp_ne CX 85 dX3_readCommand_80 (by decide) (fun _ => ?_) (fun q9 => absurd q9 (dgV_nn (by decide) (by rw [f1])))
        refine z_aload_n CX 0 dX3_readCommand_85 rfl rfl ?_
        refine z_get CX dX3_readCommand_86 fg_X3_15 xt_0 rfl ?_
        refine z_iload_n CX 2 dX3_readCommand_89 rfl rfl ?_
        refine z_iload_n CX 3 dX3_readCommand_90 rfl rfl ?_
        refine z_is CX (j := 0) dX3_readCommand_91 xt_2 rfl (by omega) (by decide) ?_
        refine z_heap xt_d ?_
        refine z_iinc CX (v := 1) dX3_readCommand_92 rfl (by decide) (by decide) ?_
        refine z_goto CX 35 dX3_readCommand_95 (by decide) ?_
        refine z_iload_n CX 2 dX3_readCommand_35 rfl rfl ?_
        refine z_aload_n CX 0 dX3_readCommand_36 rfl rfl ?_
        refine z_get CX dX3_readCommand_37 fg_X3_15 xt_0 rfl ?_
        refine z_alen CX 0 dX3_readCommand_40 xt_2 rfl rfl ?_
        refine z_icmp_ge CX 98 dX3_readCommand_41 (by decide) (fun q9 => absurd q9 (show ¬ (4 : Int32) ≤ 1 by decide)) (fun _ => ?_)
        refine z_iconst CX (v := 3) dX3_readCommand_44 (by decide) ?_
        refine z_iload_n CX 2 dX3_readCommand_45 rfl rfl ?_
        refine z_imul CX dX3_readCommand_46 ?_
        refine z_iconst CX (v := 2) dX3_readCommand_47 (by decide) ?_
        refine z_iadd CX dX3_readCommand_48 ?_
        refine z_aload_n CX 1 dX3_readCommand_49 rfl rfl ?_
        refine z_oalen CX dX3_readCommand_50 (by decide) rfl ?_
        refine z_icmp_ge CX 98 dX3_readCommand_51 (by decide) (fun q9 => absurd q9 (by decide)) (fun _ => ?_)
        refine z_aload_n CX 0 dX3_readCommand_54 rfl rfl ?_
        refine z_aload_n CX 1 dX3_readCommand_55 rfl rfl ?_
        refine z_iconst CX (v := 3) dX3_readCommand_56 (by decide) ?_
        refine z_iload_n CX 2 dX3_readCommand_57 rfl rfl ?_
        refine z_imul CX dX3_readCommand_58 ?_
        refine z_oald CX (v := 1) dX3_readCommand_59 (by decide) (by unfold vp_in; decide) (by decide) ?_
        refine z_aload_n CX 1 dX3_readCommand_60 rfl rfl ?_
        refine z_iconst CX (v := 3) dX3_readCommand_61 (by decide) ?_
        refine z_iload_n CX 2 dX3_readCommand_62 rfl rfl ?_
        refine z_imul CX dX3_readCommand_63 ?_
        refine z_iconst CX (v := 1) dX3_readCommand_64 (by decide) ?_
        refine z_iadd CX dX3_readCommand_65 ?_
        refine z_oald CX (v := 0) dX3_readCommand_66 (by decide) (by unfold vp_in; decide) (by decide) ?_
        refine z_aload_n CX 1 dX3_readCommand_67 rfl rfl ?_
        refine z_iconst CX (v := 3) dX3_readCommand_68 (by decide) ?_
        refine z_iload_n CX 2 dX3_readCommand_69 rfl rfl ?_
        refine z_imul CX dX3_readCommand_70 ?_
        refine z_iconst CX (v := 2) dX3_readCommand_71 (by decide) ?_
        refine z_iadd CX dX3_readCommand_72 ?_
        refine z_oald CX (v := 5) dX3_readCommand_73 (by decide) (by unfold vp_in; decide) (by decide) ?_
        refine z_callV1 CX dX3_readCommand_74 cv_X3_50 (x_rn1 (s9 := (upd (upd s9 2 104) 1 (nI y1))) (y := y1) (a := 0) (b := 5) (show (upd (upd s9 2 104) 1 (nI y1)) 0 = nI len from h0) hl pk_us (by omega) (by decide) (by decide)) xt_0 rfl rfl (Nat.le_of_ble_eq_true rfl) ⟨Nat.le_of_ble_eq_true rfl, Nat.le_of_ble_eq_true rfl⟩ ⟨Nat.le_refl _, Nat.le_refl _⟩ ?_
        rw [upd_up9, show (if (dgS c9 len (nI 0) (nI 5) (y1, true)).2 = true then dgV c9 len (nI 0) (nI 5) (y1, true) else -1) = dgV c9 len (nI 0) (nI 5) (y1, true) from by rw [f2]; rfl, f2]
        refine z_istore_n CX 3 dX3_readCommand_77 rfl (by decide) ?_
        refine z_iload_n CX 3 dX3_readCommand_78 rfl rfl ?_
        refine z_iconst CX (v := (-1 : Int32)) dX3_readCommand_79 (by decide) ?_
        refine z_icmp_ne CX 85 dX3_readCommand_80 (by decide) (fun _ => ?_) (fun q9 => absurd q9 (dgV_nn (by decide) (by rw [f2])))
        refine z_aload_n CX 0 dX3_readCommand_85 rfl rfl ?_
        refine z_get CX dX3_readCommand_86 fg_X3_15 xt_0 rfl ?_
        refine z_iload_n CX 2 dX3_readCommand_89 rfl rfl ?_
        refine z_iload_n CX 3 dX3_readCommand_90 rfl rfl ?_
        refine z_is CX (j := 1) dX3_readCommand_91 xt_2 rfl (by omega) (by decide) ?_
        refine z_heap xt_d ?_
        refine z_iinc CX (v := 2) dX3_readCommand_92 rfl (by decide) (by decide) ?_
        refine z_goto CX 35 dX3_readCommand_95 (by decide) ?_
        refine z_iload_n CX 2 dX3_readCommand_35 rfl rfl ?_
        refine z_aload_n CX 0 dX3_readCommand_36 rfl rfl ?_
        refine z_get CX dX3_readCommand_37 fg_X3_15 xt_0 rfl ?_
        refine z_alen CX 0 dX3_readCommand_40 xt_2 rfl rfl ?_
        refine z_icmp_ge CX 98 dX3_readCommand_41 (by decide) (fun q9 => absurd q9 (show ¬ (4 : Int32) ≤ 2 by decide)) (fun _ => ?_)
        refine z_iconst CX (v := 3) dX3_readCommand_44 (by decide) ?_
        refine z_iload_n CX 2 dX3_readCommand_45 rfl rfl ?_
        refine z_imul CX dX3_readCommand_46 ?_
        refine z_iconst CX (v := 2) dX3_readCommand_47 (by decide) ?_
        refine z_iadd CX dX3_readCommand_48 ?_
        refine z_aload_n CX 1 dX3_readCommand_49 rfl rfl ?_
        refine z_oalen CX dX3_readCommand_50 (by decide) rfl ?_
        refine z_icmp_ge CX 98 dX3_readCommand_51 (by decide) (fun q9 => absurd q9 (by decide)) (fun _ => ?_)
        refine z_aload_n CX 0 dX3_readCommand_54 rfl rfl ?_
        refine z_aload_n CX 1 dX3_readCommand_55 rfl rfl ?_
        refine z_iconst CX (v := 3) dX3_readCommand_56 (by decide) ?_
        refine z_iload_n CX 2 dX3_readCommand_57 rfl rfl ?_
        refine z_imul CX dX3_readCommand_58 ?_
        refine z_oald CX (v := 10) dX3_readCommand_59 (by decide) (by unfold vp_in; decide) (by decide) ?_
        refine z_aload_n CX 1 dX3_readCommand_60 rfl rfl ?_
        refine z_iconst CX (v := 3) dX3_readCommand_61 (by decide) ?_
        refine z_iload_n CX 2 dX3_readCommand_62 rfl rfl ?_
        refine z_imul CX dX3_readCommand_63 ?_
        refine z_iconst CX (v := 1) dX3_readCommand_64 (by decide) ?_
        refine z_iadd CX dX3_readCommand_65 ?_
        refine z_oald CX (v := 0) dX3_readCommand_66 (by decide) (by unfold vp_in; decide) (by decide) ?_
        refine z_aload_n CX 1 dX3_readCommand_67 rfl rfl ?_
        refine z_iconst CX (v := 3) dX3_readCommand_68 (by decide) ?_
        refine z_iload_n CX 2 dX3_readCommand_69 rfl rfl ?_
        refine z_imul CX dX3_readCommand_70 ?_
        refine z_iconst CX (v := 2) dX3_readCommand_71 (by decide) ?_
        refine z_iadd CX dX3_readCommand_72 ?_
        refine z_oald CX (v := 39) dX3_readCommand_73 (by decide) (by unfold vp_in; decide) (by decide) ?_
        refine z_callV1 CX dX3_readCommand_74 cv_X3_50 (x_rn2 (s9 := (upd (upd s9 2 104) 1 (nI y2))) (y := y2) (a := 0) (b := 39) (show (upd (upd s9 2 104) 1 (nI y2)) 0 = nI len from h0) hl pk_us (by omega) (by decide) (by decide)) xt_0 rfl rfl (Nat.le_of_ble_eq_true rfl) ⟨Nat.le_of_ble_eq_true rfl, Nat.le_of_ble_eq_true rfl⟩ ⟨Nat.le_refl _, Nat.le_refl _⟩ ?_
        rw [upd_up9, show (if (twS c9 len (nI 0) (nI 39) (y2, true)).2 = true then twV c9 len (nI 0) (nI 39) (y2, true) else -1) = -1 from by rw [f3]; rfl, f3]
        refine z_istore_n CX 3 dX3_readCommand_77 rfl (by decide) ?_
        refine z_iload_n CX 3 dX3_readCommand_78 rfl rfl ?_
        refine z_iconst CX (v := (-1 : Int32)) dX3_readCommand_79 (by decide) ?_
        refine z_icmp_ne CX 85 dX3_readCommand_80 (by decide) (fun q9 => absurd q9 (fun z => z rfl)) (fun _ => ?_)
        refine z_iconst CX (v := 0) dX3_readCommand_83 (by decide) ?_
        exact z_zret CX dX3_readCommand_84 rfl (by first | rfl | exact bI_nar _) rfl rfl (Or.inl rfl)
    · obtain ⟨y2, e2⟩ : ∃ y2, dgS c9 len 0 5 (y1, true) = (y2, false) := ⟨(dgS c9 len 0 5 (y1, true)).1, Prod.ext rfl (Bool.eq_false_iff.mpr g2)⟩
      have f2 : dgS c9 len (nI 0) (nI 5) (y1, true) = (y2, false) := e2
      have ee : (pzH c9 len (y + 1)).1 = (y2, false) := by subst hy0; unfold pzH; simp only [e1, e2, twS_w]
      rw [ee]
      refine ⟨(upd d9 0 (dgV c9 len (nI 0) (nI 3) (y0, true))), @fun l w hs n k s9 h0 h1 => ?_, fun q => absurd q Bool.false_ne_true⟩
      refine Cn.of (d := mX3_readCommand) (by decide +kernel) (Nat.le_of_ble_eq_true rfl) ?_
      intro p e R s m args below meth c CX
      replace CX : Ctx p s m args meth c R w RX3 "readCommand" cX3_readCommand 4 (some .boolean) 2 46 0 0 := CX
      show ZW p l e R s m args below meth c w 4 _ _ 0 0 (MQ below (Qn w _ _ _) args s 0 0 (wA w)) 0 [(0, .ref (wB w + k))] []
      refine z_aload_n CX 0 dX3_readCommand_0 rfl rfl ?_
      refine z_aload_n CX 0 dX3_readCommand_1 rfl rfl ?_
      refine z_callV1 CX dX3_readCommand_2 cv_X3_25 (x_hand h0 hl h1 (by omega)) xt_0 rfl rfl (Nat.le_of_ble_eq_true rfl) ⟨Nat.le_of_ble_eq_true rfl, Nat.le_of_ble_eq_true rfl⟩ ⟨Nat.le_refl _, Nat.le_refl _⟩ ?_
      rw [hz]
      refine z_put CX dX3_readCommand_5 fg_X3_33 fp_X3_4 xt_0 (Nat.le_of_ble_eq_true rfl) rfl rfl ?_
      refine z_heap xt_f2 ?_
      refine z_aload_n CX 0 dX3_readCommand_8 rfl rfl ?_
      refine z_get CX dX3_readCommand_9 fg_X3_33 xt_0 rfl ?_
      refine z_callS1 CX dX3_readCommand_12 cs_X3_46 x_nb_104 rfl rfl (Nat.le_of_ble_eq_true rfl) ⟨Nat.le_of_ble_eq_true rfl, Nat.le_of_ble_eq_true rfl⟩ ⟨Nat.le_refl _, Nat.le_refl _⟩ ?_
      refine z_astore_n CX 1 dX3_readCommand_15 rfl (by decide) ?_
      refine z_aload_n CX 1 dX3_readCommand_16 rfl rfl ?_
      refine z_oalen CX dX3_readCommand_17 (by decide) rfl ?_
      refine z_if_ne CX 23 dX3_readCommand_18 (by decide) (fun _ => ?_) (fun q9 => absurd q9 (by decide))
      refine z_aload_n CX 0 dX3_readCommand_23 rfl rfl ?_
      refine z_dup CX dX3_readCommand_24 rfl ?_
      refine z_get CX dX3_readCommand_25 fg_X3_22 xt_0 rfl ?_
      refine z_iconst CX (v := 1) dX3_readCommand_28 (by decide) ?_
      refine z_iadd CX dX3_readCommand_29 ?_
      rw [show upd s9 2 104 1 + 1 = nI (y + 1) from by show s9 1 + 1 = _; rw [h1]; exact ix_add (a := y) (b := 1) rfl rfl, ← hy0]
      refine z_put CX dX3_readCommand_30 fg_X3_22 fp_X3_3 xt_0 (Nat.le_of_ble_eq_true rfl) rfl rfl ?_
      refine z_heap xt_f1 ?_
      refine z_iconst CX (v := 0) dX3_readCommand_33 (by decide) ?_
      refine z_istore_n CX 2 dX3_readCommand_34 rfl (by decide) ?_
      refine z_iload_n CX 2 dX3_readCommand_35 rfl rfl ?_
      refine z_aload_n CX 0 dX3_readCommand_36 rfl rfl ?_
      refine z_get CX dX3_readCommand_37 fg_X3_15 xt_0 rfl ?_
      refine z_alen CX 0 dX3_readCommand_40 xt_2 rfl rfl ?_
      refine z_icmp_ge CX 98 dX3_readCommand_41 (by decide) (fun q9 => absurd q9 (show ¬ (4 : Int32) ≤ 0 by decide)) (fun _ => ?_)
      refine z_iconst CX (v := 3) dX3_readCommand_44 (by decide) ?_
      refine z_iload_n CX 2 dX3_readCommand_45 rfl rfl ?_
      refine z_imul CX dX3_readCommand_46 ?_
      refine z_iconst CX (v := 2) dX3_readCommand_47 (by decide) ?_
      refine z_iadd CX dX3_readCommand_48 ?_
      refine z_aload_n CX 1 dX3_readCommand_49 rfl rfl ?_
      refine z_oalen CX dX3_readCommand_50 (by decide) rfl ?_
      refine z_icmp_ge CX 98 dX3_readCommand_51 (by decide) (fun q9 => absurd q9 (by decide)) (fun _ => ?_)
      refine z_aload_n CX 0 dX3_readCommand_54 rfl rfl ?_
      refine z_aload_n CX 1 dX3_readCommand_55 rfl rfl ?_
      refine z_iconst CX (v := 3) dX3_readCommand_56 (by decide) ?_
      refine z_iload_n CX 2 dX3_readCommand_57 rfl rfl ?_
      refine z_imul CX dX3_readCommand_58 ?_
      refine z_oald CX (v := 1) dX3_readCommand_59 (by decide) (by unfold vp_in; decide) (by decide) ?_
      refine z_aload_n CX 1 dX3_readCommand_60 rfl rfl ?_
      refine z_iconst CX (v := 3) dX3_readCommand_61 (by decide) ?_
      refine z_iload_n CX 2 dX3_readCommand_62 rfl rfl ?_
      refine z_imul CX dX3_readCommand_63 ?_
      refine z_iconst CX (v := 1) dX3_readCommand_64 (by decide) ?_
      refine z_iadd CX dX3_readCommand_65 ?_
      refine z_oald CX (v := 0) dX3_readCommand_66 (by decide) (by unfold vp_in; decide) (by decide) ?_
      refine z_aload_n CX 1 dX3_readCommand_67 rfl rfl ?_
      refine z_iconst CX (v := 3) dX3_readCommand_68 (by decide) ?_
      refine z_iload_n CX 2 dX3_readCommand_69 rfl rfl ?_
      refine z_imul CX dX3_readCommand_70 ?_
      refine z_iconst CX (v := 2) dX3_readCommand_71 (by decide) ?_
      refine z_iadd CX dX3_readCommand_72 ?_
      refine z_oald CX (v := 3) dX3_readCommand_73 (by decide) (by unfold vp_in; decide) (by decide) ?_
      refine z_callV1 CX dX3_readCommand_74 cv_X3_50 (x_rn1 (s9 := (upd (upd s9 2 104) 1 (nI y0))) (y := y0) (a := 0) (b := 3) (show (upd (upd s9 2 104) 1 (nI y0)) 0 = nI len from h0) hl pk_us (by omega) (by decide) (by decide)) xt_0 rfl rfl (Nat.le_of_ble_eq_true rfl) ⟨Nat.le_of_ble_eq_true rfl, Nat.le_of_ble_eq_true rfl⟩ ⟨Nat.le_refl _, Nat.le_refl _⟩ ?_
      rw [upd_up9, show (if (dgS c9 len (nI 0) (nI 3) (y0, true)).2 = true then dgV c9 len (nI 0) (nI 3) (y0, true) else -1) = dgV c9 len (nI 0) (nI 3) (y0, true) from by rw [f1]; rfl, f1]
      refine z_istore_n CX 3 dX3_readCommand_77 rfl (by decide) ?_
      refine z_iload_n CX 3 dX3_readCommand_78 rfl rfl ?_
      refine z_iconst CX (v := (-1 : Int32)) dX3_readCommand_79 (by decide) ?_
      refine z_icmp_ne CX 85 dX3_readCommand_80 (by decide) (fun _ => ?_) (fun q9 => absurd q9 (dgV_nn (by decide) (by rw [f1])))
      refine z_aload_n CX 0 dX3_readCommand_85 rfl rfl ?_
      refine z_get CX dX3_readCommand_86 fg_X3_15 xt_0 rfl ?_
      refine z_iload_n CX 2 dX3_readCommand_89 rfl rfl ?_
      refine z_iload_n CX 3 dX3_readCommand_90 rfl rfl ?_
      refine z_is CX (j := 0) dX3_readCommand_91 xt_2 rfl (by omega) (by decide) ?_
      refine z_heap xt_d ?_
      refine z_iinc CX (v := 1) dX3_readCommand_92 rfl (by decide) (by decide) ?_
      refine z_goto CX 35 dX3_readCommand_95 (by decide) ?_
      refine z_iload_n CX 2 dX3_readCommand_35 rfl rfl ?_
      refine z_aload_n CX 0 dX3_readCommand_36 rfl rfl ?_
      refine z_get CX dX3_readCommand_37 fg_X3_15 xt_0 rfl ?_
      refine z_alen CX 0 dX3_readCommand_40 xt_2 rfl rfl ?_
      refine z_icmp_ge CX 98 dX3_readCommand_41 (by decide) (fun q9 => absurd q9 (show ¬ (4 : Int32) ≤ 1 by decide)) (fun _ => ?_)
      refine z_iconst CX (v := 3) dX3_readCommand_44 (by decide) ?_
      refine z_iload_n CX 2 dX3_readCommand_45 rfl rfl ?_
      refine z_imul CX dX3_readCommand_46 ?_
      refine z_iconst CX (v := 2) dX3_readCommand_47 (by decide) ?_
      refine z_iadd CX dX3_readCommand_48 ?_
      refine z_aload_n CX 1 dX3_readCommand_49 rfl rfl ?_
      refine z_oalen CX dX3_readCommand_50 (by decide) rfl ?_
      refine z_icmp_ge CX 98 dX3_readCommand_51 (by decide) (fun q9 => absurd q9 (by decide)) (fun _ => ?_)
      refine z_aload_n CX 0 dX3_readCommand_54 rfl rfl ?_
      refine z_aload_n CX 1 dX3_readCommand_55 rfl rfl ?_
      refine z_iconst CX (v := 3) dX3_readCommand_56 (by decide) ?_
      refine z_iload_n CX 2 dX3_readCommand_57 rfl rfl ?_
      refine z_imul CX dX3_readCommand_58 ?_
      refine z_oald CX (v := 1) dX3_readCommand_59 (by decide) (by unfold vp_in; decide) (by decide) ?_
      refine z_aload_n CX 1 dX3_readCommand_60 rfl rfl ?_
      refine z_iconst CX (v := 3) dX3_readCommand_61 (by decide) ?_
      refine z_iload_n CX 2 dX3_readCommand_62 rfl rfl ?_
      refine z_imul CX dX3_readCommand_63 ?_
      refine z_iconst CX (v := 1) dX3_readCommand_64 (by decide) ?_
      refine z_iadd CX dX3_readCommand_65 ?_
      refine z_oald CX (v := 0) dX3_readCommand_66 (by decide) (by unfold vp_in; decide) (by decide) ?_
      refine z_aload_n CX 1 dX3_readCommand_67 rfl rfl ?_
      refine z_iconst CX (v := 3) dX3_readCommand_68 (by decide) ?_
      refine z_iload_n CX 2 dX3_readCommand_69 rfl rfl ?_
      refine z_imul CX dX3_readCommand_70 ?_
      refine z_iconst CX (v := 2) dX3_readCommand_71 (by decide) ?_
      refine z_iadd CX dX3_readCommand_72 ?_
      refine z_oald CX (v := 5) dX3_readCommand_73 (by decide) (by unfold vp_in; decide) (by decide) ?_
      refine z_callV1 CX dX3_readCommand_74 cv_X3_50 (x_rn1 (s9 := (upd (upd s9 2 104) 1 (nI y1))) (y := y1) (a := 0) (b := 5) (show (upd (upd s9 2 104) 1 (nI y1)) 0 = nI len from h0) hl pk_us (by omega) (by decide) (by decide)) xt_0 rfl rfl (Nat.le_of_ble_eq_true rfl) ⟨Nat.le_of_ble_eq_true rfl, Nat.le_of_ble_eq_true rfl⟩ ⟨Nat.le_refl _, Nat.le_refl _⟩ ?_
      rw [upd_up9, show (if (dgS c9 len (nI 0) (nI 5) (y1, true)).2 = true then dgV c9 len (nI 0) (nI 5) (y1, true) else -1) = -1 from by rw [f2]; rfl, f2]
      refine z_istore_n CX 3 dX3_readCommand_77 rfl (by decide) ?_
      refine z_iload_n CX 3 dX3_readCommand_78 rfl rfl ?_
      refine z_iconst CX (v := (-1 : Int32)) dX3_readCommand_79 (by decide) ?_
      refine z_icmp_ne CX 85 dX3_readCommand_80 (by decide) (fun q9 => absurd q9 (fun z => z rfl)) (fun _ => ?_)
      refine z_iconst CX (v := 0) dX3_readCommand_83 (by decide) ?_
      exact z_zret CX dX3_readCommand_84 rfl (by first | rfl | exact bI_nar _) rfl rfl (Or.inl rfl)
  · obtain ⟨y1, e1⟩ : ∃ y1, dgS c9 len 0 3 (y0, true) = (y1, false) := ⟨(dgS c9 len 0 3 (y0, true)).1, Prod.ext rfl (Bool.eq_false_iff.mpr g1)⟩
    have f1 : dgS c9 len (nI 0) (nI 3) (y0, true) = (y1, false) := e1
    have ee : (pzH c9 len (y + 1)).1 = (y1, false) := by subst hy0; unfold pzH; simp only [e1, dgS_w, twS_w]
    rw [ee]
    refine ⟨d9, @fun l w hs n k s9 h0 h1 => ?_, fun q => absurd q Bool.false_ne_true⟩
    refine Cn.of (d := mX3_readCommand) (by decide +kernel) (Nat.le_of_ble_eq_true rfl) ?_
    intro p e R s m args below meth c CX
    replace CX : Ctx p s m args meth c R w RX3 "readCommand" cX3_readCommand 4 (some .boolean) 2 46 0 0 := CX
    show ZW p l e R s m args below meth c w 4 _ _ 0 0 (MQ below (Qn w _ _ _) args s 0 0 (wA w)) 0 [(0, .ref (wB w + k))] []
    refine z_aload_n CX 0 dX3_readCommand_0 rfl rfl ?_
    refine z_aload_n CX 0 dX3_readCommand_1 rfl rfl ?_
    refine z_callV1 CX dX3_readCommand_2 cv_X3_25 (x_hand h0 hl h1 (by omega)) xt_0 rfl rfl (Nat.le_of_ble_eq_true rfl) ⟨Nat.le_of_ble_eq_true rfl, Nat.le_of_ble_eq_true rfl⟩ ⟨Nat.le_refl _, Nat.le_refl _⟩ ?_
    rw [hz]
    refine z_put CX dX3_readCommand_5 fg_X3_33 fp_X3_4 xt_0 (Nat.le_of_ble_eq_true rfl) rfl rfl ?_
    refine z_heap xt_f2 ?_
    refine z_aload_n CX 0 dX3_readCommand_8 rfl rfl ?_
    refine z_get CX dX3_readCommand_9 fg_X3_33 xt_0 rfl ?_
    refine z_callS1 CX dX3_readCommand_12 cs_X3_46 x_nb_104 rfl rfl (Nat.le_of_ble_eq_true rfl) ⟨Nat.le_of_ble_eq_true rfl, Nat.le_of_ble_eq_true rfl⟩ ⟨Nat.le_refl _, Nat.le_refl _⟩ ?_
    refine z_astore_n CX 1 dX3_readCommand_15 rfl (by decide) ?_
    refine z_aload_n CX 1 dX3_readCommand_16 rfl rfl ?_
    refine z_oalen CX dX3_readCommand_17 (by decide) rfl ?_
    refine z_if_ne CX 23 dX3_readCommand_18 (by decide) (fun _ => ?_) (fun q9 => absurd q9 (by decide))
    refine z_aload_n CX 0 dX3_readCommand_23 rfl rfl ?_
    refine z_dup CX dX3_readCommand_24 rfl ?_
    refine z_get CX dX3_readCommand_25 fg_X3_22 xt_0 rfl ?_
    refine z_iconst CX (v := 1) dX3_readCommand_28 (by decide) ?_
    refine z_iadd CX dX3_readCommand_29 ?_
    rw [show upd s9 2 104 1 + 1 = nI (y + 1) from by show s9 1 + 1 = _; rw [h1]; exact ix_add (a := y) (b := 1) rfl rfl, ← hy0]
    refine z_put CX dX3_readCommand_30 fg_X3_22 fp_X3_3 xt_0 (Nat.le_of_ble_eq_true rfl) rfl rfl ?_
    refine z_heap xt_f1 ?_
    refine z_iconst CX (v := 0) dX3_readCommand_33 (by decide) ?_
    refine z_istore_n CX 2 dX3_readCommand_34 rfl (by decide) ?_
    refine z_iload_n CX 2 dX3_readCommand_35 rfl rfl ?_
    refine z_aload_n CX 0 dX3_readCommand_36 rfl rfl ?_
    refine z_get CX dX3_readCommand_37 fg_X3_15 xt_0 rfl ?_
    refine z_alen CX 0 dX3_readCommand_40 xt_2 rfl rfl ?_
    refine z_icmp_ge CX 98 dX3_readCommand_41 (by decide) (fun q9 => absurd q9 (show ¬ (4 : Int32) ≤ 0 by decide)) (fun _ => ?_)
    refine z_iconst CX (v := 3) dX3_readCommand_44 (by decide) ?_
    refine z_iload_n CX 2 dX3_readCommand_45 rfl rfl ?_
    refine z_imul CX dX3_readCommand_46 ?_
    refine z_iconst CX (v := 2) dX3_readCommand_47 (by decide) ?_
    refine z_iadd CX dX3_readCommand_48 ?_
    refine z_aload_n CX 1 dX3_readCommand_49 rfl rfl ?_
    refine z_oalen CX dX3_readCommand_50 (by decide) rfl ?_
    refine z_icmp_ge CX 98 dX3_readCommand_51 (by decide) (fun q9 => absurd q9 (by decide)) (fun _ => ?_)
    refine z_aload_n CX 0 dX3_readCommand_54 rfl rfl ?_
    refine z_aload_n CX 1 dX3_readCommand_55 rfl rfl ?_
    refine z_iconst CX (v := 3) dX3_readCommand_56 (by decide) ?_
    refine z_iload_n CX 2 dX3_readCommand_57 rfl rfl ?_
    refine z_imul CX dX3_readCommand_58 ?_
    refine z_oald CX (v := 1) dX3_readCommand_59 (by decide) (by unfold vp_in; decide) (by decide) ?_
    refine z_aload_n CX 1 dX3_readCommand_60 rfl rfl ?_
    refine z_iconst CX (v := 3) dX3_readCommand_61 (by decide) ?_
    refine z_iload_n CX 2 dX3_readCommand_62 rfl rfl ?_
    refine z_imul CX dX3_readCommand_63 ?_
    refine z_iconst CX (v := 1) dX3_readCommand_64 (by decide) ?_
    refine z_iadd CX dX3_readCommand_65 ?_
    refine z_oald CX (v := 0) dX3_readCommand_66 (by decide) (by unfold vp_in; decide) (by decide) ?_
    refine z_aload_n CX 1 dX3_readCommand_67 rfl rfl ?_
    refine z_iconst CX (v := 3) dX3_readCommand_68 (by decide) ?_
    refine z_iload_n CX 2 dX3_readCommand_69 rfl rfl ?_
    refine z_imul CX dX3_readCommand_70 ?_
    refine z_iconst CX (v := 2) dX3_readCommand_71 (by decide) ?_
    refine z_iadd CX dX3_readCommand_72 ?_
    refine z_oald CX (v := 3) dX3_readCommand_73 (by decide) (by unfold vp_in; decide) (by decide) ?_
    refine z_callV1 CX dX3_readCommand_74 cv_X3_50 (x_rn1 (s9 := (upd (upd s9 2 104) 1 (nI y0))) (y := y0) (a := 0) (b := 3) (show (upd (upd s9 2 104) 1 (nI y0)) 0 = nI len from h0) hl pk_us (by omega) (by decide) (by decide)) xt_0 rfl rfl (Nat.le_of_ble_eq_true rfl) ⟨Nat.le_of_ble_eq_true rfl, Nat.le_of_ble_eq_true rfl⟩ ⟨Nat.le_refl _, Nat.le_refl _⟩ ?_
    rw [upd_up9, show (if (dgS c9 len (nI 0) (nI 3) (y0, true)).2 = true then dgV c9 len (nI 0) (nI 3) (y0, true) else -1) = -1 from by rw [f1]; rfl, f1]
    refine z_istore_n CX 3 dX3_readCommand_77 rfl (by decide) ?_
    refine z_iload_n CX 3 dX3_readCommand_78 rfl rfl ?_
    refine z_iconst CX (v := (-1 : Int32)) dX3_readCommand_79 (by decide) ?_
    refine z_icmp_ne CX 85 dX3_readCommand_80 (by decide) (fun q9 => absurd q9 (fun z => z rfl)) (fun _ => ?_)
    refine z_iconst CX (v := 0) dX3_readCommand_83 (by decide) ?_
    exact z_zret CX dX3_readCommand_84 rfl (by first | rfl | exact bI_nar _) rfl rfl (Or.inl rfl)
set_option maxHeartbeats 4000000 in
set_option maxRecDepth 100000 in
theorem x_rc_99 {c9 d9 : Nat → Int32} {len y : Nat} (hl : len ≤ 120) (hy : y < 200) (hz : hrF c9 len y = 99) : ∃ dd : Nat → Int32, (∀ {l : Launch} {w : Wt} {hs : Hs} {n : Option Nat} {k : Nat} {s9 : Nat → Int32}, s9 0 = nI len → s9 1 = nI y → Cn l w mX3_readCommand 0 0 [.ref (wB w + k)] (XT w hs k s9 c9 d9) n (XT w hs k (upd (upd s9 2 99) 1 (nI (pzC c9 len (y + 1)).1.1)) c9 dd) n (some (.int (bI (pzC c9 len (y + 1)).1.2)))) ∧ ((pzC c9 len (y + 1)).1.2 = true → dd 0 = (pzC c9 len (y + 1)).2.1 ∧ dd 1 = (pzC c9 len (y + 1)).2.2.1) := by
  obtain ⟨y0, hy0⟩ : ∃ y0, y0 = y + 1 := ⟨_, rfl⟩
  by_cases g1 : (dgS c9 len 0 3 (y0, true)).2 = true
  · obtain ⟨y1, e1⟩ : ∃ y1, dgS c9 len 0 3 (y0, true) = (y1, true) := ⟨(dgS c9 len 0 3 (y0, true)).1, Prod.ext rfl g1⟩
    have f1 : dgS c9 len (nI 0) (nI 3) (y0, true) = (y1, true) := e1
    have b1 : y1 ≤ y0 + 2 := by have q := (dgS_le (t := c9) (len := len) (lo := 0) (hi := 3) (q := (y0, true))).2; rw [e1] at q; show y1 ≤ (y0, true).1 + 2; omega
    by_cases g2 : (dgS c9 len 0 9 (y1, true)).2 = true
    · obtain ⟨y2, e2⟩ : ∃ y2, dgS c9 len 0 9 (y1, true) = (y2, true) := ⟨(dgS c9 len 0 9 (y1, true)).1, Prod.ext rfl g2⟩
      have f2 : dgS c9 len (nI 0) (nI 9) (y1, true) = (y2, true) := e2
      have b2 : y2 ≤ y1 + 2 := by have q := (dgS_le (t := c9) (len := len) (lo := 0) (hi := 9) (q := (y1, true))).2; rw [e2] at q; show y2 ≤ (y1, true).1 + 2; omega
      have ee : (pzC c9 len (y + 1)) = ((y2, true), dgV c9 len 0 3 (y0, true), dgV c9 len 0 9 (y1, true), 0, 0) := by subst hy0; unfold pzC; rw [e1, e2]
      rw [ee]
      refine ⟨(upd (upd d9 0 (dgV c9 len (nI 0) (nI 3) (y0, true))) 1 (dgV c9 len (nI 0) (nI 9) (y1, true))), @fun l w hs n k s9 h0 h1 => ?_, fun _ => ⟨rfl, rfl⟩⟩
      refine Cn.of (d := mX3_readCommand) (by decide +kernel) (Nat.le_of_ble_eq_true rfl) ?_
      intro p e R s m args below meth c CX
      replace CX : Ctx p s m args meth c R w RX3 "readCommand" cX3_readCommand 4 (some .boolean) 2 46 0 0 := CX
      show ZW p l e R s m args below meth c w 4 _ _ 0 0 (MQ below (Qn w _ _ _) args s 0 0 (wA w)) 0 [(0, .ref (wB w + k))] []
      refine z_aload_n CX 0 dX3_readCommand_0 rfl rfl ?_
      refine z_aload_n CX 0 dX3_readCommand_1 rfl rfl ?_
      refine z_callV1 CX dX3_readCommand_2 cv_X3_25 (x_hand h0 hl h1 (by omega)) xt_0 rfl rfl (Nat.le_of_ble_eq_true rfl) ⟨Nat.le_of_ble_eq_true rfl, Nat.le_of_ble_eq_true rfl⟩ ⟨Nat.le_refl _, Nat.le_refl _⟩ ?_
      rw [hz]
      refine z_put CX dX3_readCommand_5 fg_X3_33 fp_X3_4 xt_0 (Nat.le_of_ble_eq_true rfl) rfl rfl ?_
      refine z_heap xt_f2 ?_
      refine z_aload_n CX 0 dX3_readCommand_8 rfl rfl ?_
      refine z_get CX dX3_readCommand_9 fg_X3_33 xt_0 rfl ?_
      refine z_callS1 CX dX3_readCommand_12 cs_X3_46 x_nb_99 rfl rfl (Nat.le_of_ble_eq_true rfl) ⟨Nat.le_of_ble_eq_true rfl, Nat.le_of_ble_eq_true rfl⟩ ⟨Nat.le_refl _, Nat.le_refl _⟩ ?_
      refine z_astore_n CX 1 dX3_readCommand_15 rfl (by decide) ?_
      refine z_aload_n CX 1 dX3_readCommand_16 rfl rfl ?_
      refine z_oalen CX dX3_readCommand_17 (by decide) rfl ?_
      refine z_if_ne CX 23 dX3_readCommand_18 (by decide) (fun _ => ?_) (fun q9 => absurd q9 (by decide))
      refine z_aload_n CX 0 dX3_readCommand_23 rfl rfl ?_
      refine z_dup CX dX3_readCommand_24 rfl ?_
      refine z_get CX dX3_readCommand_25 fg_X3_22 xt_0 rfl ?_
      refine z_iconst CX (v := 1) dX3_readCommand_28 (by decide) ?_
      refine z_iadd CX dX3_readCommand_29 ?_
      rw [show upd s9 2 99 1 + 1 = nI (y + 1) from by show s9 1 + 1 = _; rw [h1]; exact ix_add (a := y) (b := 1) rfl rfl, ← hy0]
      refine z_put CX dX3_readCommand_30 fg_X3_22 fp_X3_3 xt_0 (Nat.le_of_ble_eq_true rfl) rfl rfl ?_
      refine z_heap xt_f1 ?_
      refine z_iconst CX (v := 0) dX3_readCommand_33 (by decide) ?_
      refine z_istore_n CX 2 dX3_readCommand_34 rfl (by decide) ?_
      refine z_iload_n CX 2 dX3_readCommand_35 rfl rfl ?_
      refine z_aload_n CX 0 dX3_readCommand_36 rfl rfl ?_
      refine z_get CX dX3_readCommand_37 fg_X3_15 xt_0 rfl ?_
      refine z_alen CX 0 dX3_readCommand_40 xt_2 rfl rfl ?_
      refine z_icmp_ge CX 98 dX3_readCommand_41 (by decide) (fun q9 => absurd q9 (show ¬ (4 : Int32) ≤ 0 by decide)) (fun _ => ?_)
      refine z_iconst CX (v := 3) dX3_readCommand_44 (by decide) ?_
      refine z_iload_n CX 2 dX3_readCommand_45 rfl rfl ?_
      refine z_imul CX dX3_readCommand_46 ?_
      refine z_iconst CX (v := 2) dX3_readCommand_47 (by decide) ?_
      refine z_iadd CX dX3_readCommand_48 ?_
      refine z_aload_n CX 1 dX3_readCommand_49 rfl rfl ?_
      refine z_oalen CX dX3_readCommand_50 (by decide) rfl ?_
      refine z_icmp_ge CX 98 dX3_readCommand_51 (by decide) (fun q9 => absurd q9 (by decide)) (fun _ => ?_)
      refine z_aload_n CX 0 dX3_readCommand_54 rfl rfl ?_
      refine z_aload_n CX 1 dX3_readCommand_55 rfl rfl ?_
      refine z_iconst CX (v := 3) dX3_readCommand_56 (by decide) ?_
      refine z_iload_n CX 2 dX3_readCommand_57 rfl rfl ?_
      refine z_imul CX dX3_readCommand_58 ?_
      refine z_oald CX (v := 1) dX3_readCommand_59 (by decide) (by unfold vp_in; decide) (by decide) ?_
      refine z_aload_n CX 1 dX3_readCommand_60 rfl rfl ?_
      refine z_iconst CX (v := 3) dX3_readCommand_61 (by decide) ?_
      refine z_iload_n CX 2 dX3_readCommand_62 rfl rfl ?_
      refine z_imul CX dX3_readCommand_63 ?_
      refine z_iconst CX (v := 1) dX3_readCommand_64 (by decide) ?_
      refine z_iadd CX dX3_readCommand_65 ?_
      refine z_oald CX (v := 0) dX3_readCommand_66 (by decide) (by unfold vp_in; decide) (by decide) ?_
      refine z_aload_n CX 1 dX3_readCommand_67 rfl rfl ?_
      refine z_iconst CX (v := 3) dX3_readCommand_68 (by decide) ?_
      refine z_iload_n CX 2 dX3_readCommand_69 rfl rfl ?_
      refine z_imul CX dX3_readCommand_70 ?_
      refine z_iconst CX (v := 2) dX3_readCommand_71 (by decide) ?_
      refine z_iadd CX dX3_readCommand_72 ?_
      refine z_oald CX (v := 3) dX3_readCommand_73 (by decide) (by unfold vp_in; decide) (by decide) ?_
      refine z_callV1 CX dX3_readCommand_74 cv_X3_50 (x_rn1 (s9 := (upd (upd s9 2 99) 1 (nI y0))) (y := y0) (a := 0) (b := 3) (show (upd (upd s9 2 99) 1 (nI y0)) 0 = nI len from h0) hl pk_us (by omega) (by decide) (by decide)) xt_0 rfl rfl (Nat.le_of_ble_eq_true rfl) ⟨Nat.le_of_ble_eq_true rfl, Nat.le_of_ble_eq_true rfl⟩ ⟨Nat.le_refl _, Nat.le_refl _⟩ ?_
      rw [upd_up9, show (if (dgS c9 len (nI 0) (nI 3) (y0, true)).2 = true then dgV c9 len (nI 0) (nI 3) (y0, true) else -1) = dgV c9 len (nI 0) (nI 3) (y0, true) from by rw [f1]; rfl, f1]
      refine z_istore_n CX 3 dX3_readCommand_77 rfl (by decide) ?_
      refine z_iload_n CX 3 dX3_readCommand_78 rfl rfl ?_
      refine z_iconst CX (v := (-1 : Int32)) dX3_readCommand_79 (by decide) ?_
      refine z_icmp_ne CX 85 dX3_readCommand_80 (by decide) (fun _ => ?_) (fun q9 => absurd q9 (dgV_nn (by decide) (by rw [f1])))
      refine z_aload_n CX 0 dX3_readCommand_85 rfl rfl ?_
      refine z_get CX dX3_readCommand_86 fg_X3_15 xt_0 rfl ?_
      refine z_iload_n CX 2 dX3_readCommand_89 rfl rfl ?_
      refine z_iload_n CX 3 dX3_readCommand_90 rfl rfl ?_
      refine z_is CX (j := 0) dX3_readCommand_91 xt_2 rfl (by omega) (by decide) ?_
      refine z_heap xt_d ?_
      refine z_iinc CX (v := 1) dX3_readCommand_92 rfl (by decide) (by decide) ?_
      refine z_goto CX 35 dX3_readCommand_95 (by decide) ?_
      refine z_iload_n CX 2 dX3_readCommand_35 rfl rfl ?_
      refine z_aload_n CX 0 dX3_readCommand_36 rfl rfl ?_
      refine z_get CX dX3_readCommand_37 fg_X3_15 xt_0 rfl ?_
      refine z_alen CX 0 dX3_readCommand_40 xt_2 rfl rfl ?_
      refine z_icmp_ge CX 98 dX3_readCommand_41 (by decide) (fun q9 => absurd q9 (show ¬ (4 : Int32) ≤ 1 by decide)) (fun _ => ?_)
      refine z_iconst CX (v := 3) dX3_readCommand_44 (by decide) ?_
      refine z_iload_n CX 2 dX3_readCommand_45 rfl rfl ?_
      refine z_imul CX dX3_readCommand_46 ?_
      refine z_iconst CX (v := 2) dX3_readCommand_47 (by decide) ?_
      refine z_iadd CX dX3_readCommand_48 ?_
      refine z_aload_n CX 1 dX3_readCommand_49 rfl rfl ?_
      refine z_oalen CX dX3_readCommand_50 (by decide) rfl ?_
      refine z_icmp_ge CX 98 dX3_readCommand_51 (by decide) (fun q9 => absurd q9 (by decide)) (fun _ => ?_)
      refine z_aload_n CX 0 dX3_readCommand_54 rfl rfl ?_
      refine z_aload_n CX 1 dX3_readCommand_55 rfl rfl ?_
      refine z_iconst CX (v := 3) dX3_readCommand_56 (by decide) ?_
      refine z_iload_n CX 2 dX3_readCommand_57 rfl rfl ?_
      refine z_imul CX dX3_readCommand_58 ?_
      refine z_oald CX (v := 1) dX3_readCommand_59 (by decide) (by unfold vp_in; decide) (by decide) ?_
      refine z_aload_n CX 1 dX3_readCommand_60 rfl rfl ?_
      refine z_iconst CX (v := 3) dX3_readCommand_61 (by decide) ?_
      refine z_iload_n CX 2 dX3_readCommand_62 rfl rfl ?_
      refine z_imul CX dX3_readCommand_63 ?_
      refine z_iconst CX (v := 1) dX3_readCommand_64 (by decide) ?_
      refine z_iadd CX dX3_readCommand_65 ?_
      refine z_oald CX (v := 0) dX3_readCommand_66 (by decide) (by unfold vp_in; decide) (by decide) ?_
      refine z_aload_n CX 1 dX3_readCommand_67 rfl rfl ?_
      refine z_iconst CX (v := 3) dX3_readCommand_68 (by decide) ?_
      refine z_iload_n CX 2 dX3_readCommand_69 rfl rfl ?_
      refine z_imul CX dX3_readCommand_70 ?_
      refine z_iconst CX (v := 2) dX3_readCommand_71 (by decide) ?_
      refine z_iadd CX dX3_readCommand_72 ?_
      refine z_oald CX (v := 9) dX3_readCommand_73 (by decide) (by unfold vp_in; decide) (by decide) ?_
      refine z_callV1 CX dX3_readCommand_74 cv_X3_50 (x_rn1 (s9 := (upd (upd s9 2 99) 1 (nI y1))) (y := y1) (a := 0) (b := 9) (show (upd (upd s9 2 99) 1 (nI y1)) 0 = nI len from h0) hl pk_us (by omega) (by decide) (by decide)) xt_0 rfl rfl (Nat.le_of_ble_eq_true rfl) ⟨Nat.le_of_ble_eq_true rfl, Nat.le_of_ble_eq_true rfl⟩ ⟨Nat.le_refl _, Nat.le_refl _⟩ ?_
      rw [upd_up9, show (if (dgS c9 len (nI 0) (nI 9) (y1, true)).2 = true then dgV c9 len (nI 0) (nI 9) (y1, true) else -1) = dgV c9 len (nI 0) (nI 9) (y1, true) from by rw [f2]; rfl, f2]
      refine z_istore_n CX 3 dX3_readCommand_77 rfl (by decide) ?_
      refine z_iload_n CX 3 dX3_readCommand_78 rfl rfl ?_
      refine z_iconst CX (v := (-1 : Int32)) dX3_readCommand_79 (by decide) ?_
      refine z_icmp_ne CX 85 dX3_readCommand_80 (by decide) (fun _ => ?_) (fun q9 => absurd q9 (dgV_nn (by decide) (by rw [f2])))
      refine z_aload_n CX 0 dX3_readCommand_85 rfl rfl ?_
      refine z_get CX dX3_readCommand_86 fg_X3_15 xt_0 rfl ?_
      refine z_iload_n CX 2 dX3_readCommand_89 rfl rfl ?_
      refine z_iload_n CX 3 dX3_readCommand_90 rfl rfl ?_
      refine z_is CX (j := 1) dX3_readCommand_91 xt_2 rfl (by omega) (by decide) ?_
      refine z_heap xt_d ?_
      refine z_iinc CX (v := 2) dX3_readCommand_92 rfl (by decide) (by decide) ?_
      refine z_goto CX 35 dX3_readCommand_95 (by decide) ?_
      refine z_iload_n CX 2 dX3_readCommand_35 rfl rfl ?_
      refine z_aload_n CX 0 dX3_readCommand_36 rfl rfl ?_
      refine z_get CX dX3_readCommand_37 fg_X3_15 xt_0 rfl ?_
      refine z_alen CX 0 dX3_readCommand_40 xt_2 rfl rfl ?_
      refine z_icmp_ge CX 98 dX3_readCommand_41 (by decide) (fun q9 => absurd q9 (show ¬ (4 : Int32) ≤ 2 by decide)) (fun _ => ?_)
      refine z_iconst CX (v := 3) dX3_readCommand_44 (by decide) ?_
      refine z_iload_n CX 2 dX3_readCommand_45 rfl rfl ?_
      refine z_imul CX dX3_readCommand_46 ?_
      refine z_iconst CX (v := 2) dX3_readCommand_47 (by decide) ?_
      refine z_iadd CX dX3_readCommand_48 ?_
      refine z_aload_n CX 1 dX3_readCommand_49 rfl rfl ?_
      refine z_oalen CX dX3_readCommand_50 (by decide) rfl ?_
      refine z_icmp_ge CX 98 dX3_readCommand_51 (by decide) (fun _ => ?_) (fun q9 => absurd (by decide) q9)
      refine z_iconst CX (v := 1) dX3_readCommand_98 (by decide) ?_
      exact z_zret CX dX3_readCommand_99 rfl (by first | rfl | exact bI_nar _) rfl rfl (Or.inl rfl)
    · obtain ⟨y2, e2⟩ : ∃ y2, dgS c9 len 0 9 (y1, true) = (y2, false) := ⟨(dgS c9 len 0 9 (y1, true)).1, Prod.ext rfl (Bool.eq_false_iff.mpr g2)⟩
      have f2 : dgS c9 len (nI 0) (nI 9) (y1, true) = (y2, false) := e2
      have ee : (pzC c9 len (y + 1)).1 = (y2, false) := by subst hy0; unfold pzC; simp only [e1, e2]
      rw [ee]
      refine ⟨(upd d9 0 (dgV c9 len (nI 0) (nI 3) (y0, true))), @fun l w hs n k s9 h0 h1 => ?_, fun q => absurd q Bool.false_ne_true⟩
      refine Cn.of (d := mX3_readCommand) (by decide +kernel) (Nat.le_of_ble_eq_true rfl) ?_
      intro p e R s m args below meth c CX
      replace CX : Ctx p s m args meth c R w RX3 "readCommand" cX3_readCommand 4 (some .boolean) 2 46 0 0 := CX
      show ZW p l e R s m args below meth c w 4 _ _ 0 0 (MQ below (Qn w _ _ _) args s 0 0 (wA w)) 0 [(0, .ref (wB w + k))] []
      refine z_aload_n CX 0 dX3_readCommand_0 rfl rfl ?_
      refine z_aload_n CX 0 dX3_readCommand_1 rfl rfl ?_
      refine z_callV1 CX dX3_readCommand_2 cv_X3_25 (x_hand h0 hl h1 (by omega)) xt_0 rfl rfl (Nat.le_of_ble_eq_true rfl) ⟨Nat.le_of_ble_eq_true rfl, Nat.le_of_ble_eq_true rfl⟩ ⟨Nat.le_refl _, Nat.le_refl _⟩ ?_
      rw [hz]
      refine z_put CX dX3_readCommand_5 fg_X3_33 fp_X3_4 xt_0 (Nat.le_of_ble_eq_true rfl) rfl rfl ?_
      refine z_heap xt_f2 ?_
      refine z_aload_n CX 0 dX3_readCommand_8 rfl rfl ?_
      refine z_get CX dX3_readCommand_9 fg_X3_33 xt_0 rfl ?_
      refine z_callS1 CX dX3_readCommand_12 cs_X3_46 x_nb_99 rfl rfl (Nat.le_of_ble_eq_true rfl) ⟨Nat.le_of_ble_eq_true rfl, Nat.le_of_ble_eq_true rfl⟩ ⟨Nat.le_refl _, Nat.le_refl _⟩ ?_
      refine z_astore_n CX 1 dX3_readCommand_15 rfl (by decide) ?_
      refine z_aload_n CX 1 dX3_readCommand_16 rfl rfl ?_
      refine z_oalen CX dX3_readCommand_17 (by decide) rfl ?_
      refine z_if_ne CX 23 dX3_readCommand_18 (by decide) (fun _ => ?_) (fun q9 => absurd q9 (by decide))
      refine z_aload_n CX 0 dX3_readCommand_23 rfl rfl ?_
      refine z_dup CX dX3_readCommand_24 rfl ?_
      refine z_get CX dX3_readCommand_25 fg_X3_22 xt_0 rfl ?_
      refine z_iconst CX (v := 1) dX3_readCommand_28 (by decide) ?_
      refine z_iadd CX dX3_readCommand_29 ?_
      rw [show upd s9 2 99 1 + 1 = nI (y + 1) from by show s9 1 + 1 = _; rw [h1]; exact ix_add (a := y) (b := 1) rfl rfl, ← hy0]
      refine z_put CX dX3_readCommand_30 fg_X3_22 fp_X3_3 xt_0 (Nat.le_of_ble_eq_true rfl) rfl rfl ?_
      refine z_heap xt_f1 ?_
      refine z_iconst CX (v := 0) dX3_readCommand_33 (by decide) ?_
      refine z_istore_n CX 2 dX3_readCommand_34 rfl (by decide) ?_
      refine z_iload_n CX 2 dX3_readCommand_35 rfl rfl ?_
      refine z_aload_n CX 0 dX3_readCommand_36 rfl rfl ?_
      refine z_get CX dX3_readCommand_37 fg_X3_15 xt_0 rfl ?_
      refine z_alen CX 0 dX3_readCommand_40 xt_2 rfl rfl ?_
      refine z_icmp_ge CX 98 dX3_readCommand_41 (by decide) (fun q9 => absurd q9 (show ¬ (4 : Int32) ≤ 0 by decide)) (fun _ => ?_)
      refine z_iconst CX (v := 3) dX3_readCommand_44 (by decide) ?_
      refine z_iload_n CX 2 dX3_readCommand_45 rfl rfl ?_
      refine z_imul CX dX3_readCommand_46 ?_
      refine z_iconst CX (v := 2) dX3_readCommand_47 (by decide) ?_
      refine z_iadd CX dX3_readCommand_48 ?_
      refine z_aload_n CX 1 dX3_readCommand_49 rfl rfl ?_
      refine z_oalen CX dX3_readCommand_50 (by decide) rfl ?_
      refine z_icmp_ge CX 98 dX3_readCommand_51 (by decide) (fun q9 => absurd q9 (by decide)) (fun _ => ?_)
      refine z_aload_n CX 0 dX3_readCommand_54 rfl rfl ?_
      refine z_aload_n CX 1 dX3_readCommand_55 rfl rfl ?_
      refine z_iconst CX (v := 3) dX3_readCommand_56 (by decide) ?_
      refine z_iload_n CX 2 dX3_readCommand_57 rfl rfl ?_
      refine z_imul CX dX3_readCommand_58 ?_
      refine z_oald CX (v := 1) dX3_readCommand_59 (by decide) (by unfold vp_in; decide) (by decide) ?_
      refine z_aload_n CX 1 dX3_readCommand_60 rfl rfl ?_
      refine z_iconst CX (v := 3) dX3_readCommand_61 (by decide) ?_
      refine z_iload_n CX 2 dX3_readCommand_62 rfl rfl ?_
      refine z_imul CX dX3_readCommand_63 ?_
      refine z_iconst CX (v := 1) dX3_readCommand_64 (by decide) ?_
      refine z_iadd CX dX3_readCommand_65 ?_
      refine z_oald CX (v := 0) dX3_readCommand_66 (by decide) (by unfold vp_in; decide) (by decide) ?_
      refine z_aload_n CX 1 dX3_readCommand_67 rfl rfl ?_
      refine z_iconst CX (v := 3) dX3_readCommand_68 (by decide) ?_
      refine z_iload_n CX 2 dX3_readCommand_69 rfl rfl ?_
      refine z_imul CX dX3_readCommand_70 ?_
      refine z_iconst CX (v := 2) dX3_readCommand_71 (by decide) ?_
      refine z_iadd CX dX3_readCommand_72 ?_
      refine z_oald CX (v := 3) dX3_readCommand_73 (by decide) (by unfold vp_in; decide) (by decide) ?_
      refine z_callV1 CX dX3_readCommand_74 cv_X3_50 (x_rn1 (s9 := (upd (upd s9 2 99) 1 (nI y0))) (y := y0) (a := 0) (b := 3) (show (upd (upd s9 2 99) 1 (nI y0)) 0 = nI len from h0) hl pk_us (by omega) (by decide) (by decide)) xt_0 rfl rfl (Nat.le_of_ble_eq_true rfl) ⟨Nat.le_of_ble_eq_true rfl, Nat.le_of_ble_eq_true rfl⟩ ⟨Nat.le_refl _, Nat.le_refl _⟩ ?_
      rw [upd_up9, show (if (dgS c9 len (nI 0) (nI 3) (y0, true)).2 = true then dgV c9 len (nI 0) (nI 3) (y0, true) else -1) = dgV c9 len (nI 0) (nI 3) (y0, true) from by rw [f1]; rfl, f1]
      refine z_istore_n CX 3 dX3_readCommand_77 rfl (by decide) ?_
      refine z_iload_n CX 3 dX3_readCommand_78 rfl rfl ?_
      refine z_iconst CX (v := (-1 : Int32)) dX3_readCommand_79 (by decide) ?_
      refine z_icmp_ne CX 85 dX3_readCommand_80 (by decide) (fun _ => ?_) (fun q9 => absurd q9 (dgV_nn (by decide) (by rw [f1])))
      refine z_aload_n CX 0 dX3_readCommand_85 rfl rfl ?_
      refine z_get CX dX3_readCommand_86 fg_X3_15 xt_0 rfl ?_
      refine z_iload_n CX 2 dX3_readCommand_89 rfl rfl ?_
      refine z_iload_n CX 3 dX3_readCommand_90 rfl rfl ?_
      refine z_is CX (j := 0) dX3_readCommand_91 xt_2 rfl (by omega) (by decide) ?_
      refine z_heap xt_d ?_
      refine z_iinc CX (v := 1) dX3_readCommand_92 rfl (by decide) (by decide) ?_
      refine z_goto CX 35 dX3_readCommand_95 (by decide) ?_
      refine z_iload_n CX 2 dX3_readCommand_35 rfl rfl ?_
      refine z_aload_n CX 0 dX3_readCommand_36 rfl rfl ?_
      refine z_get CX dX3_readCommand_37 fg_X3_15 xt_0 rfl ?_
      refine z_alen CX 0 dX3_readCommand_40 xt_2 rfl rfl ?_
      refine z_icmp_ge CX 98 dX3_readCommand_41 (by decide) (fun q9 => absurd q9 (show ¬ (4 : Int32) ≤ 1 by decide)) (fun _ => ?_)
      refine z_iconst CX (v := 3) dX3_readCommand_44 (by decide) ?_
      refine z_iload_n CX 2 dX3_readCommand_45 rfl rfl ?_
      refine z_imul CX dX3_readCommand_46 ?_
      refine z_iconst CX (v := 2) dX3_readCommand_47 (by decide) ?_
      refine z_iadd CX dX3_readCommand_48 ?_
      refine z_aload_n CX 1 dX3_readCommand_49 rfl rfl ?_
      refine z_oalen CX dX3_readCommand_50 (by decide) rfl ?_
      refine z_icmp_ge CX 98 dX3_readCommand_51 (by decide) (fun q9 => absurd q9 (by decide)) (fun _ => ?_)
      refine z_aload_n CX 0 dX3_readCommand_54 rfl rfl ?_
      refine z_aload_n CX 1 dX3_readCommand_55 rfl rfl ?_
      refine z_iconst CX (v := 3) dX3_readCommand_56 (by decide) ?_
      refine z_iload_n CX 2 dX3_readCommand_57 rfl rfl ?_
      refine z_imul CX dX3_readCommand_58 ?_
      refine z_oald CX (v := 1) dX3_readCommand_59 (by decide) (by unfold vp_in; decide) (by decide) ?_
      refine z_aload_n CX 1 dX3_readCommand_60 rfl rfl ?_
      refine z_iconst CX (v := 3) dX3_readCommand_61 (by decide) ?_
      refine z_iload_n CX 2 dX3_readCommand_62 rfl rfl ?_
      refine z_imul CX dX3_readCommand_63 ?_
      refine z_iconst CX (v := 1) dX3_readCommand_64 (by decide) ?_
      refine z_iadd CX dX3_readCommand_65 ?_
      refine z_oald CX (v := 0) dX3_readCommand_66 (by decide) (by unfold vp_in; decide) (by decide) ?_
      refine z_aload_n CX 1 dX3_readCommand_67 rfl rfl ?_
      refine z_iconst CX (v := 3) dX3_readCommand_68 (by decide) ?_
      refine z_iload_n CX 2 dX3_readCommand_69 rfl rfl ?_
      refine z_imul CX dX3_readCommand_70 ?_
      refine z_iconst CX (v := 2) dX3_readCommand_71 (by decide) ?_
      refine z_iadd CX dX3_readCommand_72 ?_
      refine z_oald CX (v := 9) dX3_readCommand_73 (by decide) (by unfold vp_in; decide) (by decide) ?_
      refine z_callV1 CX dX3_readCommand_74 cv_X3_50 (x_rn1 (s9 := (upd (upd s9 2 99) 1 (nI y1))) (y := y1) (a := 0) (b := 9) (show (upd (upd s9 2 99) 1 (nI y1)) 0 = nI len from h0) hl pk_us (by omega) (by decide) (by decide)) xt_0 rfl rfl (Nat.le_of_ble_eq_true rfl) ⟨Nat.le_of_ble_eq_true rfl, Nat.le_of_ble_eq_true rfl⟩ ⟨Nat.le_refl _, Nat.le_refl _⟩ ?_
      rw [upd_up9, show (if (dgS c9 len (nI 0) (nI 9) (y1, true)).2 = true then dgV c9 len (nI 0) (nI 9) (y1, true) else -1) = -1 from by rw [f2]; rfl, f2]
      refine z_istore_n CX 3 dX3_readCommand_77 rfl (by decide) ?_
      refine z_iload_n CX 3 dX3_readCommand_78 rfl rfl ?_
      refine z_iconst CX (v := (-1 : Int32)) dX3_readCommand_79 (by decide) ?_
      refine z_icmp_ne CX 85 dX3_readCommand_80 (by decide) (fun q9 => absurd q9 (fun z => z rfl)) (fun _ => ?_)
      refine z_iconst CX (v := 0) dX3_readCommand_83 (by decide) ?_
      exact z_zret CX dX3_readCommand_84 rfl (by first | rfl | exact bI_nar _) rfl rfl (Or.inl rfl)
  · obtain ⟨y1, e1⟩ : ∃ y1, dgS c9 len 0 3 (y0, true) = (y1, false) := ⟨(dgS c9 len 0 3 (y0, true)).1, Prod.ext rfl (Bool.eq_false_iff.mpr g1)⟩
    have f1 : dgS c9 len (nI 0) (nI 3) (y0, true) = (y1, false) := e1
    have ee : (pzC c9 len (y + 1)).1 = (y1, false) := by subst hy0; unfold pzC; simp only [e1, dgS_w]
    rw [ee]
    refine ⟨d9, @fun l w hs n k s9 h0 h1 => ?_, fun q => absurd q Bool.false_ne_true⟩
    refine Cn.of (d := mX3_readCommand) (by decide +kernel) (Nat.le_of_ble_eq_true rfl) ?_
    intro p e R s m args below meth c CX
    replace CX : Ctx p s m args meth c R w RX3 "readCommand" cX3_readCommand 4 (some .boolean) 2 46 0 0 := CX
    show ZW p l e R s m args below meth c w 4 _ _ 0 0 (MQ below (Qn w _ _ _) args s 0 0 (wA w)) 0 [(0, .ref (wB w + k))] []
    refine z_aload_n CX 0 dX3_readCommand_0 rfl rfl ?_
    refine z_aload_n CX 0 dX3_readCommand_1 rfl rfl ?_
    refine z_callV1 CX dX3_readCommand_2 cv_X3_25 (x_hand h0 hl h1 (by omega)) xt_0 rfl rfl (Nat.le_of_ble_eq_true rfl) ⟨Nat.le_of_ble_eq_true rfl, Nat.le_of_ble_eq_true rfl⟩ ⟨Nat.le_refl _, Nat.le_refl _⟩ ?_
    rw [hz]
    refine z_put CX dX3_readCommand_5 fg_X3_33 fp_X3_4 xt_0 (Nat.le_of_ble_eq_true rfl) rfl rfl ?_
    refine z_heap xt_f2 ?_
    refine z_aload_n CX 0 dX3_readCommand_8 rfl rfl ?_
    refine z_get CX dX3_readCommand_9 fg_X3_33 xt_0 rfl ?_
    refine z_callS1 CX dX3_readCommand_12 cs_X3_46 x_nb_99 rfl rfl (Nat.le_of_ble_eq_true rfl) ⟨Nat.le_of_ble_eq_true rfl, Nat.le_of_ble_eq_true rfl⟩ ⟨Nat.le_refl _, Nat.le_refl _⟩ ?_
    refine z_astore_n CX 1 dX3_readCommand_15 rfl (by decide) ?_
    refine z_aload_n CX 1 dX3_readCommand_16 rfl rfl ?_
    refine z_oalen CX dX3_readCommand_17 (by decide) rfl ?_
    refine z_if_ne CX 23 dX3_readCommand_18 (by decide) (fun _ => ?_) (fun q9 => absurd q9 (by decide))
    refine z_aload_n CX 0 dX3_readCommand_23 rfl rfl ?_
    refine z_dup CX dX3_readCommand_24 rfl ?_
    refine z_get CX dX3_readCommand_25 fg_X3_22 xt_0 rfl ?_
    refine z_iconst CX (v := 1) dX3_readCommand_28 (by decide) ?_
    refine z_iadd CX dX3_readCommand_29 ?_
    rw [show upd s9 2 99 1 + 1 = nI (y + 1) from by show s9 1 + 1 = _; rw [h1]; exact ix_add (a := y) (b := 1) rfl rfl, ← hy0]
    refine z_put CX dX3_readCommand_30 fg_X3_22 fp_X3_3 xt_0 (Nat.le_of_ble_eq_true rfl) rfl rfl ?_
    refine z_heap xt_f1 ?_
    refine z_iconst CX (v := 0) dX3_readCommand_33 (by decide) ?_
    refine z_istore_n CX 2 dX3_readCommand_34 rfl (by decide) ?_
    refine z_iload_n CX 2 dX3_readCommand_35 rfl rfl ?_
    refine z_aload_n CX 0 dX3_readCommand_36 rfl rfl ?_
    refine z_get CX dX3_readCommand_37 fg_X3_15 xt_0 rfl ?_
    refine z_alen CX 0 dX3_readCommand_40 xt_2 rfl rfl ?_
    refine z_icmp_ge CX 98 dX3_readCommand_41 (by decide) (fun q9 => absurd q9 (show ¬ (4 : Int32) ≤ 0 by decide)) (fun _ => ?_)
    refine z_iconst CX (v := 3) dX3_readCommand_44 (by decide) ?_
    refine z_iload_n CX 2 dX3_readCommand_45 rfl rfl ?_
    refine z_imul CX dX3_readCommand_46 ?_
    refine z_iconst CX (v := 2) dX3_readCommand_47 (by decide) ?_
    refine z_iadd CX dX3_readCommand_48 ?_
    refine z_aload_n CX 1 dX3_readCommand_49 rfl rfl ?_
    refine z_oalen CX dX3_readCommand_50 (by decide) rfl ?_
    refine z_icmp_ge CX 98 dX3_readCommand_51 (by decide) (fun q9 => absurd q9 (by decide)) (fun _ => ?_)
    refine z_aload_n CX 0 dX3_readCommand_54 rfl rfl ?_
    refine z_aload_n CX 1 dX3_readCommand_55 rfl rfl ?_
    refine z_iconst CX (v := 3) dX3_readCommand_56 (by decide) ?_
    refine z_iload_n CX 2 dX3_readCommand_57 rfl rfl ?_
    refine z_imul CX dX3_readCommand_58 ?_
    refine z_oald CX (v := 1) dX3_readCommand_59 (by decide) (by unfold vp_in; decide) (by decide) ?_
    refine z_aload_n CX 1 dX3_readCommand_60 rfl rfl ?_
    refine z_iconst CX (v := 3) dX3_readCommand_61 (by decide) ?_
    refine z_iload_n CX 2 dX3_readCommand_62 rfl rfl ?_
    refine z_imul CX dX3_readCommand_63 ?_
    refine z_iconst CX (v := 1) dX3_readCommand_64 (by decide) ?_
    refine z_iadd CX dX3_readCommand_65 ?_
    refine z_oald CX (v := 0) dX3_readCommand_66 (by decide) (by unfold vp_in; decide) (by decide) ?_
    refine z_aload_n CX 1 dX3_readCommand_67 rfl rfl ?_
    refine z_iconst CX (v := 3) dX3_readCommand_68 (by decide) ?_
    refine z_iload_n CX 2 dX3_readCommand_69 rfl rfl ?_
    refine z_imul CX dX3_readCommand_70 ?_
    refine z_iconst CX (v := 2) dX3_readCommand_71 (by decide) ?_
    refine z_iadd CX dX3_readCommand_72 ?_
    refine z_oald CX (v := 3) dX3_readCommand_73 (by decide) (by unfold vp_in; decide) (by decide) ?_
    refine z_callV1 CX dX3_readCommand_74 cv_X3_50 (x_rn1 (s9 := (upd (upd s9 2 99) 1 (nI y0))) (y := y0) (a := 0) (b := 3) (show (upd (upd s9 2 99) 1 (nI y0)) 0 = nI len from h0) hl pk_us (by omega) (by decide) (by decide)) xt_0 rfl rfl (Nat.le_of_ble_eq_true rfl) ⟨Nat.le_of_ble_eq_true rfl, Nat.le_of_ble_eq_true rfl⟩ ⟨Nat.le_refl _, Nat.le_refl _⟩ ?_
    rw [upd_up9, show (if (dgS c9 len (nI 0) (nI 3) (y0, true)).2 = true then dgV c9 len (nI 0) (nI 3) (y0, true) else -1) = -1 from by rw [f1]; rfl, f1]
    refine z_istore_n CX 3 dX3_readCommand_77 rfl (by decide) ?_
    refine z_iload_n CX 3 dX3_readCommand_78 rfl rfl ?_
    refine z_iconst CX (v := (-1 : Int32)) dX3_readCommand_79 (by decide) ?_
    refine z_icmp_ne CX 85 dX3_readCommand_80 (by decide) (fun q9 => absurd q9 (fun z => z rfl)) (fun _ => ?_)
    refine z_iconst CX (v := 0) dX3_readCommand_83 (by decide) ?_
    exact z_zret CX dX3_readCommand_84 rfl (by first | rfl | exact bI_nar _) rfl rfl (Or.inl rfl)
set_option maxHeartbeats 4000000 in
set_option maxRecDepth 100000 in
theorem x_rc_115 {c9 d9 : Nat → Int32} {len y : Nat} (hl : len ≤ 120) (hy : y < 200) (hz : hrF c9 len y = 115) : ∃ dd : Nat → Int32, (∀ {l : Launch} {w : Wt} {hs : Hs} {n : Option Nat} {k : Nat} {s9 : Nat → Int32}, s9 0 = nI len → s9 1 = nI y → Cn l w mX3_readCommand 0 0 [.ref (wB w + k)] (XT w hs k s9 c9 d9) n (XT w hs k (upd (upd s9 2 115) 1 (nI (pzS c9 len (y + 1)).1.1)) c9 dd) n (some (.int (bI (pzS c9 len (y + 1)).1.2)))) ∧ ((pzS c9 len (y + 1)).1.2 = true → dd 0 = (pzS c9 len (y + 1)).2.1 ∧ dd 1 = (pzS c9 len (y + 1)).2.2.1) := by
  obtain ⟨y0, hy0⟩ : ∃ y0, y0 = y + 1 := ⟨_, rfl⟩
  by_cases g1 : (dgS c9 len 0 2 (y0, true)).2 = true
  · obtain ⟨y1, e1⟩ : ∃ y1, dgS c9 len 0 2 (y0, true) = (y1, true) := ⟨(dgS c9 len 0 2 (y0, true)).1, Prod.ext rfl g1⟩
    have f1 : dgS c9 len (nI 0) (nI 2) (y0, true) = (y1, true) := e1
    have b1 : y1 ≤ y0 + 2 := by have q := (dgS_le (t := c9) (len := len) (lo := 0) (hi := 2) (q := (y0, true))).2; rw [e1] at q; show y1 ≤ (y0, true).1 + 2; omega
    by_cases g2 : (dgS c9 len 0 9 (y1, true)).2 = true
    · obtain ⟨y2, e2⟩ : ∃ y2, dgS c9 len 0 9 (y1, true) = (y2, true) := ⟨(dgS c9 len 0 9 (y1, true)).1, Prod.ext rfl g2⟩
      have f2 : dgS c9 len (nI 0) (nI 9) (y1, true) = (y2, true) := e2
      have b2 : y2 ≤ y1 + 2 := by have q := (dgS_le (t := c9) (len := len) (lo := 0) (hi := 9) (q := (y1, true))).2; rw [e2] at q; show y2 ≤ (y1, true).1 + 2; omega
      have ee : (pzS c9 len (y + 1)) = ((y2, true), dgV c9 len 0 2 (y0, true), dgV c9 len 0 9 (y1, true), 0, 0) := by subst hy0; unfold pzS; rw [e1, e2]
      rw [ee]
      refine ⟨(upd (upd d9 0 (dgV c9 len (nI 0) (nI 2) (y0, true))) 1 (dgV c9 len (nI 0) (nI 9) (y1, true))), @fun l w hs n k s9 h0 h1 => ?_, fun _ => ⟨rfl, rfl⟩⟩
      refine Cn.of (d := mX3_readCommand) (by decide +kernel) (Nat.le_of_ble_eq_true rfl) ?_
      intro p e R s m args below meth c CX
      replace CX : Ctx p s m args meth c R w RX3 "readCommand" cX3_readCommand 4 (some .boolean) 2 46 0 0 := CX
      show ZW p l e R s m args below meth c w 4 _ _ 0 0 (MQ below (Qn w _ _ _) args s 0 0 (wA w)) 0 [(0, .ref (wB w + k))] []
      refine z_aload_n CX 0 dX3_readCommand_0 rfl rfl ?_
      refine z_aload_n CX 0 dX3_readCommand_1 rfl rfl ?_
      refine z_callV1 CX dX3_readCommand_2 cv_X3_25 (x_hand h0 hl h1 (by omega)) xt_0 rfl rfl (Nat.le_of_ble_eq_true rfl) ⟨Nat.le_of_ble_eq_true rfl, Nat.le_of_ble_eq_true rfl⟩ ⟨Nat.le_refl _, Nat.le_refl _⟩ ?_
      rw [hz]
      refine z_put CX dX3_readCommand_5 fg_X3_33 fp_X3_4 xt_0 (Nat.le_of_ble_eq_true rfl) rfl rfl ?_
      refine z_heap xt_f2 ?_
      refine z_aload_n CX 0 dX3_readCommand_8 rfl rfl ?_
      refine z_get CX dX3_readCommand_9 fg_X3_33 xt_0 rfl ?_
      refine z_callS1 CX dX3_readCommand_12 cs_X3_46 x_nb_115 rfl rfl (Nat.le_of_ble_eq_true rfl) ⟨Nat.le_of_ble_eq_true rfl, Nat.le_of_ble_eq_true rfl⟩ ⟨Nat.le_refl _, Nat.le_refl _⟩ ?_
      refine z_astore_n CX 1 dX3_readCommand_15 rfl (by decide) ?_
      refine z_aload_n CX 1 dX3_readCommand_16 rfl rfl ?_
      refine z_oalen CX dX3_readCommand_17 (by decide) rfl ?_
      refine z_if_ne CX 23 dX3_readCommand_18 (by decide) (fun _ => ?_) (fun q9 => absurd q9 (by decide))
      refine z_aload_n CX 0 dX3_readCommand_23 rfl rfl ?_
      refine z_dup CX dX3_readCommand_24 rfl ?_
      refine z_get CX dX3_readCommand_25 fg_X3_22 xt_0 rfl ?_
      refine z_iconst CX (v := 1) dX3_readCommand_28 (by decide) ?_
      refine z_iadd CX dX3_readCommand_29 ?_
      rw [show upd s9 2 115 1 + 1 = nI (y + 1) from by show s9 1 + 1 = _; rw [h1]; exact ix_add (a := y) (b := 1) rfl rfl, ← hy0]
      refine z_put CX dX3_readCommand_30 fg_X3_22 fp_X3_3 xt_0 (Nat.le_of_ble_eq_true rfl) rfl rfl ?_
      refine z_heap xt_f1 ?_
      refine z_iconst CX (v := 0) dX3_readCommand_33 (by decide) ?_
      refine z_istore_n CX 2 dX3_readCommand_34 rfl (by decide) ?_
      refine z_iload_n CX 2 dX3_readCommand_35 rfl rfl ?_
      refine z_aload_n CX 0 dX3_readCommand_36 rfl rfl ?_
      refine z_get CX dX3_readCommand_37 fg_X3_15 xt_0 rfl ?_
      refine z_alen CX 0 dX3_readCommand_40 xt_2 rfl rfl ?_
      refine z_icmp_ge CX 98 dX3_readCommand_41 (by decide) (fun q9 => absurd q9 (show ¬ (4 : Int32) ≤ 0 by decide)) (fun _ => ?_)
      refine z_iconst CX (v := 3) dX3_readCommand_44 (by decide) ?_
      refine z_iload_n CX 2 dX3_readCommand_45 rfl rfl ?_
      refine z_imul CX dX3_readCommand_46 ?_
      refine z_iconst CX (v := 2) dX3_readCommand_47 (by decide) ?_
      refine z_iadd CX dX3_readCommand_48 ?_
      refine z_aload_n CX 1 dX3_readCommand_49 rfl rfl ?_
      refine z_oalen CX dX3_readCommand_50 (by decide) rfl ?_
      refine z_icmp_ge CX 98 dX3_readCommand_51 (by decide) (fun q9 => absurd q9 (by decide)) (fun _ => ?_)
      refine z_aload_n CX 0 dX3_readCommand_54 rfl rfl ?_
      refine z_aload_n CX 1 dX3_readCommand_55 rfl rfl ?_
      refine z_iconst CX (v := 3) dX3_readCommand_56 (by decide) ?_
      refine z_iload_n CX 2 dX3_readCommand_57 rfl rfl ?_
      refine z_imul CX dX3_readCommand_58 ?_
      refine z_oald CX (v := 1) dX3_readCommand_59 (by decide) (by unfold vp_in; decide) (by decide) ?_
      refine z_aload_n CX 1 dX3_readCommand_60 rfl rfl ?_
      refine z_iconst CX (v := 3) dX3_readCommand_61 (by decide) ?_
      refine z_iload_n CX 2 dX3_readCommand_62 rfl rfl ?_
      refine z_imul CX dX3_readCommand_63 ?_
      refine z_iconst CX (v := 1) dX3_readCommand_64 (by decide) ?_
      refine z_iadd CX dX3_readCommand_65 ?_
      refine z_oald CX (v := 0) dX3_readCommand_66 (by decide) (by unfold vp_in; decide) (by decide) ?_
      refine z_aload_n CX 1 dX3_readCommand_67 rfl rfl ?_
      refine z_iconst CX (v := 3) dX3_readCommand_68 (by decide) ?_
      refine z_iload_n CX 2 dX3_readCommand_69 rfl rfl ?_
      refine z_imul CX dX3_readCommand_70 ?_
      refine z_iconst CX (v := 2) dX3_readCommand_71 (by decide) ?_
      refine z_iadd CX dX3_readCommand_72 ?_
      refine z_oald CX (v := 2) dX3_readCommand_73 (by decide) (by unfold vp_in; decide) (by decide) ?_
      refine z_callV1 CX dX3_readCommand_74 cv_X3_50 (x_rn1 (s9 := (upd (upd s9 2 115) 1 (nI y0))) (y := y0) (a := 0) (b := 2) (show (upd (upd s9 2 115) 1 (nI y0)) 0 = nI len from h0) hl pk_us (by omega) (by decide) (by decide)) xt_0 rfl rfl (Nat.le_of_ble_eq_true rfl) ⟨Nat.le_of_ble_eq_true rfl, Nat.le_of_ble_eq_true rfl⟩ ⟨Nat.le_refl _, Nat.le_refl _⟩ ?_
      rw [upd_up9, show (if (dgS c9 len (nI 0) (nI 2) (y0, true)).2 = true then dgV c9 len (nI 0) (nI 2) (y0, true) else -1) = dgV c9 len (nI 0) (nI 2) (y0, true) from by rw [f1]; rfl, f1]
      refine z_istore_n CX 3 dX3_readCommand_77 rfl (by decide) ?_
      refine z_iload_n CX 3 dX3_readCommand_78 rfl rfl ?_
      refine z_iconst CX (v := (-1 : Int32)) dX3_readCommand_79 (by decide) ?_
      refine z_icmp_ne CX 85 dX3_readCommand_80 (by decide) (fun _ => ?_) (fun q9 => absurd q9 (dgV_nn (by decide) (by rw [f1])))
      refine z_aload_n CX 0 dX3_readCommand_85 rfl rfl ?_
      refine z_get CX dX3_readCommand_86 fg_X3_15 xt_0 rfl ?_
      refine z_iload_n CX 2 dX3_readCommand_89 rfl rfl ?_
      refine z_iload_n CX 3 dX3_readCommand_90 rfl rfl ?_
      refine z_is CX (j := 0) dX3_readCommand_91 xt_2 rfl (by omega) (by decide) ?_
      refine z_heap xt_d ?_
      refine z_iinc CX (v := 1) dX3_readCommand_92 rfl (by decide) (by decide) ?_
      refine z_goto CX 35 dX3_readCommand_95 (by decide) ?_
      refine z_iload_n CX 2 dX3_readCommand_35 rfl rfl ?_
      refine z_aload_n CX 0 dX3_readCommand_36 rfl rfl ?_
      refine z_get CX dX3_readCommand_37 fg_X3_15 xt_0 rfl ?_
      refine z_alen CX 0 dX3_readCommand_40 xt_2 rfl rfl ?_
      refine z_icmp_ge CX 98 dX3_readCommand_41 (by decide) (fun q9 => absurd q9 (show ¬ (4 : Int32) ≤ 1 by decide)) (fun _ => ?_)
      refine z_iconst CX (v := 3) dX3_readCommand_44 (by decide) ?_
      refine z_iload_n CX 2 dX3_readCommand_45 rfl rfl ?_
      refine z_imul CX dX3_readCommand_46 ?_
      refine z_iconst CX (v := 2) dX3_readCommand_47 (by decide) ?_
      refine z_iadd CX dX3_readCommand_48 ?_
      refine z_aload_n CX 1 dX3_readCommand_49 rfl rfl ?_
      refine z_oalen CX dX3_readCommand_50 (by decide) rfl ?_
      refine z_icmp_ge CX 98 dX3_readCommand_51 (by decide) (fun q9 => absurd q9 (by decide)) (fun _ => ?_)
      refine z_aload_n CX 0 dX3_readCommand_54 rfl rfl ?_
      refine z_aload_n CX 1 dX3_readCommand_55 rfl rfl ?_
      refine z_iconst CX (v := 3) dX3_readCommand_56 (by decide) ?_
      refine z_iload_n CX 2 dX3_readCommand_57 rfl rfl ?_
      refine z_imul CX dX3_readCommand_58 ?_
      refine z_oald CX (v := 1) dX3_readCommand_59 (by decide) (by unfold vp_in; decide) (by decide) ?_
      refine z_aload_n CX 1 dX3_readCommand_60 rfl rfl ?_
      refine z_iconst CX (v := 3) dX3_readCommand_61 (by decide) ?_
      refine z_iload_n CX 2 dX3_readCommand_62 rfl rfl ?_
      refine z_imul CX dX3_readCommand_63 ?_
      refine z_iconst CX (v := 1) dX3_readCommand_64 (by decide) ?_
      refine z_iadd CX dX3_readCommand_65 ?_
      refine z_oald CX (v := 0) dX3_readCommand_66 (by decide) (by unfold vp_in; decide) (by decide) ?_
      refine z_aload_n CX 1 dX3_readCommand_67 rfl rfl ?_
      refine z_iconst CX (v := 3) dX3_readCommand_68 (by decide) ?_
      refine z_iload_n CX 2 dX3_readCommand_69 rfl rfl ?_
      refine z_imul CX dX3_readCommand_70 ?_
      refine z_iconst CX (v := 2) dX3_readCommand_71 (by decide) ?_
      refine z_iadd CX dX3_readCommand_72 ?_
      refine z_oald CX (v := 9) dX3_readCommand_73 (by decide) (by unfold vp_in; decide) (by decide) ?_
      refine z_callV1 CX dX3_readCommand_74 cv_X3_50 (x_rn1 (s9 := (upd (upd s9 2 115) 1 (nI y1))) (y := y1) (a := 0) (b := 9) (show (upd (upd s9 2 115) 1 (nI y1)) 0 = nI len from h0) hl pk_us (by omega) (by decide) (by decide)) xt_0 rfl rfl (Nat.le_of_ble_eq_true rfl) ⟨Nat.le_of_ble_eq_true rfl, Nat.le_of_ble_eq_true rfl⟩ ⟨Nat.le_refl _, Nat.le_refl _⟩ ?_
      rw [upd_up9, show (if (dgS c9 len (nI 0) (nI 9) (y1, true)).2 = true then dgV c9 len (nI 0) (nI 9) (y1, true) else -1) = dgV c9 len (nI 0) (nI 9) (y1, true) from by rw [f2]; rfl, f2]
      refine z_istore_n CX 3 dX3_readCommand_77 rfl (by decide) ?_
      refine z_iload_n CX 3 dX3_readCommand_78 rfl rfl ?_
      refine z_iconst CX (v := (-1 : Int32)) dX3_readCommand_79 (by decide) ?_
      refine z_icmp_ne CX 85 dX3_readCommand_80 (by decide) (fun _ => ?_) (fun q9 => absurd q9 (dgV_nn (by decide) (by rw [f2])))
      refine z_aload_n CX 0 dX3_readCommand_85 rfl rfl ?_
      refine z_get CX dX3_readCommand_86 fg_X3_15 xt_0 rfl ?_
      refine z_iload_n CX 2 dX3_readCommand_89 rfl rfl ?_
      refine z_iload_n CX 3 dX3_readCommand_90 rfl rfl ?_
      refine z_is CX (j := 1) dX3_readCommand_91 xt_2 rfl (by omega) (by decide) ?_
      refine z_heap xt_d ?_
      refine z_iinc CX (v := 2) dX3_readCommand_92 rfl (by decide) (by decide) ?_
      refine z_goto CX 35 dX3_readCommand_95 (by decide) ?_
      refine z_iload_n CX 2 dX3_readCommand_35 rfl rfl ?_
      refine z_aload_n CX 0 dX3_readCommand_36 rfl rfl ?_
      refine z_get CX dX3_readCommand_37 fg_X3_15 xt_0 rfl ?_
      refine z_alen CX 0 dX3_readCommand_40 xt_2 rfl rfl ?_
      refine z_icmp_ge CX 98 dX3_readCommand_41 (by decide) (fun q9 => absurd q9 (show ¬ (4 : Int32) ≤ 2 by decide)) (fun _ => ?_)
      refine z_iconst CX (v := 3) dX3_readCommand_44 (by decide) ?_
      refine z_iload_n CX 2 dX3_readCommand_45 rfl rfl ?_
      refine z_imul CX dX3_readCommand_46 ?_
      refine z_iconst CX (v := 2) dX3_readCommand_47 (by decide) ?_
      refine z_iadd CX dX3_readCommand_48 ?_
      refine z_aload_n CX 1 dX3_readCommand_49 rfl rfl ?_
      refine z_oalen CX dX3_readCommand_50 (by decide) rfl ?_
      refine z_icmp_ge CX 98 dX3_readCommand_51 (by decide) (fun _ => ?_) (fun q9 => absurd (by decide) q9)
      refine z_iconst CX (v := 1) dX3_readCommand_98 (by decide) ?_
      exact z_zret CX dX3_readCommand_99 rfl (by first | rfl | exact bI_nar _) rfl rfl (Or.inl rfl)
    · obtain ⟨y2, e2⟩ : ∃ y2, dgS c9 len 0 9 (y1, true) = (y2, false) := ⟨(dgS c9 len 0 9 (y1, true)).1, Prod.ext rfl (Bool.eq_false_iff.mpr g2)⟩
      have f2 : dgS c9 len (nI 0) (nI 9) (y1, true) = (y2, false) := e2
      have ee : (pzS c9 len (y + 1)).1 = (y2, false) := by subst hy0; unfold pzS; simp only [e1, e2]
      rw [ee]
      refine ⟨(upd d9 0 (dgV c9 len (nI 0) (nI 2) (y0, true))), @fun l w hs n k s9 h0 h1 => ?_, fun q => absurd q Bool.false_ne_true⟩
      refine Cn.of (d := mX3_readCommand) (by decide +kernel) (Nat.le_of_ble_eq_true rfl) ?_
      intro p e R s m args below meth c CX
      replace CX : Ctx p s m args meth c R w RX3 "readCommand" cX3_readCommand 4 (some .boolean) 2 46 0 0 := CX
      show ZW p l e R s m args below meth c w 4 _ _ 0 0 (MQ below (Qn w _ _ _) args s 0 0 (wA w)) 0 [(0, .ref (wB w + k))] []
      refine z_aload_n CX 0 dX3_readCommand_0 rfl rfl ?_
      refine z_aload_n CX 0 dX3_readCommand_1 rfl rfl ?_
      refine z_callV1 CX dX3_readCommand_2 cv_X3_25 (x_hand h0 hl h1 (by omega)) xt_0 rfl rfl (Nat.le_of_ble_eq_true rfl) ⟨Nat.le_of_ble_eq_true rfl, Nat.le_of_ble_eq_true rfl⟩ ⟨Nat.le_refl _, Nat.le_refl _⟩ ?_
      rw [hz]
      refine z_put CX dX3_readCommand_5 fg_X3_33 fp_X3_4 xt_0 (Nat.le_of_ble_eq_true rfl) rfl rfl ?_
      refine z_heap xt_f2 ?_
      refine z_aload_n CX 0 dX3_readCommand_8 rfl rfl ?_
      refine z_get CX dX3_readCommand_9 fg_X3_33 xt_0 rfl ?_
      refine z_callS1 CX dX3_readCommand_12 cs_X3_46 x_nb_115 rfl rfl (Nat.le_of_ble_eq_true rfl) ⟨Nat.le_of_ble_eq_true rfl, Nat.le_of_ble_eq_true rfl⟩ ⟨Nat.le_refl _, Nat.le_refl _⟩ ?_
      refine z_astore_n CX 1 dX3_readCommand_15 rfl (by decide) ?_
      refine z_aload_n CX 1 dX3_readCommand_16 rfl rfl ?_
      refine z_oalen CX dX3_readCommand_17 (by decide) rfl ?_
      refine z_if_ne CX 23 dX3_readCommand_18 (by decide) (fun _ => ?_) (fun q9 => absurd q9 (by decide))
      refine z_aload_n CX 0 dX3_readCommand_23 rfl rfl ?_
      refine z_dup CX dX3_readCommand_24 rfl ?_
      refine z_get CX dX3_readCommand_25 fg_X3_22 xt_0 rfl ?_
      refine z_iconst CX (v := 1) dX3_readCommand_28 (by decide) ?_
      refine z_iadd CX dX3_readCommand_29 ?_
      rw [show upd s9 2 115 1 + 1 = nI (y + 1) from by show s9 1 + 1 = _; rw [h1]; exact ix_add (a := y) (b := 1) rfl rfl, ← hy0]
      refine z_put CX dX3_readCommand_30 fg_X3_22 fp_X3_3 xt_0 (Nat.le_of_ble_eq_true rfl) rfl rfl ?_
      refine z_heap xt_f1 ?_
      refine z_iconst CX (v := 0) dX3_readCommand_33 (by decide) ?_
      refine z_istore_n CX 2 dX3_readCommand_34 rfl (by decide) ?_
      refine z_iload_n CX 2 dX3_readCommand_35 rfl rfl ?_
      refine z_aload_n CX 0 dX3_readCommand_36 rfl rfl ?_
      refine z_get CX dX3_readCommand_37 fg_X3_15 xt_0 rfl ?_
      refine z_alen CX 0 dX3_readCommand_40 xt_2 rfl rfl ?_
      refine z_icmp_ge CX 98 dX3_readCommand_41 (by decide) (fun q9 => absurd q9 (show ¬ (4 : Int32) ≤ 0 by decide)) (fun _ => ?_)
      refine z_iconst CX (v := 3) dX3_readCommand_44 (by decide) ?_
      refine z_iload_n CX 2 dX3_readCommand_45 rfl rfl ?_
      refine z_imul CX dX3_readCommand_46 ?_
      refine z_iconst CX (v := 2) dX3_readCommand_47 (by decide) ?_
      refine z_iadd CX dX3_readCommand_48 ?_
      refine z_aload_n CX 1 dX3_readCommand_49 rfl rfl ?_
      refine z_oalen CX dX3_readCommand_50 (by decide) rfl ?_
      refine z_icmp_ge CX 98 dX3_readCommand_51 (by decide) (fun q9 => absurd q9 (by decide)) (fun _ => ?_)
      refine z_aload_n CX 0 dX3_readCommand_54 rfl rfl ?_
      refine z_aload_n CX 1 dX3_readCommand_55 rfl rfl ?_
      refine z_iconst CX (v := 3) dX3_readCommand_56 (by decide) ?_
      refine z_iload_n CX 2 dX3_readCommand_57 rfl rfl ?_
      refine z_imul CX dX3_readCommand_58 ?_
      refine z_oald CX (v := 1) dX3_readCommand_59 (by decide) (by unfold vp_in; decide) (by decide) ?_
      refine z_aload_n CX 1 dX3_readCommand_60 rfl rfl ?_
      refine z_iconst CX (v := 3) dX3_readCommand_61 (by decide) ?_
      refine z_iload_n CX 2 dX3_readCommand_62 rfl rfl ?_
      refine z_imul CX dX3_readCommand_63 ?_
      refine z_iconst CX (v := 1) dX3_readCommand_64 (by decide) ?_
      refine z_iadd CX dX3_readCommand_65 ?_
      refine z_oald CX (v := 0) dX3_readCommand_66 (by decide) (by unfold vp_in; decide) (by decide) ?_
      refine z_aload_n CX 1 dX3_readCommand_67 rfl rfl ?_
      refine z_iconst CX (v := 3) dX3_readCommand_68 (by decide) ?_
      refine z_iload_n CX 2 dX3_readCommand_69 rfl rfl ?_
      refine z_imul CX dX3_readCommand_70 ?_
      refine z_iconst CX (v := 2) dX3_readCommand_71 (by decide) ?_
      refine z_iadd CX dX3_readCommand_72 ?_
      refine z_oald CX (v := 2) dX3_readCommand_73 (by decide) (by unfold vp_in; decide) (by decide) ?_
      refine z_callV1 CX dX3_readCommand_74 cv_X3_50 (x_rn1 (s9 := (upd (upd s9 2 115) 1 (nI y0))) (y := y0) (a := 0) (b := 2) (show (upd (upd s9 2 115) 1 (nI y0)) 0 = nI len from h0) hl pk_us (by omega) (by decide) (by decide)) xt_0 rfl rfl (Nat.le_of_ble_eq_true rfl) ⟨Nat.le_of_ble_eq_true rfl, Nat.le_of_ble_eq_true rfl⟩ ⟨Nat.le_refl _, Nat.le_refl _⟩ ?_
      rw [upd_up9, show (if (dgS c9 len (nI 0) (nI 2) (y0, true)).2 = true then dgV c9 len (nI 0) (nI 2) (y0, true) else -1) = dgV c9 len (nI 0) (nI 2) (y0, true) from by rw [f1]; rfl, f1]
      refine z_istore_n CX 3 dX3_readCommand_77 rfl (by decide) ?_
      refine z_iload_n CX 3 dX3_readCommand_78 rfl rfl ?_
      refine z_iconst CX (v := (-1 : Int32)) dX3_readCommand_79 (by decide) ?_
      refine z_icmp_ne CX 85 dX3_readCommand_80 (by decide) (fun _ => ?_) (fun q9 => absurd q9 (dgV_nn (by decide) (by rw [f1])))
      refine z_aload_n CX 0 dX3_readCommand_85 rfl rfl ?_
      refine z_get CX dX3_readCommand_86 fg_X3_15 xt_0 rfl ?_
      refine z_iload_n CX 2 dX3_readCommand_89 rfl rfl ?_
      refine z_iload_n CX 3 dX3_readCommand_90 rfl rfl ?_
      refine z_is CX (j := 0) dX3_readCommand_91 xt_2 rfl (by omega) (by decide) ?_
      refine z_heap xt_d ?_
      refine z_iinc CX (v := 1) dX3_readCommand_92 rfl (by decide) (by decide) ?_
      refine z_goto CX 35 dX3_readCommand_95 (by decide) ?_
      refine z_iload_n CX 2 dX3_readCommand_35 rfl rfl ?_
      refine z_aload_n CX 0 dX3_readCommand_36 rfl rfl ?_
      refine z_get CX dX3_readCommand_37 fg_X3_15 xt_0 rfl ?_
      refine z_alen CX 0 dX3_readCommand_40 xt_2 rfl rfl ?_
      refine z_icmp_ge CX 98 dX3_readCommand_41 (by decide) (fun q9 => absurd q9 (show ¬ (4 : Int32) ≤ 1 by decide)) (fun _ => ?_)
      refine z_iconst CX (v := 3) dX3_readCommand_44 (by decide) ?_
      refine z_iload_n CX 2 dX3_readCommand_45 rfl rfl ?_
      refine z_imul CX dX3_readCommand_46 ?_
      refine z_iconst CX (v := 2) dX3_readCommand_47 (by decide) ?_
      refine z_iadd CX dX3_readCommand_48 ?_
      refine z_aload_n CX 1 dX3_readCommand_49 rfl rfl ?_
      refine z_oalen CX dX3_readCommand_50 (by decide) rfl ?_
      refine z_icmp_ge CX 98 dX3_readCommand_51 (by decide) (fun q9 => absurd q9 (by decide)) (fun _ => ?_)
      refine z_aload_n CX 0 dX3_readCommand_54 rfl rfl ?_
      refine z_aload_n CX 1 dX3_readCommand_55 rfl rfl ?_
      refine z_iconst CX (v := 3) dX3_readCommand_56 (by decide) ?_
      refine z_iload_n CX 2 dX3_readCommand_57 rfl rfl ?_
      refine z_imul CX dX3_readCommand_58 ?_
      refine z_oald CX (v := 1) dX3_readCommand_59 (by decide) (by unfold vp_in; decide) (by decide) ?_
      refine z_aload_n CX 1 dX3_readCommand_60 rfl rfl ?_
      refine z_iconst CX (v := 3) dX3_readCommand_61 (by decide) ?_
      refine z_iload_n CX 2 dX3_readCommand_62 rfl rfl ?_
      refine z_imul CX dX3_readCommand_63 ?_
      refine z_iconst CX (v := 1) dX3_readCommand_64 (by decide) ?_
      refine z_iadd CX dX3_readCommand_65 ?_
      refine z_oald CX (v := 0) dX3_readCommand_66 (by decide) (by unfold vp_in; decide) (by decide) ?_
      refine z_aload_n CX 1 dX3_readCommand_67 rfl rfl ?_
      refine z_iconst CX (v := 3) dX3_readCommand_68 (by decide) ?_
      refine z_iload_n CX 2 dX3_readCommand_69 rfl rfl ?_
      refine z_imul CX dX3_readCommand_70 ?_
      refine z_iconst CX (v := 2) dX3_readCommand_71 (by decide) ?_
      refine z_iadd CX dX3_readCommand_72 ?_
      refine z_oald CX (v := 9) dX3_readCommand_73 (by decide) (by unfold vp_in; decide) (by decide) ?_
      refine z_callV1 CX dX3_readCommand_74 cv_X3_50 (x_rn1 (s9 := (upd (upd s9 2 115) 1 (nI y1))) (y := y1) (a := 0) (b := 9) (show (upd (upd s9 2 115) 1 (nI y1)) 0 = nI len from h0) hl pk_us (by omega) (by decide) (by decide)) xt_0 rfl rfl (Nat.le_of_ble_eq_true rfl) ⟨Nat.le_of_ble_eq_true rfl, Nat.le_of_ble_eq_true rfl⟩ ⟨Nat.le_refl _, Nat.le_refl _⟩ ?_
      rw [upd_up9, show (if (dgS c9 len (nI 0) (nI 9) (y1, true)).2 = true then dgV c9 len (nI 0) (nI 9) (y1, true) else -1) = -1 from by rw [f2]; rfl, f2]
      refine z_istore_n CX 3 dX3_readCommand_77 rfl (by decide) ?_
      refine z_iload_n CX 3 dX3_readCommand_78 rfl rfl ?_
      refine z_iconst CX (v := (-1 : Int32)) dX3_readCommand_79 (by decide) ?_
      refine z_icmp_ne CX 85 dX3_readCommand_80 (by decide) (fun q9 => absurd q9 (fun z => z rfl)) (fun _ => ?_)
      refine z_iconst CX (v := 0) dX3_readCommand_83 (by decide) ?_
      exact z_zret CX dX3_readCommand_84 rfl (by first | rfl | exact bI_nar _) rfl rfl (Or.inl rfl)
  · obtain ⟨y1, e1⟩ : ∃ y1, dgS c9 len 0 2 (y0, true) = (y1, false) := ⟨(dgS c9 len 0 2 (y0, true)).1, Prod.ext rfl (Bool.eq_false_iff.mpr g1)⟩
    have f1 : dgS c9 len (nI 0) (nI 2) (y0, true) = (y1, false) := e1
    have ee : (pzS c9 len (y + 1)).1 = (y1, false) := by subst hy0; unfold pzS; simp only [e1, dgS_w]
    rw [ee]
    refine ⟨d9, @fun l w hs n k s9 h0 h1 => ?_, fun q => absurd q Bool.false_ne_true⟩
    refine Cn.of (d := mX3_readCommand) (by decide +kernel) (Nat.le_of_ble_eq_true rfl) ?_
    intro p e R s m args below meth c CX
    replace CX : Ctx p s m args meth c R w RX3 "readCommand" cX3_readCommand 4 (some .boolean) 2 46 0 0 := CX
    show ZW p l e R s m args below meth c w 4 _ _ 0 0 (MQ below (Qn w _ _ _) args s 0 0 (wA w)) 0 [(0, .ref (wB w + k))] []
    refine z_aload_n CX 0 dX3_readCommand_0 rfl rfl ?_
    refine z_aload_n CX 0 dX3_readCommand_1 rfl rfl ?_
    refine z_callV1 CX dX3_readCommand_2 cv_X3_25 (x_hand h0 hl h1 (by omega)) xt_0 rfl rfl (Nat.le_of_ble_eq_true rfl) ⟨Nat.le_of_ble_eq_true rfl, Nat.le_of_ble_eq_true rfl⟩ ⟨Nat.le_refl _, Nat.le_refl _⟩ ?_
    rw [hz]
    refine z_put CX dX3_readCommand_5 fg_X3_33 fp_X3_4 xt_0 (Nat.le_of_ble_eq_true rfl) rfl rfl ?_
    refine z_heap xt_f2 ?_
    refine z_aload_n CX 0 dX3_readCommand_8 rfl rfl ?_
    refine z_get CX dX3_readCommand_9 fg_X3_33 xt_0 rfl ?_
    refine z_callS1 CX dX3_readCommand_12 cs_X3_46 x_nb_115 rfl rfl (Nat.le_of_ble_eq_true rfl) ⟨Nat.le_of_ble_eq_true rfl, Nat.le_of_ble_eq_true rfl⟩ ⟨Nat.le_refl _, Nat.le_refl _⟩ ?_
    refine z_astore_n CX 1 dX3_readCommand_15 rfl (by decide) ?_
    refine z_aload_n CX 1 dX3_readCommand_16 rfl rfl ?_
    refine z_oalen CX dX3_readCommand_17 (by decide) rfl ?_
    refine z_if_ne CX 23 dX3_readCommand_18 (by decide) (fun _ => ?_) (fun q9 => absurd q9 (by decide))
    refine z_aload_n CX 0 dX3_readCommand_23 rfl rfl ?_
    refine z_dup CX dX3_readCommand_24 rfl ?_
    refine z_get CX dX3_readCommand_25 fg_X3_22 xt_0 rfl ?_
    refine z_iconst CX (v := 1) dX3_readCommand_28 (by decide) ?_
    refine z_iadd CX dX3_readCommand_29 ?_
    rw [show upd s9 2 115 1 + 1 = nI (y + 1) from by show s9 1 + 1 = _; rw [h1]; exact ix_add (a := y) (b := 1) rfl rfl, ← hy0]
    refine z_put CX dX3_readCommand_30 fg_X3_22 fp_X3_3 xt_0 (Nat.le_of_ble_eq_true rfl) rfl rfl ?_
    refine z_heap xt_f1 ?_
    refine z_iconst CX (v := 0) dX3_readCommand_33 (by decide) ?_
    refine z_istore_n CX 2 dX3_readCommand_34 rfl (by decide) ?_
    refine z_iload_n CX 2 dX3_readCommand_35 rfl rfl ?_
    refine z_aload_n CX 0 dX3_readCommand_36 rfl rfl ?_
    refine z_get CX dX3_readCommand_37 fg_X3_15 xt_0 rfl ?_
    refine z_alen CX 0 dX3_readCommand_40 xt_2 rfl rfl ?_
    refine z_icmp_ge CX 98 dX3_readCommand_41 (by decide) (fun q9 => absurd q9 (show ¬ (4 : Int32) ≤ 0 by decide)) (fun _ => ?_)
    refine z_iconst CX (v := 3) dX3_readCommand_44 (by decide) ?_
    refine z_iload_n CX 2 dX3_readCommand_45 rfl rfl ?_
    refine z_imul CX dX3_readCommand_46 ?_
    refine z_iconst CX (v := 2) dX3_readCommand_47 (by decide) ?_
    refine z_iadd CX dX3_readCommand_48 ?_
    refine z_aload_n CX 1 dX3_readCommand_49 rfl rfl ?_
    refine z_oalen CX dX3_readCommand_50 (by decide) rfl ?_
    refine z_icmp_ge CX 98 dX3_readCommand_51 (by decide) (fun q9 => absurd q9 (by decide)) (fun _ => ?_)
    refine z_aload_n CX 0 dX3_readCommand_54 rfl rfl ?_
    refine z_aload_n CX 1 dX3_readCommand_55 rfl rfl ?_
    refine z_iconst CX (v := 3) dX3_readCommand_56 (by decide) ?_
    refine z_iload_n CX 2 dX3_readCommand_57 rfl rfl ?_
    refine z_imul CX dX3_readCommand_58 ?_
    refine z_oald CX (v := 1) dX3_readCommand_59 (by decide) (by unfold vp_in; decide) (by decide) ?_
    refine z_aload_n CX 1 dX3_readCommand_60 rfl rfl ?_
    refine z_iconst CX (v := 3) dX3_readCommand_61 (by decide) ?_
    refine z_iload_n CX 2 dX3_readCommand_62 rfl rfl ?_
    refine z_imul CX dX3_readCommand_63 ?_
    refine z_iconst CX (v := 1) dX3_readCommand_64 (by decide) ?_
    refine z_iadd CX dX3_readCommand_65 ?_
    refine z_oald CX (v := 0) dX3_readCommand_66 (by decide) (by unfold vp_in; decide) (by decide) ?_
    refine z_aload_n CX 1 dX3_readCommand_67 rfl rfl ?_
    refine z_iconst CX (v := 3) dX3_readCommand_68 (by decide) ?_
    refine z_iload_n CX 2 dX3_readCommand_69 rfl rfl ?_
    refine z_imul CX dX3_readCommand_70 ?_
    refine z_iconst CX (v := 2) dX3_readCommand_71 (by decide) ?_
    refine z_iadd CX dX3_readCommand_72 ?_
    refine z_oald CX (v := 2) dX3_readCommand_73 (by decide) (by unfold vp_in; decide) (by decide) ?_
    refine z_callV1 CX dX3_readCommand_74 cv_X3_50 (x_rn1 (s9 := (upd (upd s9 2 115) 1 (nI y0))) (y := y0) (a := 0) (b := 2) (show (upd (upd s9 2 115) 1 (nI y0)) 0 = nI len from h0) hl pk_us (by omega) (by decide) (by decide)) xt_0 rfl rfl (Nat.le_of_ble_eq_true rfl) ⟨Nat.le_of_ble_eq_true rfl, Nat.le_of_ble_eq_true rfl⟩ ⟨Nat.le_refl _, Nat.le_refl _⟩ ?_
    rw [upd_up9, show (if (dgS c9 len (nI 0) (nI 2) (y0, true)).2 = true then dgV c9 len (nI 0) (nI 2) (y0, true) else -1) = -1 from by rw [f1]; rfl, f1]
    refine z_istore_n CX 3 dX3_readCommand_77 rfl (by decide) ?_
    refine z_iload_n CX 3 dX3_readCommand_78 rfl rfl ?_
    refine z_iconst CX (v := (-1 : Int32)) dX3_readCommand_79 (by decide) ?_
    refine z_icmp_ne CX 85 dX3_readCommand_80 (by decide) (fun q9 => absurd q9 (fun z => z rfl)) (fun _ => ?_)
    refine z_iconst CX (v := 0) dX3_readCommand_83 (by decide) ?_
    exact z_zret CX dX3_readCommand_84 rfl (by first | rfl | exact bI_nar _) rfl rfl (Or.inl rfl)
def cpT9 (t : Nat → Int32) (len y : Nat) : Nat × Bool := if isLet (hrF t len y) then (pz t len (hrF t len y) (y + 1)).1 else (y, false)
def pfV (t : Nat → Int32) (len y : Nat) (f : Nat → Int32) : Bool × (Nat → Int32) := pf f (hrF t len y) (pz t len (hrF t len y) (y + 1)).2.1 (pz t len (hrF t len y) (y + 1)).2.2.1 (pz t len (hrF t len y) (y + 1)).2.2.2.1 (pz t len (hrF t len y) (y + 1)).2.2.2.2
theorem x_rc {c9 d9 : Nat → Int32} {len y : Nat} (hl : len ≤ 120) (hy : y < 200) : ∃ dd : Nat → Int32, (∀ {l : Launch} {w : Wt} {hs : Hs} {n : Option Nat} {k : Nat} {s9 : Nat → Int32}, s9 0 = nI len → s9 1 = nI y → Cn l w mX3_readCommand 0 0 [.ref (wB w + k)] (XT w hs k s9 c9 d9) n (XT w hs k (upd (upd s9 2 (hrF c9 len y)) 1 (nI (cpT9 c9 len y).1)) c9 dd) n (some (.int (bI (cpT9 c9 len y).2)))) ∧ ((cpT9 c9 len y).2 = true → ∀ f, pf f (hrF c9 len y) (dd 0) (dd 1) (dd 2) (dd 3) = pfV c9 len y f) := by
  by_cases hz : isLet (hrF c9 len y)
  · unfold cpT9 pfV
    rw [if_pos hz]
    rcases hz with hz | hz | hz | hz | hz | hz | hz
    · obtain ⟨dd, h1, h2⟩ := x_rc_103 (d9 := d9) hl hy hz
      rw [hz, show pz c9 len 103 (y + 1) = pzG c9 len (y + 1) from rfl]
      refine ⟨dd, h1, fun q f => ?_⟩
      obtain ⟨v0, v1, v2, v3⟩ := h2 q
      rw [pf_103, pf_103, v0, v1, v2, v3]
    · obtain ⟨dd, h1, h2⟩ := x_rc_98 (d9 := d9) hl hy hz
      rw [hz, show pz c9 len 98 (y + 1) = pzB c9 len (y + 1) from rfl]
      refine ⟨dd, h1, fun q f => ?_⟩
      obtain ⟨v0, v1, v2⟩ := h2 q
      rw [pf_98, pf_98, v0, v1, v2]
    · obtain ⟨dd, h1, h2⟩ := x_rc_108 (d9 := d9) hl hy hz
      rw [hz, show pz c9 len 108 (y + 1) = pzL c9 len (y + 1) from rfl]
      refine ⟨dd, h1, fun q f => ?_⟩
      obtain ⟨v0, v1⟩ := h2 q
      rw [pf_108, pf_108, v0, v1]
    · obtain ⟨dd, h1, h2⟩ := x_rc_109 (d9 := d9) hl hy hz
      rw [hz, show pz c9 len 109 (y + 1) = pzM c9 len (y + 1) from rfl]
      refine ⟨dd, h1, fun q f => ?_⟩
      have v0 := h2 q
      rw [pf_109, pf_109, v0]
    · obtain ⟨dd, h1, h2⟩ := x_rc_104 (d9 := d9) hl hy hz
      rw [hz, show pz c9 len 104 (y + 1) = pzH c9 len (y + 1) from rfl]
      refine ⟨dd, h1, fun q f => ?_⟩
      obtain ⟨v0, v1, v2⟩ := h2 q
      rw [pf_104, pf_104, v0, v1, v2]
    · obtain ⟨dd, h1, h2⟩ := x_rc_99 (d9 := d9) hl hy hz
      rw [hz, show pz c9 len 99 (y + 1) = pzC c9 len (y + 1) from rfl]
      refine ⟨dd, h1, fun q f => ?_⟩
      obtain ⟨v0, v1⟩ := h2 q
      rw [pf_99, pf_99, v0, v1]
    · obtain ⟨dd, h1, h2⟩ := x_rc_115 (d9 := d9) hl hy hz
      rw [hz, show pz c9 len 115 (y + 1) = pzS c9 len (y + 1) from rfl]
      refine ⟨dd, h1, fun q f => ?_⟩
      obtain ⟨v0, v1⟩ := h2 q
      rw [pf_115, pf_115, v0, v1]
  · unfold cpT9
    rw [if_neg hz]
    refine ⟨d9, @fun l w hs n k s9 h0 h1 => ?_, fun q => absurd q Bool.false_ne_true⟩
    rw [upd_id9 (show upd s9 2 (hrF c9 len y) 1 = nI y from h1)]
    exact x_rc_no h0 hl h1 hy hz
noncomputable def rcD (t : Nat → Int32) (len y : Nat) (dd : Nat → Int32) : Nat → Int32 := if h : len ≤ 120 ∧ y < 200 then Classical.choose (x_rc (c9 := t) (d9 := dd) h.1 h.2) else dd
theorem x_rcD {c9 d9 : Nat → Int32} {len y : Nat} (hl : len ≤ 120) (hy : y < 200) : (∀ {l : Launch} {w : Wt} {hs : Hs} {n : Option Nat} {k : Nat} {s9 : Nat → Int32}, s9 0 = nI len → s9 1 = nI y → Cn l w mX3_readCommand 0 0 [.ref (wB w + k)] (XT w hs k s9 c9 d9) n (XT w hs k (upd (upd s9 2 (hrF c9 len y)) 1 (nI (cpT9 c9 len y).1)) c9 (rcD c9 len y d9)) n (some (.int (bI (cpT9 c9 len y).2)))) ∧ ((cpT9 c9 len y).2 = true → ∀ f, pf f (hrF c9 len y) (rcD c9 len y d9 0) (rcD c9 len y d9 1) (rcD c9 len y d9 2) (rcD c9 len y d9 3) = pfV c9 len y f) := by
  unfold rcD
  rw [dif_pos ⟨hl, hy⟩]
  exact Classical.choose_spec (x_rc (c9 := c9) (d9 := d9) hl hy)
