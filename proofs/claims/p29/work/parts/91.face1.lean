/-! the class's methods: text, what there is -/
theorem lt2 {a : Int32} : a < 2 ↔ a ≤ 1 := by
  rw [lt_i, le_i]
  show a.toInt < 2 ↔ a.toInt ≤ 1
  omega
set_option maxHeartbeats 4000000 in
set_option maxRecDepth 100000 in
theorem g_append {l : Launch} {w : Wt} {hs : Hs} {n : Option Nat} {k : Nat} {Y : HIs} {S : SHs} {N C : TTs} {sg c9 d9 : Nat → Int32} {len : Nat} {a : Int32} (h0 : sg 0 = nI len) (hl : len < 120) (ha : 0 ≤ a ∧ a ≤ 255) : Cn l w mX5_append 0 0 [.ref (wB w + k), .int a] (GB w hs k (sg, c9, d9) N C Y S) n (GB w hs k (upd sg 0 (nI (len + 1)), upd c9 len a, d9) N C Y S) n (some (.int (nI (len + 1)))) := by
  refine Cn.of (d := mX5_append) (by decide +kernel) (Nat.le_of_ble_eq_true rfl) ?_
  intro p e R s m args below meth c CX
  replace CX : Ctx p s m args meth c R w RX5 "append" cX5_append 2 (some .int) 7 112 0 0 := CX
  show ZW p l e R s m args below meth c w 2 _ _ 0 0 (MQ below (Qn w _ _ _) args s 0 0 (wA w)) 0 [(0, .ref (wB w + k)), (1, .int _)] []
  refine z_iload_n CX 1 dX5_append_0 rfl rfl ?_
  refine z_if_lt CX 11 dX5_append_1 (by decide) (fun q9 => absurd q9 (Int32.not_lt.mpr ha.1)) (fun _ => ?_)
  refine z_iload_n CX 1 dX5_append_4 rfl rfl ?_
  refine z_sipush CX (v := 255) dX5_append_5 (by decide) ?_
  refine z_icmp_le CX 15 dX5_append_8 (by decide) (fun _ => ?_) (fun q9 => absurd ha.2 q9)
  refine z_iconst CX (v := 0) dX5_append_15 (by decide) ?_
  refine z_callS0 CX dX5_append_16 cs_X5_42 g_thr0 rfl rfl (Nat.le_of_ble_eq_true rfl) ⟨Nat.le_of_ble_eq_true rfl, Nat.le_of_ble_eq_true rfl⟩ ⟨Nat.le_refl _, Nat.le_refl _⟩ ?_
  refine z_aload_n CX 0 dX5_append_19 rfl rfl ?_
  refine z_get CX dX5_append_20 fg_X5_10 gb_0 rfl ?_
  refine z_callV1 CX dX5_append_23 cv_X5_45 (Cn.gT (x_full h0 (by omega))) gb_x0 rfl rfl (Nat.le_of_ble_eq_true rfl) ⟨Nat.le_of_ble_eq_true rfl, Nat.le_of_ble_eq_true rfl⟩ ⟨Nat.le_refl _, Nat.le_refl _⟩ ?_
  refine z_if_eq CX 33 dX5_append_26 (by decide) (fun _ => ?_) (fun q9 => absurd (bI_0 (by omega)) q9)
  refine z_iconst CX (v := 0) dX5_append_33 (by decide) ?_
  refine z_callS0 CX dX5_append_34 cs_X5_42 g_thr0 rfl rfl (Nat.le_of_ble_eq_true rfl) ⟨Nat.le_of_ble_eq_true rfl, Nat.le_of_ble_eq_true rfl⟩ ⟨Nat.le_refl _, Nat.le_refl _⟩ ?_
  refine z_aload_n CX 0 dX5_append_37 rfl rfl ?_
  refine z_get CX dX5_append_38 fg_X5_10 gb_0 rfl ?_
  refine z_iload_n CX 1 dX5_append_41 rfl rfl ?_
  refine z_callV1 CX dX5_append_42 cv_X5_49 (Cn.gT (x_add _ h0 hl)) gb_x0 rfl rfl (Nat.le_of_ble_eq_true rfl) ⟨Nat.le_of_ble_eq_true rfl, Nat.le_of_ble_eq_true rfl⟩ ⟨Nat.le_refl _, Nat.le_refl _⟩ ?_
  exact z_iret CX dX5_append_45 rfl rfl rfl (Or.inl rfl)
set_option maxHeartbeats 4000000 in
set_option maxRecDepth 100000 in
theorem gx_append2 {l : Launch} {w : Wt} {hs : Hs} {n : Option Nat} {k : Nat} {Y : HIs} {S : SHs} {N C : TTs} {sg c9 d9 : Nat → Int32} {len : Nat} {a : Int32} (h : ¬ (0 ≤ a ∧ a ≤ 255)) (hl9 : l.stackTraces = false) : Cx l w mX5_append 1 6 [.ref (wB w + k), .int a] (GB w hs k (sg, c9, d9) N C Y S) n (GB w hs k (sg, c9, d9) N C Y S) (exN 2) := by
  refine Cx.of (d := mX5_append) (by decide +kernel) (Nat.le_of_ble_eq_true rfl) ?_
  intro p e R s m args below meth c CX htb hN
  replace CX : Ctx p s m args meth c R w RX5 "append" cX5_append 2 (some .int) 7 112 1 6 := CX
  show ZW p l e R s m args below meth c w 2 _ _ 0 0 _ 0 [(0, .ref (wB w + k)), (1, .int _)] []
  refine z_iload_n CX 1 dX5_append_0 rfl rfl ?_
  refine z_if_lt CX 11 dX5_append_1 (by decide) (fun c_1 => ?_) (fun c_1 => ?_)
  · skip
    refine z_iconst CX (v := 2) dX5_append_11 (by decide) ?_
    refine z_goto CX 16 dX5_append_12 (by decide) ?_
    exact z_callSx CX htb hN dX5_append_16 cs_X5_42 (g_thr (i := 2) hl9 ⟨by omega, by omega⟩ rfl) rfl rfl (Nat.le_of_ble_eq_true rfl) ⟨Nat.le_of_ble_eq_true rfl, Nat.le_of_ble_eq_true rfl⟩ ⟨Nat.le_of_ble_eq_true rfl, Nat.le_of_ble_eq_true rfl⟩
  · skip
    refine z_iload_n CX 1 dX5_append_4 rfl rfl ?_
    refine z_sipush CX (v := 255) dX5_append_5 (by decide) ?_
    refine z_icmp_le CX 15 dX5_append_8 (by decide) (fun q9 => absurd q9 (fun q => h ⟨Int32.not_lt.mp c_1, q⟩)) (fun _ => ?_)
    refine z_iconst CX (v := 2) dX5_append_11 (by decide) ?_
    refine z_goto CX 16 dX5_append_12 (by decide) ?_
    exact z_callSx CX htb hN dX5_append_16 cs_X5_42 (g_thr (i := 2) hl9 ⟨by omega, by omega⟩ rfl) rfl rfl (Nat.le_of_ble_eq_true rfl) ⟨Nat.le_of_ble_eq_true rfl, Nat.le_of_ble_eq_true rfl⟩ ⟨Nat.le_of_ble_eq_true rfl, Nat.le_of_ble_eq_true rfl⟩
set_option maxHeartbeats 4000000 in
set_option maxRecDepth 100000 in
theorem gx_append3 {l : Launch} {w : Wt} {hs : Hs} {n : Option Nat} {k : Nat} {Y : HIs} {S : SHs} {N C : TTs} {sg c9 d9 : Nat → Int32} {len : Nat} {a : Int32} (h0 : sg 0 = nI len) (hl : len = 120) (ha : 0 ≤ a ∧ a ≤ 255) (hl9 : l.stackTraces = false) : Cx l w mX5_append 1 6 [.ref (wB w + k), .int a] (GB w hs k (sg, c9, d9) N C Y S) n (GB w hs k (sg, c9, d9) N C Y S) (exN 3) := by
  refine Cx.of (d := mX5_append) (by decide +kernel) (Nat.le_of_ble_eq_true rfl) ?_
  intro p e R s m args below meth c CX htb hN
  replace CX : Ctx p s m args meth c R w RX5 "append" cX5_append 2 (some .int) 7 112 1 6 := CX
  show ZW p l e R s m args below meth c w 2 _ _ 0 0 _ 0 [(0, .ref (wB w + k)), (1, .int _)] []
  refine z_iload_n CX 1 dX5_append_0 rfl rfl ?_
  refine z_if_lt CX 11 dX5_append_1 (by decide) (fun q9 => absurd q9 (Int32.not_lt.mpr ha.1)) (fun _ => ?_)
  refine z_iload_n CX 1 dX5_append_4 rfl rfl ?_
  refine z_sipush CX (v := 255) dX5_append_5 (by decide) ?_
  refine z_icmp_le CX 15 dX5_append_8 (by decide) (fun _ => ?_) (fun q9 => absurd ha.2 q9)
  refine z_iconst CX (v := 0) dX5_append_15 (by decide) ?_
  refine z_callS0 CX dX5_append_16 cs_X5_42 g_thr0 rfl rfl (Nat.le_of_ble_eq_true rfl) ⟨Nat.le_of_ble_eq_true rfl, Nat.le_of_ble_eq_true rfl⟩ ⟨Nat.le_of_ble_eq_true rfl, Nat.le_of_ble_eq_true rfl⟩ ?_
  refine z_aload_n CX 0 dX5_append_19 rfl rfl ?_
  refine z_get CX dX5_append_20 fg_X5_10 gb_0 rfl ?_
  refine z_callV1 CX dX5_append_23 cv_X5_45 (Cn.gT (x_full h0 (by omega))) gb_x0 rfl rfl (Nat.le_of_ble_eq_true rfl) ⟨Nat.le_of_ble_eq_true rfl, Nat.le_of_ble_eq_true rfl⟩ ⟨Nat.le_of_ble_eq_true rfl, Nat.le_of_ble_eq_true rfl⟩ ?_
  refine z_if_eq CX 33 dX5_append_26 (by decide) (fun q9 => absurd q9 (by rw [bI_1 hl]; decide)) (fun _ => ?_)
  refine z_iconst CX (v := 3) dX5_append_29 (by decide) ?_
  refine z_goto CX 34 dX5_append_30 (by decide) ?_
  exact z_callSx CX htb hN dX5_append_34 cs_X5_42 (g_thr (i := 3) hl9 ⟨by omega, by omega⟩ rfl) rfl rfl (Nat.le_of_ble_eq_true rfl) ⟨Nat.le_of_ble_eq_true rfl, Nat.le_of_ble_eq_true rfl⟩ ⟨Nat.le_of_ble_eq_true rfl, Nat.le_of_ble_eq_true rfl⟩
set_option maxHeartbeats 4000000 in
set_option maxRecDepth 100000 in
theorem g_clear {l : Launch} {w : Wt} {hs : Hs} {n : Option Nat} {k : Nat} {Y : HIs} {S : SHs} {N C : TTs} {sg c9 d9 : Nat → Int32} {len : Nat} (h0 : sg 0 = nI len) : Cn l w mX5_clearText 0 0 [.ref (wB w + k)] (GB w hs k (sg, c9, d9) N C Y S) n (GB w hs k (upd sg 0 0, c9, d9) N C Y S) n (some (.int (nI len))) := by
  refine Cn.of (d := mX5_clearText) (by decide +kernel) (Nat.le_of_ble_eq_true rfl) ?_
  intro p e R s m args below meth c CX
  replace CX : Ctx p s m args meth c R w RX5 "clearText" cX5_clearText 1 (some .int) 1 21 0 0 := CX
  show ZW p l e R s m args below meth c w 1 _ _ 0 0 (MQ below (Qn w _ _ _) args s 0 0 (wA w)) 0 [(0, .ref (wB w + k))] []
  refine z_aload_n CX 0 dX5_clearText_0 rfl rfl ?_
  refine z_get CX dX5_clearText_1 fg_X5_10 gb_0 rfl ?_
  refine z_callV1 CX dX5_clearText_4 cv_X5_53 (Cn.gT (x_empty h0)) gb_x0 rfl rfl (Nat.le_of_ble_eq_true rfl) ⟨Nat.le_of_ble_eq_true rfl, Nat.le_of_ble_eq_true rfl⟩ ⟨Nat.le_refl _, Nat.le_refl _⟩ ?_
  exact z_iret CX dX5_clearText_7 rfl rfl rfl (Or.inl rfl)
set_option maxHeartbeats 4000000 in
set_option maxRecDepth 100000 in
theorem g_err {l : Launch} {w : Wt} {hs : Hs} {n : Option Nat} {k : Nat} {Y : HIs} {S : SHs} {N C : TTs} {sg c9 d9 : Nat → Int32} {len : Nat} (h0 : sg 0 = nI len) (hl : len ≤ 120) : Cn l w mX5_errorPosition 0 0 [.ref (wB w + k)] (GB w hs k (sg, c9, d9) N C Y S) n (GB w hs k ((feA c9 len sg d9).2.1, c9, (feA c9 len sg d9).2.2) N C Y S) n (some (.int (if (feA c9 len sg d9).1.2 = true then -1 else nI (feA c9 len sg d9).1.1))) := by
  refine Cn.of (d := mX5_errorPosition) (by decide +kernel) (Nat.le_of_ble_eq_true rfl) ?_
  intro p e R s m args below meth c CX
  replace CX : Ctx p s m args meth c R w RX5 "errorPosition" cX5_errorPosition 1 (some .int) 4 90 0 0 := CX
  show ZW p l e R s m args below meth c w 1 _ _ 0 0 (MQ below (Qn w _ _ _) args s 0 0 (wA w)) 0 [(0, .ref (wB w + k))] []
  refine z_aload_n CX 0 dX5_errorPosition_0 rfl rfl ?_
  refine z_get CX dX5_errorPosition_1 fg_X5_10 gb_0 rfl ?_
  refine z_callV1 CX dX5_errorPosition_4 cv_X5_57 (Cn.gT (x_fe h0 hl)) gb_x0 rfl rfl (Nat.le_of_ble_eq_true rfl) ⟨Nat.le_of_ble_eq_true rfl, Nat.le_of_ble_eq_true rfl⟩ ⟨Nat.le_refl _, Nat.le_refl _⟩ ?_
  exact z_iret CX dX5_errorPosition_7 rfl rfl rfl (Or.inl rfl)
theorem fe_run {t : Nat → Int32} {len : Nat} (hl : len ≤ 120) {sg dg sg2 dg2 : Nat → Int32} (h : (feA t len sg dg).1.2 = true) : 1 ≤ len ∧ (feR t len 120 1 sg2 dg2).1.2 = true := by
  unfold feA at h
  by_cases c : hrF t len 0 = 84
  · rw [if_pos c] at h
    refine ⟨?_, ?_⟩
    · rcases Nat.eq_zero_or_pos len with e | e
      · subst e; unfold hrF at c; rw [if_neg (by omega)] at c; exact absurd c (by decide)
      · exact e
    · rw [fe_rd (f := t) (x5 := 0) 120 120 1 _ _ (by omega) (by omega)] at h
      rw [fe_rd (f := t) (x5 := 0) 120 120 1 _ _ (by omega) (by omega)]; exact h
  · rw [if_neg c] at h; exact absurd h Bool.false_ne_true
theorem g_run {l : Launch} {w : Wt} {hs : Hs} {n : Option Nat} {k : Nat} {Y : HIs} {S : SHs} {C : TTs} {sg c9 d9 : Nat → Int32} {len : Nat} {f : Nat → Int32} {x : Int32} {z : Nat → Nat → Int32} (h0 : sg 0 = nI len) (hl : len ≤ 120) (h1 : 1 ≤ len) (hO : OKr f) (hg : (feR c9 len 120 1 (upd sg 1 (nI 1)) d9).1.2 = true) : Cn l w mX3_runCommands 0 0 [.ref (wB w + (k + 1)), .ref (wB w + (k + 4))] (GB w hs k (sg, c9, d9) (nT f x z) C Y S) n (GB w hs k ((reR c9 len 120 1 (upd sg 1 (nI 1)) d9 f 0).1, c9, (reR c9 len 120 1 (upd sg 1 (nI 1)) d9 f 0).2.1) (nT (reR c9 len 120 1 (upd sg 1 (nI 1)) d9 f 0).2.2.1 x z) C Y S) n (some (.int (reR c9 len 120 1 (upd sg 1 (nI 1)) d9 f 0).2.2.2)) := by
  have h := x_run (l := l) (w := w) (hs := GB w hs k (sg, c9, d9) (nT f x z) C Y S) (n := n) (k := k + 1) (k2 := k + 4) (x := x) (z := z) (by omega) h0 hl h1 hO hg
  unfold TH at h
  rw [gb_N, gb_T, gb_N, gb_T] at h
  exact h
theorem feR_le {t : Nat → Int32} {len : Nat} (hl : len ≤ 120) : ∀ (j y : Nat) (sg dg : Nat → Int32), y ≤ 121 → (feR t len j y sg dg).1.1 ≤ 121
  | 0, _, _, _, h => h
  | j + 1, y, sg, dg, h => by
    rw [feR]
    split
    · rename_i c
      have := cpT9_le (t := t) c
      split
      · exact feR_le hl j _ _ _ (by omega)
      · show (cpT9 t len y).1 ≤ 121; omega
    · exact h
theorem fe_n1 {t : Nat → Int32} {len : Nat} (hl : len ≤ 120) {sg dg : Nat → Int32} : ¬ nI (feA t len sg dg).1.1 = -1 := by
  refine nI_nm1 ?_
  have h : (feA t len sg dg).1.1 ≤ 121 := by
    unfold feA
    split
    · exact feR_le hl 120 1 _ _ (by omega)
    · exact Nat.zero_le _
  omega
set_option maxHeartbeats 4000000 in
set_option maxRecDepth 100000 in
theorem g_load {l : Launch} {w : Wt} {hs : Hs} {n : Option Nat} {k : Nat} {C : TTs} {s9 : Nat → Int32} {g9 : Nat → Nat → Int32} {r9 : Nat → Nat} {sg c9 d9 : Nat → Int32} {len : Nat} {a9 b9 : Int32} {bh : Nat → Int32} {Fh : Nat → Nat → Int32} {Xh : Nat → Int32} {Zh : Nat → Nat → Nat → Int32} {bs : Nat → Int32} {Fs : Nat → Nat → Int32} {Xs : Nat → Int32} {Zs : Nat → Nat → Nat → Int32} (f0 : Nat → Int32) (h0 : sg 0 = nI len) (hl : len ≤ 120) (hg : (feA c9 len sg d9).1.2 = true) (hO : OKr (frF f0)) : Cn l w mX5_load 0 0 [.ref (wB w + k)] (GB w hs k (sg, c9, d9) (s9, g9, r9) C (a9, b9, bh, Fh, Xh, Zh) (bs, Fs, Xs, Zs)) n (GB w hs k ((reR c9 len 120 1 (upd (feA c9 len sg d9).2.1 1 (nI 1)) (feA c9 len sg d9).2.2 (frF f0) 0).1, c9, (reR c9 len 120 1 (upd (feA c9 len sg d9).2.1 1 (nI 1)) (feA c9 len sg d9).2.2 (frF f0) 0).2.1) (nT (reR c9 len 120 1 (upd (feA c9 len sg d9).2.1 1 (nI 1)) (feA c9 len sg d9).2.2 (frF f0) 0).2.2.1 0 g9) C (a9, 0, bh, Fh, Xh, Zh) (clB bs 2, Fs, Xs, Zs)) n (some (.int (reR c9 len 120 1 (upd (feA c9 len sg d9).2.1 1 (nI 1)) (feA c9 len sg d9).2.2 (frF f0) 0).2.2.2)) := by
  refine Cn.of (d := mX5_load) (by decide +kernel) (Nat.le_of_ble_eq_true rfl) ?_
  intro p e R s m args below meth c CX
  replace CX : Ctx p s m args meth c R w RX5 "load" cX5_load 1 (some .int) 7 144 0 0 := CX
  show ZW p l e R s m args below meth c w 1 _ _ 0 0 (MQ below (Qn w _ _ _) args s 0 0 (wA w)) 0 [(0, .ref (wB w + k))] []
  refine z_aload_n CX 0 dX5_load_0 rfl rfl ?_
  refine z_get CX dX5_load_1 fg_X5_10 gb_0 rfl ?_
  refine z_callV1 CX dX5_load_4 cv_X5_57 (Cn.gT (x_fe h0 hl)) gb_x0 rfl rfl (Nat.le_of_ble_eq_true rfl) ⟨Nat.le_of_ble_eq_true rfl, Nat.le_of_ble_eq_true rfl⟩ ⟨Nat.le_refl _, Nat.le_refl _⟩ ?_
  refine z_iconst CX (v := (-1 : Int32)) dX5_load_7 (by decide) ?_
  refine z_icmp_eq CX 15 dX5_load_8 (by decide) (fun _ => ?_) (fun q9 => absurd (if_pos hg) q9)
  refine z_iconst CX (v := 0) dX5_load_15 (by decide) ?_
  refine z_callS0 CX dX5_load_16 cs_X5_42 g_thr0 rfl rfl (Nat.le_of_ble_eq_true rfl) ⟨Nat.le_of_ble_eq_true rfl, Nat.le_of_ble_eq_true rfl⟩ ⟨Nat.le_refl _, Nat.le_refl _⟩ ?_
  refine z_aload_n CX 0 dX5_load_19 rfl rfl ?_
  refine z_get CX dX5_load_20 fg_X5_19 gb_0 rfl ?_
  refine z_callV0 CX dX5_load_23 cv_X5_60 (Cn.gN (t_mkN f0)) gb_n0 rfl rfl (Nat.le_of_ble_eq_true rfl) ⟨Nat.le_of_ble_eq_true rfl, Nat.le_of_ble_eq_true rfl⟩ ⟨Nat.le_refl _, Nat.le_refl _⟩ ?_
  refine z_aload_n CX 0 dX5_load_26 rfl rfl ?_
  refine z_get CX dX5_load_27 fg_X5_29 gb_0 rfl ?_
  refine z_callV0 CX dX5_load_30 cv_X5_63 (Cn.gY y_forget) gb_h0 rfl rfl (Nat.le_of_ble_eq_true rfl) ⟨Nat.le_of_ble_eq_true rfl, Nat.le_of_ble_eq_true rfl⟩ ⟨Nat.le_refl _, Nat.le_refl _⟩ ?_
  refine z_aload_n CX 0 dX5_load_33 rfl rfl ?_
  refine z_get CX dX5_load_34 fg_X5_38 gb_0 rfl ?_
  refine z_callV0 CX dX5_load_37 cv_X5_66 (Cn.gS (h_clear (by omega))) gb_s0 rfl rfl (Nat.le_of_ble_eq_true rfl) ⟨Nat.le_of_ble_eq_true rfl, Nat.le_of_ble_eq_true rfl⟩ ⟨Nat.le_refl _, Nat.le_refl _⟩ ?_
  refine z_aload_n CX 0 dX5_load_40 rfl rfl ?_
  refine z_get CX dX5_load_41 fg_X5_10 gb_0 rfl ?_
  refine z_aload_n CX 0 dX5_load_44 rfl rfl ?_
  refine z_get CX dX5_load_45 fg_X5_19 gb_0 rfl ?_
  refine z_callV1 CX dX5_load_48 cv_X5_69 (g_run (feA_0.trans h0) hl (fe_run (sg2 := fun _ => 0) (dg2 := fun _ => 0) hl hg).1 hO (fe_run hl hg).2) gb_x0 rfl rfl (Nat.le_of_ble_eq_true rfl) ⟨Nat.le_of_ble_eq_true rfl, Nat.le_of_ble_eq_true rfl⟩ ⟨Nat.le_refl _, Nat.le_refl _⟩ ?_
  exact z_iret CX dX5_load_51 rfl rfl rfl (Or.inl rfl)
set_option maxHeartbeats 4000000 in
set_option maxRecDepth 100000 in
theorem gx_load3 {l : Launch} {w : Wt} {hs : Hs} {n : Option Nat} {k : Nat} {Y : HIs} {S : SHs} {N C : TTs} {sg c9 d9 : Nat → Int32} {len : Nat} (h0 : sg 0 = nI len) (hl : len ≤ 120) (hg : (feA c9 len sg d9).1.2 = false) (hl9 : l.stackTraces = false) : Cx l w mX5_load 1 6 [.ref (wB w + k)] (GB w hs k (sg, c9, d9) N C Y S) n (GB w hs k ((feA c9 len sg d9).2.1, c9, (feA c9 len sg d9).2.2) N C Y S) (exN 3) := by
  refine Cx.of (d := mX5_load) (by decide +kernel) (Nat.le_of_ble_eq_true rfl) ?_
  intro p e R s m args below meth c CX htb hN
  replace CX : Ctx p s m args meth c R w RX5 "load" cX5_load 1 (some .int) 7 144 1 6 := CX
  show ZW p l e R s m args below meth c w 1 _ _ 0 0 _ 0 [(0, .ref (wB w + k))] []
  refine z_aload_n CX 0 dX5_load_0 rfl rfl ?_
  refine z_get CX dX5_load_1 fg_X5_10 gb_0 rfl ?_
  refine z_callV1 CX dX5_load_4 cv_X5_57 (Cn.gT (x_fe h0 hl)) gb_x0 rfl rfl (Nat.le_of_ble_eq_true rfl) ⟨Nat.le_of_ble_eq_true rfl, Nat.le_of_ble_eq_true rfl⟩ ⟨Nat.le_of_ble_eq_true rfl, Nat.le_of_ble_eq_true rfl⟩ ?_
  refine z_iconst CX (v := (-1 : Int32)) dX5_load_7 (by decide) ?_
  refine z_icmp_eq CX 15 dX5_load_8 (by decide) (fun q9 => absurd q9 (fun q => absurd ((if_neg (by rw [hg]; decide)).symm.trans q) (fe_n1 hl))) (fun _ => ?_)
  refine z_iconst CX (v := 3) dX5_load_11 (by decide) ?_
  refine z_goto CX 16 dX5_load_12 (by decide) ?_
  exact z_callSx CX htb hN dX5_load_16 cs_X5_42 (g_thr (i := 3) hl9 ⟨by omega, by omega⟩ rfl) rfl rfl (Nat.le_of_ble_eq_true rfl) ⟨Nat.le_of_ble_eq_true rfl, Nat.le_of_ble_eq_true rfl⟩ ⟨Nat.le_of_ble_eq_true rfl, Nat.le_of_ble_eq_true rfl⟩
set_option maxHeartbeats 4000000 in
set_option maxRecDepth 100000 in
theorem g_about {l : Launch} {w : Wt} {hs : Hs} {n : Option Nat} {k : Nat} {T : TXs} {C : TTs} {Y : HIs} {S : SHs} {f : Nat → Int32} {x : Int32} {z : Nat → Nat → Int32} (hO : OKr f) (hx : f 152 = x) {i : Nat} (hi : i < 14) : Cn l w mX5_about 0 0 [.ref (wB w + k), .int (nI i)] (GB w hs k T (nT f x z) C Y S) n (GB w hs k T (nT f x z) C Y S) n (some (.int (abV f i))) := by
  refine Cn.of (d := mX5_about) (by decide +kernel) (Nat.le_of_ble_eq_true rfl) ?_
  intro p e R s m args below meth c CX
  replace CX : Ctx p s m args meth c R w RX5 "about" cX5_about 2 (some .int) 7 112 0 0 := CX
  show ZW p l e R s m args below meth c w 2 _ _ 0 0 (MQ below (Qn w _ _ _) args s 0 0 (wA w)) 0 [(0, .ref (wB w + k)), (1, .int _)] []
  refine z_iload_n CX 1 dX5_about_0 rfl rfl ?_
  refine z_if_lt CX 10 dX5_about_1 (by decide) (fun q9 => absurd q9 (Int32.not_lt.mpr (nI_pos' (by omega)))) (fun _ => ?_)
  refine z_iload_n CX 1 dX5_about_4 rfl rfl ?_
  refine z_bipush CX (v := 13) dX5_about_5 (by decide) ?_
  refine z_icmp_le CX 14 dX5_about_7 (by decide) (fun _ => ?_) (fun q9 => absurd (nI_le (b := 13) (by omega) (by omega)) q9)
  refine z_iconst CX (v := 0) dX5_about_14 (by decide) ?_
  refine z_callS0 CX dX5_about_15 cs_X5_42 g_thr0 rfl rfl (Nat.le_of_ble_eq_true rfl) ⟨Nat.le_of_ble_eq_true rfl, Nat.le_of_ble_eq_true rfl⟩ ⟨Nat.le_refl _, Nat.le_refl _⟩ ?_
  refine z_aload_n CX 0 dX5_about_18 rfl rfl ?_
  refine z_get CX dX5_about_19 fg_X5_19 gb_0 rfl ?_
  refine z_iload_n CX 1 dX5_about_22 rfl rfl ?_
  refine z_callV1 CX dX5_about_23 cv_X5_73 (Cn.gN (t_num hO.1 hO.2.1.u01 hx hi)) gb_n0 rfl rfl (Nat.le_of_ble_eq_true rfl) ⟨Nat.le_of_ble_eq_true rfl, Nat.le_of_ble_eq_true rfl⟩ ⟨Nat.le_refl _, Nat.le_refl _⟩ ?_
  exact z_iret CX dX5_about_26 rfl rfl rfl (Or.inl rfl)
set_option maxHeartbeats 4000000 in
set_option maxRecDepth 100000 in
theorem gx_about2 {l : Launch} {w : Wt} {hs : Hs} {n : Option Nat} {k : Nat} {T : TXs} {C : TTs} {Y : HIs} {S : SHs} {f : Nat → Int32} {x : Int32} {z : Nat → Nat → Int32} {a : Int32} (h : ¬ (0 ≤ a ∧ a ≤ 13)) (hl9 : l.stackTraces = false) : Cx l w mX5_about 1 6 [.ref (wB w + k), .int a] (GB w hs k T (nT f x z) C Y S) n (GB w hs k T (nT f x z) C Y S) (exN 2) := by
  refine Cx.of (d := mX5_about) (by decide +kernel) (Nat.le_of_ble_eq_true rfl) ?_
  intro p e R s m args below meth c CX htb hN
  replace CX : Ctx p s m args meth c R w RX5 "about" cX5_about 2 (some .int) 7 112 1 6 := CX
  show ZW p l e R s m args below meth c w 2 _ _ 0 0 _ 0 [(0, .ref (wB w + k)), (1, .int _)] []
  refine z_iload_n CX 1 dX5_about_0 rfl rfl ?_
  refine z_if_lt CX 10 dX5_about_1 (by decide) (fun c_1 => ?_) (fun c_1 => ?_)
  · skip
    refine z_iconst CX (v := 2) dX5_about_10 (by decide) ?_
    refine z_goto CX 15 dX5_about_11 (by decide) ?_
    exact z_callSx CX htb hN dX5_about_15 cs_X5_42 (g_thr (i := 2) hl9 ⟨by omega, by omega⟩ rfl) rfl rfl (Nat.le_of_ble_eq_true rfl) ⟨Nat.le_of_ble_eq_true rfl, Nat.le_of_ble_eq_true rfl⟩ ⟨Nat.le_of_ble_eq_true rfl, Nat.le_of_ble_eq_true rfl⟩
  · skip
    refine z_iload_n CX 1 dX5_about_4 rfl rfl ?_
    refine z_bipush CX (v := 13) dX5_about_5 (by decide) ?_
    refine z_icmp_le CX 14 dX5_about_7 (by decide) (fun q9 => absurd q9 (fun q => h ⟨Int32.not_lt.mp c_1, q⟩)) (fun _ => ?_)
    refine z_iconst CX (v := 2) dX5_about_10 (by decide) ?_
    refine z_goto CX 15 dX5_about_11 (by decide) ?_
    exact z_callSx CX htb hN dX5_about_15 cs_X5_42 (g_thr (i := 2) hl9 ⟨by omega, by omega⟩ rfl) rfl rfl (Nat.le_of_ble_eq_true rfl) ⟨Nat.le_of_ble_eq_true rfl, Nat.le_of_ble_eq_true rfl⟩ ⟨Nat.le_of_ble_eq_true rfl, Nat.le_of_ble_eq_true rfl⟩
set_option maxHeartbeats 4000000 in
set_option maxRecDepth 100000 in
theorem g_gutterOf {l : Launch} {w : Wt} {hs : Hs} {n : Option Nat} {k : Nat} {T : TXs} {C : TTs} {Y : HIs} {S : SHs} {f : Nat → Int32} {x : Int32} {z : Nat → Nat → Int32} (hO : OKr f) {j i : Nat} (hj : j < gN f) (hi : i < 7) : Cn l w mX5_gutterOf 0 0 [.ref (wB w + k), .int (nI j), .int (nI i)] (GB w hs k T (nT f x z) C Y S) n (GB w hs k T (nT f x z) C Y S) n (some (.int (gtV f j i))) := by
  have h6 := hO.1.1.2.1
  have h9 := hO.2.2
  refine Cn.of (d := mX5_gutterOf) (by decide +kernel) (Nat.le_of_ble_eq_true rfl) ?_
  intro p e R s m args below meth c CX
  replace CX : Ctx p s m args meth c R w RX5 "gutterOf" cX5_gutterOf 3 (some .int) 7 112 0 0 := CX
  show ZW p l e R s m args below meth c w 3 _ _ 0 0 (MQ below (Qn w _ _ _) args s 0 0 (wA w)) 0 [(0, .ref (wB w + k)), (1, .int _), (2, .int _)] []
  refine z_aload_n CX 0 dX5_gutterOf_0 rfl rfl ?_
  refine z_get CX dX5_gutterOf_1 fg_X5_19 gb_0 rfl ?_
  refine z_iload_n CX 1 dX5_gutterOf_4 rfl rfl ?_
  refine z_callV1 CX dX5_gutterOf_5 cv_X5_76 (Cn.gN (t_hasG (nI j))) gb_n0 rfl rfl (Nat.le_of_ble_eq_true rfl) ⟨Nat.le_of_ble_eq_true rfl, Nat.le_of_ble_eq_true rfl⟩ ⟨Nat.le_refl _, Nat.le_refl _⟩ ?_
  refine z_if_eq CX 15 dX5_gutterOf_8 (by decide) (fun q9 => absurd q9 (by rw [bI_1 (show 0 ≤ nI j ∧ nI j < nI (gN f) from ⟨nI_pos' (by omega), nI_lt hj (by omega)⟩)]; decide)) (fun _ => ?_)
  refine z_iconst CX (v := 0) dX5_gutterOf_11 (by decide) ?_
  refine z_goto CX 16 dX5_gutterOf_12 (by decide) ?_
  refine z_callS0 CX dX5_gutterOf_16 cs_X5_42 g_thr0 rfl rfl (Nat.le_of_ble_eq_true rfl) ⟨Nat.le_of_ble_eq_true rfl, Nat.le_of_ble_eq_true rfl⟩ ⟨Nat.le_refl _, Nat.le_refl _⟩ ?_
  refine z_iload_n CX 2 dX5_gutterOf_19 rfl rfl ?_
  refine z_if_lt CX 29 dX5_gutterOf_20 (by decide) (fun q9 => absurd q9 (Int32.not_lt.mpr (nI_pos' (by omega)))) (fun _ => ?_)
  refine z_iload_n CX 2 dX5_gutterOf_23 rfl rfl ?_
  refine z_bipush CX (v := 6) dX5_gutterOf_24 (by decide) ?_
  refine z_icmp_le CX 33 dX5_gutterOf_26 (by decide) (fun _ => ?_) (fun q9 => absurd (nI_le (b := 6) (by omega) (by omega)) q9)
  refine z_iconst CX (v := 0) dX5_gutterOf_33 (by decide) ?_
  refine z_callS0 CX dX5_gutterOf_34 cs_X5_42 g_thr0 rfl rfl (Nat.le_of_ble_eq_true rfl) ⟨Nat.le_of_ble_eq_true rfl, Nat.le_of_ble_eq_true rfl⟩ ⟨Nat.le_refl _, Nat.le_refl _⟩ ?_
  refine z_aload_n CX 0 dX5_gutterOf_37 rfl rfl ?_
  refine z_get CX dX5_gutterOf_38 fg_X5_19 gb_0 rfl ?_
  refine z_iload_n CX 1 dX5_gutterOf_41 rfl rfl ?_
  refine z_iload_n CX 2 dX5_gutterOf_42 rfl rfl ?_
  refine z_callV1 CX dX5_gutterOf_43 cv_X5_80 (Cn.gN (t_numG hO.1 hj hi)) gb_n0 rfl rfl (Nat.le_of_ble_eq_true rfl) ⟨Nat.le_of_ble_eq_true rfl, Nat.le_of_ble_eq_true rfl⟩ ⟨Nat.le_refl _, Nat.le_refl _⟩ ?_
  exact z_iret CX dX5_gutterOf_46 rfl rfl rfl (Or.inl rfl)
set_option maxHeartbeats 4000000 in
set_option maxRecDepth 100000 in
theorem gx_gutterOf1 {l : Launch} {w : Wt} {hs : Hs} {n : Option Nat} {k : Nat} {T : TXs} {C : TTs} {Y : HIs} {S : SHs} {f : Nat → Int32} {x : Int32} {z : Nat → Nat → Int32} {a b : Int32} (h : ¬ (0 ≤ a ∧ a < nI (gN f))) (hl9 : l.stackTraces = false) : Cx l w mX5_gutterOf 1 6 [.ref (wB w + k), .int a, .int b] (GB w hs k T (nT f x z) C Y S) n (GB w hs k T (nT f x z) C Y S) (exN 1) := by
  refine Cx.of (d := mX5_gutterOf) (by decide +kernel) (Nat.le_of_ble_eq_true rfl) ?_
  intro p e R s m args below meth c CX htb hN
  replace CX : Ctx p s m args meth c R w RX5 "gutterOf" cX5_gutterOf 3 (some .int) 7 112 1 6 := CX
  show ZW p l e R s m args below meth c w 3 _ _ 0 0 _ 0 [(0, .ref (wB w + k)), (1, .int _), (2, .int _)] []
  refine z_aload_n CX 0 dX5_gutterOf_0 rfl rfl ?_
  refine z_get CX dX5_gutterOf_1 fg_X5_19 gb_0 rfl ?_
  refine z_iload_n CX 1 dX5_gutterOf_4 rfl rfl ?_
  refine z_callV1 CX dX5_gutterOf_5 cv_X5_76 (Cn.gN (t_hasG (a))) gb_n0 rfl rfl (Nat.le_of_ble_eq_true rfl) ⟨Nat.le_of_ble_eq_true rfl, Nat.le_of_ble_eq_true rfl⟩ ⟨Nat.le_of_ble_eq_true rfl, Nat.le_of_ble_eq_true rfl⟩ ?_
  refine z_if_eq CX 15 dX5_gutterOf_8 (by decide) (fun _ => ?_) (fun q9 => absurd (bI_0 h) q9)
  refine z_iconst CX (v := 1) dX5_gutterOf_15 (by decide) ?_
  exact z_callSx CX htb hN dX5_gutterOf_16 cs_X5_42 (g_thr (i := 1) hl9 ⟨by omega, by omega⟩ rfl) rfl rfl (Nat.le_of_ble_eq_true rfl) ⟨Nat.le_of_ble_eq_true rfl, Nat.le_of_ble_eq_true rfl⟩ ⟨Nat.le_of_ble_eq_true rfl, Nat.le_of_ble_eq_true rfl⟩
set_option maxHeartbeats 4000000 in
set_option maxRecDepth 100000 in
theorem gx_gutterOf2 {l : Launch} {w : Wt} {hs : Hs} {n : Option Nat} {k : Nat} {T : TXs} {C : TTs} {Y : HIs} {S : SHs} {f : Nat → Int32} {x : Int32} {z : Nat → Nat → Int32} {a b : Int32} (hj : 0 ≤ a ∧ a < nI (gN f)) (h : ¬ (0 ≤ b ∧ b ≤ 6)) (hl9 : l.stackTraces = false) : Cx l w mX5_gutterOf 1 6 [.ref (wB w + k), .int a, .int b] (GB w hs k T (nT f x z) C Y S) n (GB w hs k T (nT f x z) C Y S) (exN 2) := by
  refine Cx.of (d := mX5_gutterOf) (by decide +kernel) (Nat.le_of_ble_eq_true rfl) ?_
  intro p e R s m args below meth c CX htb hN
  replace CX : Ctx p s m args meth c R w RX5 "gutterOf" cX5_gutterOf 3 (some .int) 7 112 1 6 := CX
  show ZW p l e R s m args below meth c w 3 _ _ 0 0 _ 0 [(0, .ref (wB w + k)), (1, .int _), (2, .int _)] []
  refine z_aload_n CX 0 dX5_gutterOf_0 rfl rfl ?_
  refine z_get CX dX5_gutterOf_1 fg_X5_19 gb_0 rfl ?_
  refine z_iload_n CX 1 dX5_gutterOf_4 rfl rfl ?_
  refine z_callV1 CX dX5_gutterOf_5 cv_X5_76 (Cn.gN (t_hasG (a))) gb_n0 rfl rfl (Nat.le_of_ble_eq_true rfl) ⟨Nat.le_of_ble_eq_true rfl, Nat.le_of_ble_eq_true rfl⟩ ⟨Nat.le_of_ble_eq_true rfl, Nat.le_of_ble_eq_true rfl⟩ ?_
  refine z_if_eq CX 15 dX5_gutterOf_8 (by decide) (fun q9 => absurd q9 (by rw [bI_1 hj]; decide)) (fun _ => ?_)
  refine z_iconst CX (v := 0) dX5_gutterOf_11 (by decide) ?_
  refine z_goto CX 16 dX5_gutterOf_12 (by decide) ?_
  refine z_callS0 CX dX5_gutterOf_16 cs_X5_42 g_thr0 rfl rfl (Nat.le_of_ble_eq_true rfl) ⟨Nat.le_of_ble_eq_true rfl, Nat.le_of_ble_eq_true rfl⟩ ⟨Nat.le_of_ble_eq_true rfl, Nat.le_of_ble_eq_true rfl⟩ ?_
  refine z_iload_n CX 2 dX5_gutterOf_19 rfl rfl ?_
  refine z_if_lt CX 29 dX5_gutterOf_20 (by decide) (fun c_20 => ?_) (fun c_20 => ?_)
  · skip
    refine z_iconst CX (v := 2) dX5_gutterOf_29 (by decide) ?_
    refine z_goto CX 34 dX5_gutterOf_30 (by decide) ?_
    exact z_callSx CX htb hN dX5_gutterOf_34 cs_X5_42 (g_thr (i := 2) hl9 ⟨by omega, by omega⟩ rfl) rfl rfl (Nat.le_of_ble_eq_true rfl) ⟨Nat.le_of_ble_eq_true rfl, Nat.le_of_ble_eq_true rfl⟩ ⟨Nat.le_of_ble_eq_true rfl, Nat.le_of_ble_eq_true rfl⟩
  · skip
    refine z_iload_n CX 2 dX5_gutterOf_23 rfl rfl ?_
    refine z_bipush CX (v := 6) dX5_gutterOf_24 (by decide) ?_
    refine z_icmp_le CX 33 dX5_gutterOf_26 (by decide) (fun q9 => absurd q9 (fun q => h ⟨Int32.not_lt.mp c_20, q⟩)) (fun _ => ?_)
    refine z_iconst CX (v := 2) dX5_gutterOf_29 (by decide) ?_
    refine z_goto CX 34 dX5_gutterOf_30 (by decide) ?_
    exact z_callSx CX htb hN dX5_gutterOf_34 cs_X5_42 (g_thr (i := 2) hl9 ⟨by omega, by omega⟩ rfl) rfl rfl (Nat.le_of_ble_eq_true rfl) ⟨Nat.le_of_ble_eq_true rfl, Nat.le_of_ble_eq_true rfl⟩ ⟨Nat.le_of_ble_eq_true rfl, Nat.le_of_ble_eq_true rfl⟩
set_option maxHeartbeats 4000000 in
set_option maxRecDepth 100000 in
theorem g_boatOf {l : Launch} {w : Wt} {hs : Hs} {n : Option Nat} {k : Nat} {T : TXs} {C : TTs} {Y : HIs} {S : SHs} {f : Nat → Int32} {x : Int32} {z : Nat → Nat → Int32} (hO : OKr f) {j i : Nat} (hj : j < bN f) (hi : i < 11) : Cn l w mX5_boatOf 0 0 [.ref (wB w + k), .int (nI j), .int (nI i)] (GB w hs k T (nT f x z) C Y S) n (GB w hs k T (nT f x z) C Y S) n (some (.int (boV f j i))) := by
  have h6 := hO.1.1.2.1
  have h9 := hO.2.2
  by_cases e10 : i = 10
  · subst e10
    refine Cn.of (d := mX5_boatOf) (by decide +kernel) (Nat.le_of_ble_eq_true rfl) ?_
    intro p e R s m args below meth c CX
    replace CX : Ctx p s m args meth c R w RX5 "boatOf" cX5_boatOf 3 (some .int) 7 112 0 0 := CX
    show ZW p l e R s m args below meth c w 3 _ _ 0 0 (MQ below (Qn w _ _ _) args s 0 0 (wA w)) 0 [(0, .ref (wB w + k)), (1, .int _), (2, .int _)] []
    refine z_aload_n CX 0 dX5_boatOf_0 rfl rfl ?_
    refine z_get CX dX5_boatOf_1 fg_X5_19 gb_0 rfl ?_
    refine z_iload_n CX 1 dX5_boatOf_4 rfl rfl ?_
    refine z_callV1 CX dX5_boatOf_5 cv_X5_84 (Cn.gN (t_hasB (nI j))) gb_n0 rfl rfl (Nat.le_of_ble_eq_true rfl) ⟨Nat.le_of_ble_eq_true rfl, Nat.le_of_ble_eq_true rfl⟩ ⟨Nat.le_refl _, Nat.le_refl _⟩ ?_
    refine z_if_eq CX 15 dX5_boatOf_8 (by decide) (fun q9 => absurd q9 (by rw [bI_1 (show 0 ≤ nI j ∧ nI j < nI (bN f) from ⟨nI_pos' (by omega), nI_lt hj (by omega)⟩)]; decide)) (fun _ => ?_)
    refine z_iconst CX (v := 0) dX5_boatOf_11 (by decide) ?_
    refine z_goto CX 16 dX5_boatOf_12 (by decide) ?_
    refine z_callS0 CX dX5_boatOf_16 cs_X5_42 g_thr0 rfl rfl (Nat.le_of_ble_eq_true rfl) ⟨Nat.le_of_ble_eq_true rfl, Nat.le_of_ble_eq_true rfl⟩ ⟨Nat.le_refl _, Nat.le_refl _⟩ ?_
    refine z_iload_n CX 2 dX5_boatOf_19 rfl rfl ?_
    refine z_if_lt CX 29 dX5_boatOf_20 (by decide) (fun q9 => absurd q9 (Int32.not_lt.mpr (nI_pos' (by omega)))) (fun _ => ?_)
    refine z_iload_n CX 2 dX5_boatOf_23 rfl rfl ?_
    refine z_bipush CX (v := 10) dX5_boatOf_24 (by decide) ?_
    refine z_icmp_le CX 33 dX5_boatOf_26 (by decide) (fun _ => ?_) (fun q9 => absurd (nI_le (b := 10) (by omega) (by omega)) q9)
    refine z_iconst CX (v := 0) dX5_boatOf_33 (by decide) ?_
    refine z_callS0 CX dX5_boatOf_34 cs_X5_42 g_thr0 rfl rfl (Nat.le_of_ble_eq_true rfl) ⟨Nat.le_of_ble_eq_true rfl, Nat.le_of_ble_eq_true rfl⟩ ⟨Nat.le_refl _, Nat.le_refl _⟩ ?_
    refine z_iload_n CX 2 dX5_boatOf_37 rfl rfl ?_
    refine z_bipush CX (v := 10) dX5_boatOf_38 (by decide) ?_
    refine z_icmp_ne CX 54 dX5_boatOf_40 (by decide) (fun q9 => absurd q9 (fun q => q rfl)) (fun _ => ?_)
    refine z_aload_n CX 0 dX5_boatOf_43 rfl rfl ?_
    refine z_get CX dX5_boatOf_44 fg_X5_19 gb_0 rfl ?_
    refine z_iload_n CX 1 dX5_boatOf_47 rfl rfl ?_
    refine z_callV1 CX dX5_boatOf_48 cv_X5_87 (Cn.gN (t_soakL hO.1 hj)) gb_n0 rfl rfl (Nat.le_of_ble_eq_true rfl) ⟨Nat.le_of_ble_eq_true rfl, Nat.le_of_ble_eq_true rfl⟩ ⟨Nat.le_refl _, Nat.le_refl _⟩ ?_
    refine z_goto CX 66 dX5_boatOf_51 (by decide) ?_
    exact z_iret CX dX5_boatOf_66 rfl rfl rfl (Or.inl rfl)
  · rw [show boV f j i = nv f j i from if_neg e10]
    refine Cn.of (d := mX5_boatOf) (by decide +kernel) (Nat.le_of_ble_eq_true rfl) ?_
    intro p e R s m args below meth c CX
    replace CX : Ctx p s m args meth c R w RX5 "boatOf" cX5_boatOf 3 (some .int) 7 112 0 0 := CX
    show ZW p l e R s m args below meth c w 3 _ _ 0 0 (MQ below (Qn w _ _ _) args s 0 0 (wA w)) 0 [(0, .ref (wB w + k)), (1, .int _), (2, .int _)] []
    refine z_aload_n CX 0 dX5_boatOf_0 rfl rfl ?_
    refine z_get CX dX5_boatOf_1 fg_X5_19 gb_0 rfl ?_
    refine z_iload_n CX 1 dX5_boatOf_4 rfl rfl ?_
    refine z_callV1 CX dX5_boatOf_5 cv_X5_84 (Cn.gN (t_hasB (nI j))) gb_n0 rfl rfl (Nat.le_of_ble_eq_true rfl) ⟨Nat.le_of_ble_eq_true rfl, Nat.le_of_ble_eq_true rfl⟩ ⟨Nat.le_refl _, Nat.le_refl _⟩ ?_
    refine z_if_eq CX 15 dX5_boatOf_8 (by decide) (fun q9 => absurd q9 (by rw [bI_1 (show 0 ≤ nI j ∧ nI j < nI (bN f) from ⟨nI_pos' (by omega), nI_lt hj (by omega)⟩)]; decide)) (fun _ => ?_)
    refine z_iconst CX (v := 0) dX5_boatOf_11 (by decide) ?_
    refine z_goto CX 16 dX5_boatOf_12 (by decide) ?_
    refine z_callS0 CX dX5_boatOf_16 cs_X5_42 g_thr0 rfl rfl (Nat.le_of_ble_eq_true rfl) ⟨Nat.le_of_ble_eq_true rfl, Nat.le_of_ble_eq_true rfl⟩ ⟨Nat.le_refl _, Nat.le_refl _⟩ ?_
    refine z_iload_n CX 2 dX5_boatOf_19 rfl rfl ?_
    refine z_if_lt CX 29 dX5_boatOf_20 (by decide) (fun q9 => absurd q9 (Int32.not_lt.mpr (nI_pos' (by omega)))) (fun _ => ?_)
    refine z_iload_n CX 2 dX5_boatOf_23 rfl rfl ?_
    refine z_bipush CX (v := 10) dX5_boatOf_24 (by decide) ?_
    refine z_icmp_le CX 33 dX5_boatOf_26 (by decide) (fun _ => ?_) (fun q9 => absurd (nI_le (b := 10) (by omega) (by omega)) q9)
    refine z_iconst CX (v := 0) dX5_boatOf_33 (by decide) ?_
    refine z_callS0 CX dX5_boatOf_34 cs_X5_42 g_thr0 rfl rfl (Nat.le_of_ble_eq_true rfl) ⟨Nat.le_of_ble_eq_true rfl, Nat.le_of_ble_eq_true rfl⟩ ⟨Nat.le_refl _, Nat.le_refl _⟩ ?_
    refine z_iload_n CX 2 dX5_boatOf_37 rfl rfl ?_
    refine z_bipush CX (v := 10) dX5_boatOf_38 (by decide) ?_
    refine z_icmp_ne CX 54 dX5_boatOf_40 (by decide) (fun _ => ?_) (fun q9 => absurd q9 (fun q => e10 ((nI_eq (b := 10) (by omega) (by omega)).mp q)))
    refine z_aload_n CX 0 dX5_boatOf_54 rfl rfl ?_
    refine z_get CX dX5_boatOf_55 fg_X5_19 gb_0 rfl ?_
    refine z_get CX dX5_boatOf_58 fg_X5_90 gb_n0 rfl ?_
    refine z_iload_n CX 1 dX5_boatOf_61 rfl rfl ?_
    refine z_iload_n CX 2 dX5_boatOf_62 rfl rfl ?_
    refine z_callV1 CX dX5_boatOf_63 cv_X5_94 (Cn.gN (hB_at hO.1 hj (by omega))) gb_n3 rfl rfl (Nat.le_of_ble_eq_true rfl) ⟨Nat.le_of_ble_eq_true rfl, Nat.le_of_ble_eq_true rfl⟩ ⟨Nat.le_refl _, Nat.le_refl _⟩ ?_
    exact z_iret CX dX5_boatOf_66 rfl rfl rfl (Or.inl rfl)
set_option maxHeartbeats 4000000 in
set_option maxRecDepth 100000 in
theorem gx_boatOf1 {l : Launch} {w : Wt} {hs : Hs} {n : Option Nat} {k : Nat} {T : TXs} {C : TTs} {Y : HIs} {S : SHs} {f : Nat → Int32} {x : Int32} {z : Nat → Nat → Int32} {a b : Int32} (h : ¬ (0 ≤ a ∧ a < nI (bN f))) (hl9 : l.stackTraces = false) : Cx l w mX5_boatOf 1 6 [.ref (wB w + k), .int a, .int b] (GB w hs k T (nT f x z) C Y S) n (GB w hs k T (nT f x z) C Y S) (exN 1) := by
  refine Cx.of (d := mX5_boatOf) (by decide +kernel) (Nat.le_of_ble_eq_true rfl) ?_
  intro p e R s m args below meth c CX htb hN
  replace CX : Ctx p s m args meth c R w RX5 "boatOf" cX5_boatOf 3 (some .int) 7 112 1 6 := CX
  show ZW p l e R s m args below meth c w 3 _ _ 0 0 _ 0 [(0, .ref (wB w + k)), (1, .int _), (2, .int _)] []
  refine z_aload_n CX 0 dX5_boatOf_0 rfl rfl ?_
  refine z_get CX dX5_boatOf_1 fg_X5_19 gb_0 rfl ?_
  refine z_iload_n CX 1 dX5_boatOf_4 rfl rfl ?_
  refine z_callV1 CX dX5_boatOf_5 cv_X5_84 (Cn.gN (t_hasB (a))) gb_n0 rfl rfl (Nat.le_of_ble_eq_true rfl) ⟨Nat.le_of_ble_eq_true rfl, Nat.le_of_ble_eq_true rfl⟩ ⟨Nat.le_of_ble_eq_true rfl, Nat.le_of_ble_eq_true rfl⟩ ?_
  refine z_if_eq CX 15 dX5_boatOf_8 (by decide) (fun _ => ?_) (fun q9 => absurd (bI_0 h) q9)
  refine z_iconst CX (v := 1) dX5_boatOf_15 (by decide) ?_
  exact z_callSx CX htb hN dX5_boatOf_16 cs_X5_42 (g_thr (i := 1) hl9 ⟨by omega, by omega⟩ rfl) rfl rfl (Nat.le_of_ble_eq_true rfl) ⟨Nat.le_of_ble_eq_true rfl, Nat.le_of_ble_eq_true rfl⟩ ⟨Nat.le_of_ble_eq_true rfl, Nat.le_of_ble_eq_true rfl⟩
set_option maxHeartbeats 4000000 in
set_option maxRecDepth 100000 in
theorem gx_boatOf2 {l : Launch} {w : Wt} {hs : Hs} {n : Option Nat} {k : Nat} {T : TXs} {C : TTs} {Y : HIs} {S : SHs} {f : Nat → Int32} {x : Int32} {z : Nat → Nat → Int32} {a b : Int32} (hj : 0 ≤ a ∧ a < nI (bN f)) (h : ¬ (0 ≤ b ∧ b ≤ 10)) (hl9 : l.stackTraces = false) : Cx l w mX5_boatOf 1 6 [.ref (wB w + k), .int a, .int b] (GB w hs k T (nT f x z) C Y S) n (GB w hs k T (nT f x z) C Y S) (exN 2) := by
  refine Cx.of (d := mX5_boatOf) (by decide +kernel) (Nat.le_of_ble_eq_true rfl) ?_
  intro p e R s m args below meth c CX htb hN
  replace CX : Ctx p s m args meth c R w RX5 "boatOf" cX5_boatOf 3 (some .int) 7 112 1 6 := CX
  show ZW p l e R s m args below meth c w 3 _ _ 0 0 _ 0 [(0, .ref (wB w + k)), (1, .int _), (2, .int _)] []
  refine z_aload_n CX 0 dX5_boatOf_0 rfl rfl ?_
  refine z_get CX dX5_boatOf_1 fg_X5_19 gb_0 rfl ?_
  refine z_iload_n CX 1 dX5_boatOf_4 rfl rfl ?_
  refine z_callV1 CX dX5_boatOf_5 cv_X5_84 (Cn.gN (t_hasB (a))) gb_n0 rfl rfl (Nat.le_of_ble_eq_true rfl) ⟨Nat.le_of_ble_eq_true rfl, Nat.le_of_ble_eq_true rfl⟩ ⟨Nat.le_of_ble_eq_true rfl, Nat.le_of_ble_eq_true rfl⟩ ?_
  refine z_if_eq CX 15 dX5_boatOf_8 (by decide) (fun q9 => absurd q9 (by rw [bI_1 hj]; decide)) (fun _ => ?_)
  refine z_iconst CX (v := 0) dX5_boatOf_11 (by decide) ?_
  refine z_goto CX 16 dX5_boatOf_12 (by decide) ?_
  refine z_callS0 CX dX5_boatOf_16 cs_X5_42 g_thr0 rfl rfl (Nat.le_of_ble_eq_true rfl) ⟨Nat.le_of_ble_eq_true rfl, Nat.le_of_ble_eq_true rfl⟩ ⟨Nat.le_of_ble_eq_true rfl, Nat.le_of_ble_eq_true rfl⟩ ?_
  refine z_iload_n CX 2 dX5_boatOf_19 rfl rfl ?_
  refine z_if_lt CX 29 dX5_boatOf_20 (by decide) (fun c_20 => ?_) (fun c_20 => ?_)
  · skip
    refine z_iconst CX (v := 2) dX5_boatOf_29 (by decide) ?_
    refine z_goto CX 34 dX5_boatOf_30 (by decide) ?_
    exact z_callSx CX htb hN dX5_boatOf_34 cs_X5_42 (g_thr (i := 2) hl9 ⟨by omega, by omega⟩ rfl) rfl rfl (Nat.le_of_ble_eq_true rfl) ⟨Nat.le_of_ble_eq_true rfl, Nat.le_of_ble_eq_true rfl⟩ ⟨Nat.le_of_ble_eq_true rfl, Nat.le_of_ble_eq_true rfl⟩
  · skip
    refine z_iload_n CX 2 dX5_boatOf_23 rfl rfl ?_
    refine z_bipush CX (v := 10) dX5_boatOf_24 (by decide) ?_
    refine z_icmp_le CX 33 dX5_boatOf_26 (by decide) (fun q9 => absurd q9 (fun q => h ⟨Int32.not_lt.mp c_20, q⟩)) (fun _ => ?_)
    refine z_iconst CX (v := 2) dX5_boatOf_29 (by decide) ?_
    refine z_goto CX 34 dX5_boatOf_30 (by decide) ?_
    exact z_callSx CX htb hN dX5_boatOf_34 cs_X5_42 (g_thr (i := 2) hl9 ⟨by omega, by omega⟩ rfl) rfl rfl (Nat.le_of_ble_eq_true rfl) ⟨Nat.le_of_ble_eq_true rfl, Nat.le_of_ble_eq_true rfl⟩ ⟨Nat.le_of_ble_eq_true rfl, Nat.le_of_ble_eq_true rfl⟩
set_option maxHeartbeats 4000000 in
set_option maxRecDepth 100000 in
theorem g_ownerOf {l : Launch} {w : Wt} {hs : Hs} {n : Option Nat} {k : Nat} {T : TXs} {C : TTs} {Y : HIs} {S : SHs} {f : Nat → Int32} {x : Int32} {z : Nat → Nat → Int32} (hO : OKr f) {j i : Nat} (hj : j < 4) (hi : i < 5) : Cn l w mX5_ownerOf 0 0 [.ref (wB w + k), .int (nI j), .int (nI i)] (GB w hs k T (nT f x z) C Y S) n (GB w hs k T (nT f x z) C Y S) n (some (.int (owV f j i))) := by
  have h6 := hO.1.1.2.1
  have h9 := hO.2.2
  refine Cn.of (d := mX5_ownerOf) (by decide +kernel) (Nat.le_of_ble_eq_true rfl) ?_
  intro p e R s m args below meth c CX
  replace CX : Ctx p s m args meth c R w RX5 "ownerOf" cX5_ownerOf 3 (some .int) 7 115 0 0 := CX
  show ZW p l e R s m args below meth c w 3 _ _ 0 0 (MQ below (Qn w _ _ _) args s 0 0 (wA w)) 0 [(0, .ref (wB w + k)), (1, .int _), (2, .int _)] []
  refine z_aload_n CX 0 dX5_ownerOf_0 rfl rfl ?_
  refine z_get CX dX5_ownerOf_1 fg_X5_19 gb_0 rfl ?_
  refine z_iload_n CX 1 dX5_ownerOf_4 rfl rfl ?_
  refine z_callV1 CX dX5_ownerOf_5 cv_X5_99 (Cn.gN (t_hasO (nI j))) gb_n0 rfl rfl (Nat.le_of_ble_eq_true rfl) ⟨Nat.le_of_ble_eq_true rfl, Nat.le_of_ble_eq_true rfl⟩ ⟨Nat.le_refl _, Nat.le_refl _⟩ ?_
  refine z_if_eq CX 15 dX5_ownerOf_8 (by decide) (fun q9 => absurd q9 (by rw [bI_1 (show 0 ≤ nI j ∧ nI j ≤ 3 from ⟨nI_pos' (by omega), nI_le (b := 3) (by omega) (by omega)⟩)]; decide)) (fun _ => ?_)
  refine z_iconst CX (v := 0) dX5_ownerOf_11 (by decide) ?_
  refine z_goto CX 16 dX5_ownerOf_12 (by decide) ?_
  refine z_callS0 CX dX5_ownerOf_16 cs_X5_42 g_thr0 rfl rfl (Nat.le_of_ble_eq_true rfl) ⟨Nat.le_of_ble_eq_true rfl, Nat.le_of_ble_eq_true rfl⟩ ⟨Nat.le_refl _, Nat.le_refl _⟩ ?_
  refine z_iload_n CX 2 dX5_ownerOf_19 rfl rfl ?_
  refine z_if_lt CX 28 dX5_ownerOf_20 (by decide) (fun q9 => absurd q9 (Int32.not_lt.mpr (nI_pos' (by omega)))) (fun _ => ?_)
  refine z_iload_n CX 2 dX5_ownerOf_23 rfl rfl ?_
  refine z_iconst CX (v := 4) dX5_ownerOf_24 (by decide) ?_
  refine z_icmp_le CX 32 dX5_ownerOf_25 (by decide) (fun _ => ?_) (fun q9 => absurd (nI_le (b := 4) (by omega) (by omega)) q9)
  refine z_iconst CX (v := 0) dX5_ownerOf_32 (by decide) ?_
  refine z_callS0 CX dX5_ownerOf_33 cs_X5_42 g_thr0 rfl rfl (Nat.le_of_ble_eq_true rfl) ⟨Nat.le_of_ble_eq_true rfl, Nat.le_of_ble_eq_true rfl⟩ ⟨Nat.le_refl _, Nat.le_refl _⟩ ?_
  refine z_aload_n CX 0 dX5_ownerOf_36 rfl rfl ?_
  refine z_get CX dX5_ownerOf_37 fg_X5_19 gb_0 rfl ?_
  refine z_iload_n CX 1 dX5_ownerOf_40 rfl rfl ?_
  refine z_iload_n CX 2 dX5_ownerOf_41 rfl rfl ?_
  refine z_callV1 CX dX5_ownerOf_42 cv_X5_102 (Cn.gN (t_numO hO.1 hj hi)) gb_n0 rfl rfl (Nat.le_of_ble_eq_true rfl) ⟨Nat.le_of_ble_eq_true rfl, Nat.le_of_ble_eq_true rfl⟩ ⟨Nat.le_refl _, Nat.le_refl _⟩ ?_
  exact z_iret CX dX5_ownerOf_45 rfl rfl rfl (Or.inl rfl)
set_option maxHeartbeats 4000000 in
set_option maxRecDepth 100000 in
theorem gx_ownerOf1 {l : Launch} {w : Wt} {hs : Hs} {n : Option Nat} {k : Nat} {T : TXs} {C : TTs} {Y : HIs} {S : SHs} {f : Nat → Int32} {x : Int32} {z : Nat → Nat → Int32} {a b : Int32} (h : ¬ (0 ≤ a ∧ a ≤ 3)) (hl9 : l.stackTraces = false) : Cx l w mX5_ownerOf 1 6 [.ref (wB w + k), .int a, .int b] (GB w hs k T (nT f x z) C Y S) n (GB w hs k T (nT f x z) C Y S) (exN 1) := by
  refine Cx.of (d := mX5_ownerOf) (by decide +kernel) (Nat.le_of_ble_eq_true rfl) ?_
  intro p e R s m args below meth c CX htb hN
  replace CX : Ctx p s m args meth c R w RX5 "ownerOf" cX5_ownerOf 3 (some .int) 7 115 1 6 := CX
  show ZW p l e R s m args below meth c w 3 _ _ 0 0 _ 0 [(0, .ref (wB w + k)), (1, .int _), (2, .int _)] []
  refine z_aload_n CX 0 dX5_ownerOf_0 rfl rfl ?_
  refine z_get CX dX5_ownerOf_1 fg_X5_19 gb_0 rfl ?_
  refine z_iload_n CX 1 dX5_ownerOf_4 rfl rfl ?_
  refine z_callV1 CX dX5_ownerOf_5 cv_X5_99 (Cn.gN (t_hasO (a))) gb_n0 rfl rfl (Nat.le_of_ble_eq_true rfl) ⟨Nat.le_of_ble_eq_true rfl, Nat.le_of_ble_eq_true rfl⟩ ⟨Nat.le_of_ble_eq_true rfl, Nat.le_of_ble_eq_true rfl⟩ ?_
  refine z_if_eq CX 15 dX5_ownerOf_8 (by decide) (fun _ => ?_) (fun q9 => absurd (bI_0 h) q9)
  refine z_iconst CX (v := 1) dX5_ownerOf_15 (by decide) ?_
  exact z_callSx CX htb hN dX5_ownerOf_16 cs_X5_42 (g_thr (i := 1) hl9 ⟨by omega, by omega⟩ rfl) rfl rfl (Nat.le_of_ble_eq_true rfl) ⟨Nat.le_of_ble_eq_true rfl, Nat.le_of_ble_eq_true rfl⟩ ⟨Nat.le_of_ble_eq_true rfl, Nat.le_of_ble_eq_true rfl⟩
set_option maxHeartbeats 4000000 in
set_option maxRecDepth 100000 in
theorem gx_ownerOf2 {l : Launch} {w : Wt} {hs : Hs} {n : Option Nat} {k : Nat} {T : TXs} {C : TTs} {Y : HIs} {S : SHs} {f : Nat → Int32} {x : Int32} {z : Nat → Nat → Int32} {a b : Int32} (hj : 0 ≤ a ∧ a ≤ 3) (h : ¬ (0 ≤ b ∧ b ≤ 4)) (hl9 : l.stackTraces = false) : Cx l w mX5_ownerOf 1 6 [.ref (wB w + k), .int a, .int b] (GB w hs k T (nT f x z) C Y S) n (GB w hs k T (nT f x z) C Y S) (exN 2) := by
  refine Cx.of (d := mX5_ownerOf) (by decide +kernel) (Nat.le_of_ble_eq_true rfl) ?_
  intro p e R s m args below meth c CX htb hN
  replace CX : Ctx p s m args meth c R w RX5 "ownerOf" cX5_ownerOf 3 (some .int) 7 115 1 6 := CX
  show ZW p l e R s m args below meth c w 3 _ _ 0 0 _ 0 [(0, .ref (wB w + k)), (1, .int _), (2, .int _)] []
  refine z_aload_n CX 0 dX5_ownerOf_0 rfl rfl ?_
  refine z_get CX dX5_ownerOf_1 fg_X5_19 gb_0 rfl ?_
  refine z_iload_n CX 1 dX5_ownerOf_4 rfl rfl ?_
  refine z_callV1 CX dX5_ownerOf_5 cv_X5_99 (Cn.gN (t_hasO (a))) gb_n0 rfl rfl (Nat.le_of_ble_eq_true rfl) ⟨Nat.le_of_ble_eq_true rfl, Nat.le_of_ble_eq_true rfl⟩ ⟨Nat.le_of_ble_eq_true rfl, Nat.le_of_ble_eq_true rfl⟩ ?_
  refine z_if_eq CX 15 dX5_ownerOf_8 (by decide) (fun q9 => absurd q9 (by rw [bI_1 hj]; decide)) (fun _ => ?_)
  refine z_iconst CX (v := 0) dX5_ownerOf_11 (by decide) ?_
  refine z_goto CX 16 dX5_ownerOf_12 (by decide) ?_
  refine z_callS0 CX dX5_ownerOf_16 cs_X5_42 g_thr0 rfl rfl (Nat.le_of_ble_eq_true rfl) ⟨Nat.le_of_ble_eq_true rfl, Nat.le_of_ble_eq_true rfl⟩ ⟨Nat.le_of_ble_eq_true rfl, Nat.le_of_ble_eq_true rfl⟩ ?_
  refine z_iload_n CX 2 dX5_ownerOf_19 rfl rfl ?_
  refine z_if_lt CX 28 dX5_ownerOf_20 (by decide) (fun c_20 => ?_) (fun c_20 => ?_)
  · skip
    refine z_iconst CX (v := 2) dX5_ownerOf_28 (by decide) ?_
    refine z_goto CX 33 dX5_ownerOf_29 (by decide) ?_
    exact z_callSx CX htb hN dX5_ownerOf_33 cs_X5_42 (g_thr (i := 2) hl9 ⟨by omega, by omega⟩ rfl) rfl rfl (Nat.le_of_ble_eq_true rfl) ⟨Nat.le_of_ble_eq_true rfl, Nat.le_of_ble_eq_true rfl⟩ ⟨Nat.le_of_ble_eq_true rfl, Nat.le_of_ble_eq_true rfl⟩
  · skip
    refine z_iload_n CX 2 dX5_ownerOf_23 rfl rfl ?_
    refine z_iconst CX (v := 4) dX5_ownerOf_24 (by decide) ?_
    refine z_icmp_le CX 32 dX5_ownerOf_25 (by decide) (fun q9 => absurd q9 (fun q => h ⟨Int32.not_lt.mp c_20, q⟩)) (fun _ => ?_)
    refine z_iconst CX (v := 2) dX5_ownerOf_28 (by decide) ?_
    refine z_goto CX 33 dX5_ownerOf_29 (by decide) ?_
    exact z_callSx CX htb hN dX5_ownerOf_33 cs_X5_42 (g_thr (i := 2) hl9 ⟨by omega, by omega⟩ rfl) rfl rfl (Nat.le_of_ble_eq_true rfl) ⟨Nat.le_of_ble_eq_true rfl, Nat.le_of_ble_eq_true rfl⟩ ⟨Nat.le_of_ble_eq_true rfl, Nat.le_of_ble_eq_true rfl⟩
set_option maxHeartbeats 4000000 in
set_option maxRecDepth 100000 in
theorem g_way {l : Launch} {w : Wt} {hs : Hs} {n : Option Nat} {k : Nat} {T : TXs} {C : TTs} {Y : HIs} {S : SHs} {f : Nat → Int32} {x : Int32} {z : Nat → Nat → Int32} {a b y : Int32} (hO : OKr f) (h : icl f (gN f) a b = true) (hy : 0 ≤ y ∧ y ≤ 1) : Cn l w mX5_way 0 0 [.ref (wB w + k), .int a, .int b, .int y] (GB w hs k T (nT f x z) C Y S) n (GB w hs k T (nT f x z) C Y S) n (some (.int (drn f 6 0 a.toNatClampNeg b))) := by
  have h6 := hO.1.1.2.1
  have h9 := hO.2.2
  obtain ⟨g, c0, L, rfl, rfl, hg, hL, hc, h40⟩ := icl_in hO.1.1 h
  rw [nI_clamp (show g < 2 ^ 31 by omega)]
  obtain ⟨i, i0, i1, rfl, -⟩ := nI_le9 (a := 0) (b := 1) (by omega) (by omega) hy
  rcases (show i = 0 ∨ i = 1 by omega) with e | e
  · subst e
    refine Cn.of (d := mX5_way) (by decide +kernel) (Nat.le_of_ble_eq_true rfl) ?_
    intro p e R s m args below meth c CX
    replace CX : Ctx p s m args meth c R w RX5 "way" cX5_way 4 (some .int) 7 112 0 0 := CX
    show ZW p l e R s m args below meth c w 4 _ _ 0 0 (MQ below (Qn w _ _ _) args s 0 0 (wA w)) 0 [(0, .ref (wB w + k)), (1, .int _), (2, .int _), (3, .int _)] []
    refine z_aload_n CX 0 dX5_way_0 rfl rfl ?_
    refine z_get CX dX5_way_1 fg_X5_19 gb_0 rfl ?_
    refine z_iload_n CX 1 dX5_way_4 rfl rfl ?_
    refine z_iload_n CX 2 dX5_way_5 rfl rfl ?_
    refine z_callV1 CX dX5_way_6 cv_X5_105 (Cn.gN (t_hasC hO.1 _ _)) gb_n0 rfl rfl (Nat.le_of_ble_eq_true rfl) ⟨Nat.le_of_ble_eq_true rfl, Nat.le_of_ble_eq_true rfl⟩ ⟨Nat.le_refl _, Nat.le_refl _⟩ ?_
    refine z_if_eq CX 16 dX5_way_9 (by decide) (fun q9 => absurd q9 (by rw [h]; decide)) (fun _ => ?_)
    refine z_iconst CX (v := 0) dX5_way_12 (by decide) ?_
    refine z_goto CX 17 dX5_way_13 (by decide) ?_
    refine z_callS0 CX dX5_way_17 cs_X5_42 g_thr0 rfl rfl (Nat.le_of_ble_eq_true rfl) ⟨Nat.le_of_ble_eq_true rfl, Nat.le_of_ble_eq_true rfl⟩ ⟨Nat.le_refl _, Nat.le_refl _⟩ ?_
    refine z_iload_n CX 3 dX5_way_20 rfl rfl ?_
    refine z_if_eq CX 33 dX5_way_21 (by decide) (fun _ => ?_) (fun q9 => absurd rfl q9)
    refine z_iconst CX (v := 0) dX5_way_33 (by decide) ?_
    refine z_callS0 CX dX5_way_34 cs_X5_42 g_thr0 rfl rfl (Nat.le_of_ble_eq_true rfl) ⟨Nat.le_of_ble_eq_true rfl, Nat.le_of_ble_eq_true rfl⟩ ⟨Nat.le_refl _, Nat.le_refl _⟩ ?_
    refine z_iload_n CX 3 dX5_way_37 rfl rfl ?_
    refine z_if_ne CX 53 dX5_way_38 (by decide) (fun q9 => absurd q9 (fun q => q rfl)) (fun _ => ?_)
    refine z_aload_n CX 0 dX5_way_41 rfl rfl ?_
    refine z_get CX dX5_way_42 fg_X5_19 gb_0 rfl ?_
    refine z_iload_n CX 1 dX5_way_45 rfl rfl ?_
    refine z_iload_n CX 2 dX5_way_46 rfl rfl ?_
    refine z_callV1 CX dX5_way_47 cv_X5_109 (Cn.gN (t_wayG hO.1 hg _)) gb_n0 rfl rfl (Nat.le_of_ble_eq_true rfl) ⟨Nat.le_of_ble_eq_true rfl, Nat.le_of_ble_eq_true rfl⟩ ⟨Nat.le_refl _, Nat.le_refl _⟩ ?_
    refine z_goto CX 62 dX5_way_50 (by decide) ?_
    exact z_iret CX dX5_way_62 rfl rfl rfl (Or.inl rfl)
  · subst e
    refine Cn.of (d := mX5_way) (by decide +kernel) (Nat.le_of_ble_eq_true rfl) ?_
    intro p e R s m args below meth c CX
    replace CX : Ctx p s m args meth c R w RX5 "way" cX5_way 4 (some .int) 7 112 0 0 := CX
    show ZW p l e R s m args below meth c w 4 _ _ 0 0 (MQ below (Qn w _ _ _) args s 0 0 (wA w)) 0 [(0, .ref (wB w + k)), (1, .int _), (2, .int _), (3, .int _)] []
    refine z_aload_n CX 0 dX5_way_0 rfl rfl ?_
    refine z_get CX dX5_way_1 fg_X5_19 gb_0 rfl ?_
    refine z_iload_n CX 1 dX5_way_4 rfl rfl ?_
    refine z_iload_n CX 2 dX5_way_5 rfl rfl ?_
    refine z_callV1 CX dX5_way_6 cv_X5_105 (Cn.gN (t_hasC hO.1 _ _)) gb_n0 rfl rfl (Nat.le_of_ble_eq_true rfl) ⟨Nat.le_of_ble_eq_true rfl, Nat.le_of_ble_eq_true rfl⟩ ⟨Nat.le_refl _, Nat.le_refl _⟩ ?_
    refine z_if_eq CX 16 dX5_way_9 (by decide) (fun q9 => absurd q9 (by rw [h]; decide)) (fun _ => ?_)
    refine z_iconst CX (v := 0) dX5_way_12 (by decide) ?_
    refine z_goto CX 17 dX5_way_13 (by decide) ?_
    refine z_callS0 CX dX5_way_17 cs_X5_42 g_thr0 rfl rfl (Nat.le_of_ble_eq_true rfl) ⟨Nat.le_of_ble_eq_true rfl, Nat.le_of_ble_eq_true rfl⟩ ⟨Nat.le_refl _, Nat.le_refl _⟩ ?_
    refine z_iload_n CX 3 dX5_way_20 rfl rfl ?_
    refine z_if_eq CX 33 dX5_way_21 (by decide) (fun q9 => absurd q9 (by decide)) (fun _ => ?_)
    refine z_iload_n CX 3 dX5_way_24 rfl rfl ?_
    refine z_iconst CX (v := 1) dX5_way_25 (by decide) ?_
    refine z_icmp_eq CX 33 dX5_way_26 (by decide) (fun _ => ?_) (fun q9 => absurd rfl q9)
    refine z_iconst CX (v := 0) dX5_way_33 (by decide) ?_
    refine z_callS0 CX dX5_way_34 cs_X5_42 g_thr0 rfl rfl (Nat.le_of_ble_eq_true rfl) ⟨Nat.le_of_ble_eq_true rfl, Nat.le_of_ble_eq_true rfl⟩ ⟨Nat.le_refl _, Nat.le_refl _⟩ ?_
    refine z_iload_n CX 3 dX5_way_37 rfl rfl ?_
    refine z_if_ne CX 53 dX5_way_38 (by decide) (fun _ => ?_) (fun q9 => absurd q9 (by decide))
    refine z_aload_n CX 0 dX5_way_53 rfl rfl ?_
    refine z_get CX dX5_way_54 fg_X5_19 gb_0 rfl ?_
    refine z_iload_n CX 1 dX5_way_57 rfl rfl ?_
    refine z_iload_n CX 2 dX5_way_58 rfl rfl ?_
    refine z_callV1 CX dX5_way_59 cv_X5_112 (Cn.gN (t_wayC hO.1 hg hL hc h40)) gb_n0 rfl rfl (Nat.le_of_ble_eq_true rfl) ⟨Nat.le_of_ble_eq_true rfl, Nat.le_of_ble_eq_true rfl⟩ ⟨Nat.le_refl _, Nat.le_refl _⟩ ?_
    exact z_iret CX dX5_way_62 rfl rfl rfl (Or.inl rfl)
set_option maxHeartbeats 4000000 in
set_option maxRecDepth 100000 in
theorem gx_way1 {l : Launch} {w : Wt} {hs : Hs} {n : Option Nat} {k : Nat} {T : TXs} {C : TTs} {Y : HIs} {S : SHs} {f : Nat → Int32} {x : Int32} {z : Nat → Nat → Int32} {a b y : Int32} (hO : OKr f) (h : ¬ icl f (gN f) a b = true) (hl9 : l.stackTraces = false) : Cx l w mX5_way 1 6 [.ref (wB w + k), .int a, .int b, .int y] (GB w hs k T (nT f x z) C Y S) n (GB w hs k T (nT f x z) C Y S) (exN 1) := by
  refine Cx.of (d := mX5_way) (by decide +kernel) (Nat.le_of_ble_eq_true rfl) ?_
  intro p e R s m args below meth c CX htb hN
  replace CX : Ctx p s m args meth c R w RX5 "way" cX5_way 4 (some .int) 7 112 1 6 := CX
  show ZW p l e R s m args below meth c w 4 _ _ 0 0 _ 0 [(0, .ref (wB w + k)), (1, .int _), (2, .int _), (3, .int _)] []
  refine z_aload_n CX 0 dX5_way_0 rfl rfl ?_
  refine z_get CX dX5_way_1 fg_X5_19 gb_0 rfl ?_
  refine z_iload_n CX 1 dX5_way_4 rfl rfl ?_
  refine z_iload_n CX 2 dX5_way_5 rfl rfl ?_
  refine z_callV1 CX dX5_way_6 cv_X5_105 (Cn.gN (t_hasC hO.1 _ _)) gb_n0 rfl rfl (Nat.le_of_ble_eq_true rfl) ⟨Nat.le_of_ble_eq_true rfl, Nat.le_of_ble_eq_true rfl⟩ ⟨Nat.le_of_ble_eq_true rfl, Nat.le_of_ble_eq_true rfl⟩ ?_
  refine z_if_eq CX 16 dX5_way_9 (by decide) (fun _ => ?_) (fun q9 => absurd (by rw [Bool.eq_false_iff.mpr h]; rfl) q9)
  refine z_iconst CX (v := 1) dX5_way_16 (by decide) ?_
  exact z_callSx CX htb hN dX5_way_17 cs_X5_42 (g_thr (i := 1) hl9 ⟨by omega, by omega⟩ rfl) rfl rfl (Nat.le_of_ble_eq_true rfl) ⟨Nat.le_of_ble_eq_true rfl, Nat.le_of_ble_eq_true rfl⟩ ⟨Nat.le_of_ble_eq_true rfl, Nat.le_of_ble_eq_true rfl⟩
set_option maxHeartbeats 4000000 in
set_option maxRecDepth 100000 in
theorem gx_way2 {l : Launch} {w : Wt} {hs : Hs} {n : Option Nat} {k : Nat} {T : TXs} {C : TTs} {Y : HIs} {S : SHs} {f : Nat → Int32} {x : Int32} {z : Nat → Nat → Int32} {a b y : Int32} (hO : OKr f) (h : icl f (gN f) a b = true) (hy : ¬ (0 ≤ y ∧ y ≤ 1)) (hl9 : l.stackTraces = false) : Cx l w mX5_way 1 6 [.ref (wB w + k), .int a, .int b, .int y] (GB w hs k T (nT f x z) C Y S) n (GB w hs k T (nT f x z) C Y S) (exN 2) := by
  refine Cx.of (d := mX5_way) (by decide +kernel) (Nat.le_of_ble_eq_true rfl) ?_
  intro p e R s m args below meth c CX htb hN
  replace CX : Ctx p s m args meth c R w RX5 "way" cX5_way 4 (some .int) 7 112 1 6 := CX
  show ZW p l e R s m args below meth c w 4 _ _ 0 0 _ 0 [(0, .ref (wB w + k)), (1, .int _), (2, .int _), (3, .int _)] []
  refine z_aload_n CX 0 dX5_way_0 rfl rfl ?_
  refine z_get CX dX5_way_1 fg_X5_19 gb_0 rfl ?_
  refine z_iload_n CX 1 dX5_way_4 rfl rfl ?_
  refine z_iload_n CX 2 dX5_way_5 rfl rfl ?_
  refine z_callV1 CX dX5_way_6 cv_X5_105 (Cn.gN (t_hasC hO.1 _ _)) gb_n0 rfl rfl (Nat.le_of_ble_eq_true rfl) ⟨Nat.le_of_ble_eq_true rfl, Nat.le_of_ble_eq_true rfl⟩ ⟨Nat.le_of_ble_eq_true rfl, Nat.le_of_ble_eq_true rfl⟩ ?_
  refine z_if_eq CX 16 dX5_way_9 (by decide) (fun q9 => absurd q9 (by rw [h]; decide)) (fun _ => ?_)
  refine z_iconst CX (v := 0) dX5_way_12 (by decide) ?_
  refine z_goto CX 17 dX5_way_13 (by decide) ?_
  refine z_callS0 CX dX5_way_17 cs_X5_42 g_thr0 rfl rfl (Nat.le_of_ble_eq_true rfl) ⟨Nat.le_of_ble_eq_true rfl, Nat.le_of_ble_eq_true rfl⟩ ⟨Nat.le_of_ble_eq_true rfl, Nat.le_of_ble_eq_true rfl⟩ ?_
  refine z_iload_n CX 3 dX5_way_20 rfl rfl ?_
  refine z_if_eq CX 33 dX5_way_21 (by decide) (fun q9 => absurd q9 (fun q => hy (by rw [q]; decide))) (fun _ => ?_)
  refine z_iload_n CX 3 dX5_way_24 rfl rfl ?_
  refine z_iconst CX (v := 1) dX5_way_25 (by decide) ?_
  refine z_icmp_eq CX 33 dX5_way_26 (by decide) (fun q9 => absurd q9 (fun q => hy (by rw [q]; decide))) (fun _ => ?_)
  refine z_iconst CX (v := 2) dX5_way_29 (by decide) ?_
  refine z_goto CX 34 dX5_way_30 (by decide) ?_
  exact z_callSx CX htb hN dX5_way_34 cs_X5_42 (g_thr (i := 2) hl9 ⟨by omega, by omega⟩ rfl) rfl rfl (Nat.le_of_ble_eq_true rfl) ⟨Nat.le_of_ble_eq_true rfl, Nat.le_of_ble_eq_true rfl⟩ ⟨Nat.le_of_ble_eq_true rfl, Nat.le_of_ble_eq_true rfl⟩
set_option maxHeartbeats 4000000 in
set_option maxRecDepth 100000 in
theorem g_setting {l : Launch} {w : Wt} {hs : Hs} {n : Option Nat} {k : Nat} {T : TXs} {C : TTs} {Y : HIs} {S : SHs} {f : Nat → Int32} {x : Int32} {z : Nat → Nat → Int32} {i : Nat} (hi : i < 3) : Cn l w mX5_setting 0 0 [.ref (wB w + k), .int (nI i)] (GB w hs k T (nT f x z) C Y S) n (GB w hs k T (nT f x z) C Y S) n (some (.int (f (154 + i)))) := by
  refine Cn.of (d := mX5_setting) (by decide +kernel) (Nat.le_of_ble_eq_true rfl) ?_
  intro p e R s m args below meth c CX
  replace CX : Ctx p s m args meth c R w RX5 "setting" cX5_setting 2 (some .int) 7 112 0 0 := CX
  show ZW p l e R s m args below meth c w 2 _ _ 0 0 (MQ below (Qn w _ _ _) args s 0 0 (wA w)) 0 [(0, .ref (wB w + k)), (1, .int _)] []
  refine z_iload_n CX 1 dX5_setting_0 rfl rfl ?_
  refine z_if_lt CX 9 dX5_setting_1 (by decide) (fun q9 => absurd q9 (Int32.not_lt.mpr (nI_pos' (by omega)))) (fun _ => ?_)
  refine z_iload_n CX 1 dX5_setting_4 rfl rfl ?_
  refine z_iconst CX (v := 2) dX5_setting_5 (by decide) ?_
  refine z_icmp_le CX 13 dX5_setting_6 (by decide) (fun _ => ?_) (fun q9 => absurd (nI_le (b := 2) (by omega) (by omega)) q9)
  refine z_iconst CX (v := 0) dX5_setting_13 (by decide) ?_
  refine z_callS0 CX dX5_setting_14 cs_X5_42 g_thr0 rfl rfl (Nat.le_of_ble_eq_true rfl) ⟨Nat.le_of_ble_eq_true rfl, Nat.le_of_ble_eq_true rfl⟩ ⟨Nat.le_refl _, Nat.le_refl _⟩ ?_
  refine z_aload_n CX 0 dX5_setting_17 rfl rfl ?_
  refine z_get CX dX5_setting_18 fg_X5_19 gb_0 rfl ?_
  refine z_iload_n CX 1 dX5_setting_21 rfl rfl ?_
  refine z_callV1 CX dX5_setting_22 cv_X5_115 (Cn.gN (t_setN hi)) gb_n0 rfl rfl (Nat.le_of_ble_eq_true rfl) ⟨Nat.le_of_ble_eq_true rfl, Nat.le_of_ble_eq_true rfl⟩ ⟨Nat.le_refl _, Nat.le_refl _⟩ ?_
  exact z_iret CX dX5_setting_25 rfl rfl rfl (Or.inl rfl)
set_option maxHeartbeats 4000000 in
set_option maxRecDepth 100000 in
theorem gx_setting2 {l : Launch} {w : Wt} {hs : Hs} {n : Option Nat} {k : Nat} {T : TXs} {C : TTs} {Y : HIs} {S : SHs} {f : Nat → Int32} {x : Int32} {z : Nat → Nat → Int32} {a : Int32} (h : ¬ (0 ≤ a ∧ a ≤ 2)) (hl9 : l.stackTraces = false) : Cx l w mX5_setting 1 6 [.ref (wB w + k), .int a] (GB w hs k T (nT f x z) C Y S) n (GB w hs k T (nT f x z) C Y S) (exN 2) := by
  refine Cx.of (d := mX5_setting) (by decide +kernel) (Nat.le_of_ble_eq_true rfl) ?_
  intro p e R s m args below meth c CX htb hN
  replace CX : Ctx p s m args meth c R w RX5 "setting" cX5_setting 2 (some .int) 7 112 1 6 := CX
  show ZW p l e R s m args below meth c w 2 _ _ 0 0 _ 0 [(0, .ref (wB w + k)), (1, .int _)] []
  refine z_iload_n CX 1 dX5_setting_0 rfl rfl ?_
  refine z_if_lt CX 9 dX5_setting_1 (by decide) (fun c_1 => ?_) (fun c_1 => ?_)
  · skip
    refine z_iconst CX (v := 2) dX5_setting_9 (by decide) ?_
    refine z_goto CX 14 dX5_setting_10 (by decide) ?_
    exact z_callSx CX htb hN dX5_setting_14 cs_X5_42 (g_thr (i := 2) hl9 ⟨by omega, by omega⟩ rfl) rfl rfl (Nat.le_of_ble_eq_true rfl) ⟨Nat.le_of_ble_eq_true rfl, Nat.le_of_ble_eq_true rfl⟩ ⟨Nat.le_of_ble_eq_true rfl, Nat.le_of_ble_eq_true rfl⟩
  · skip
    refine z_iload_n CX 1 dX5_setting_4 rfl rfl ?_
    refine z_iconst CX (v := 2) dX5_setting_5 (by decide) ?_
    refine z_icmp_le CX 13 dX5_setting_6 (by decide) (fun q9 => absurd q9 (fun q => h ⟨Int32.not_lt.mp c_1, q⟩)) (fun _ => ?_)
    refine z_iconst CX (v := 2) dX5_setting_9 (by decide) ?_
    refine z_goto CX 14 dX5_setting_10 (by decide) ?_
    exact z_callSx CX htb hN dX5_setting_14 cs_X5_42 (g_thr (i := 2) hl9 ⟨by omega, by omega⟩ rfl) rfl rfl (Nat.le_of_ble_eq_true rfl) ⟨Nat.le_of_ble_eq_true rfl, Nat.le_of_ble_eq_true rfl⟩ ⟨Nat.le_of_ble_eq_true rfl, Nat.le_of_ble_eq_true rfl⟩
set_option maxHeartbeats 4000000 in
set_option maxRecDepth 100000 in
theorem g_why {l : Launch} {w : Wt} {hs : Hs} {n : Option Nat} {k : Nat} {T : TXs} {C : TTs} {Y : HIs} {S : SHs} {f : Nat → Int32} {x : Int32} {z : Nat → Nat → Int32} (hO : OKr f) {j i : Nat} (hj : j < 4) (hi : i < bN f) : Cn l w mX5_why 0 0 [.ref (wB w + k), .int (nI j), .int (nI i)] (GB w hs k T (nT f x z) C Y S) n (GB w hs k T (nT f x z) C Y S) n (some (.int (whyF f j i))) := by
  have h6 := hO.1.1.2.1
  have h9 := hO.2.2
  refine Cn.of (d := mX5_why) (by decide +kernel) (Nat.le_of_ble_eq_true rfl) ?_
  intro p e R s m args below meth c CX
  replace CX : Ctx p s m args meth c R w RX5 "why" cX5_why 3 (some .int) 7 112 0 0 := CX
  show ZW p l e R s m args below meth c w 3 _ _ 0 0 (MQ below (Qn w _ _ _) args s 0 0 (wA w)) 0 [(0, .ref (wB w + k)), (1, .int _), (2, .int _)] []
  refine z_aload_n CX 0 dX5_why_0 rfl rfl ?_
  refine z_get CX dX5_why_1 fg_X5_19 gb_0 rfl ?_
  refine z_iload_n CX 1 dX5_why_4 rfl rfl ?_
  refine z_iload_n CX 2 dX5_why_5 rfl rfl ?_
  refine z_callV1 CX dX5_why_6 cv_X5_152 (Cn.gN (t_fltC _ _)) gb_n0 rfl rfl (Nat.le_of_ble_eq_true rfl) ⟨Nat.le_of_ble_eq_true rfl, Nat.le_of_ble_eq_true rfl⟩ ⟨Nat.le_refl _, Nat.le_refl _⟩ ?_
  rw [show fltC f (nI j) (nI i) = 0 from if_pos ⟨(show 0 ≤ nI j ∧ nI j ≤ 3 from ⟨nI_pos' (by omega), nI_le (b := 3) (by omega) (by omega)⟩), ⟨nI_pos' (by omega), nI_lt hi (by omega)⟩⟩]
  refine z_callS0 CX dX5_why_9 cs_X5_42 g_thr0 rfl rfl (Nat.le_of_ble_eq_true rfl) ⟨Nat.le_of_ble_eq_true rfl, Nat.le_of_ble_eq_true rfl⟩ ⟨Nat.le_refl _, Nat.le_refl _⟩ ?_
  refine z_aload_n CX 0 dX5_why_12 rfl rfl ?_
  refine z_get CX dX5_why_13 fg_X5_19 gb_0 rfl ?_
  refine z_iload_n CX 1 dX5_why_16 rfl rfl ?_
  refine z_iload_n CX 2 dX5_why_17 rfl rfl ?_
  refine z_callV1 CX dX5_why_18 cv_X5_155 (Cn.gN (t_why hO.1 hj hi)) gb_n0 rfl rfl (Nat.le_of_ble_eq_true rfl) ⟨Nat.le_of_ble_eq_true rfl, Nat.le_of_ble_eq_true rfl⟩ ⟨Nat.le_refl _, Nat.le_refl _⟩ ?_
  exact z_iret CX dX5_why_21 rfl rfl rfl (Or.inl rfl)
set_option maxHeartbeats 4000000 in
set_option maxRecDepth 100000 in
theorem gx_why1 {l : Launch} {w : Wt} {hs : Hs} {n : Option Nat} {k : Nat} {T : TXs} {C : TTs} {Y : HIs} {S : SHs} {f : Nat → Int32} {x : Int32} {z : Nat → Nat → Int32} {a b : Int32} (h : ¬ ((0 ≤ a ∧ a ≤ 3) ∧ (0 ≤ b ∧ b < nI (bN f)))) (hl9 : l.stackTraces = false) : Cx l w mX5_why 1 6 [.ref (wB w + k), .int a, .int b] (GB w hs k T (nT f x z) C Y S) n (GB w hs k T (nT f x z) C Y S) (exN 1) := by
  refine Cx.of (d := mX5_why) (by decide +kernel) (Nat.le_of_ble_eq_true rfl) ?_
  intro p e R s m args below meth c CX htb hN
  replace CX : Ctx p s m args meth c R w RX5 "why" cX5_why 3 (some .int) 7 112 1 6 := CX
  show ZW p l e R s m args below meth c w 3 _ _ 0 0 _ 0 [(0, .ref (wB w + k)), (1, .int _), (2, .int _)] []
  refine z_aload_n CX 0 dX5_why_0 rfl rfl ?_
  refine z_get CX dX5_why_1 fg_X5_19 gb_0 rfl ?_
  refine z_iload_n CX 1 dX5_why_4 rfl rfl ?_
  refine z_iload_n CX 2 dX5_why_5 rfl rfl ?_
  refine z_callV1 CX dX5_why_6 cv_X5_152 (Cn.gN (t_fltC _ _)) gb_n0 rfl rfl (Nat.le_of_ble_eq_true rfl) ⟨Nat.le_of_ble_eq_true rfl, Nat.le_of_ble_eq_true rfl⟩ ⟨Nat.le_of_ble_eq_true rfl, Nat.le_of_ble_eq_true rfl⟩ ?_
  exact z_callSx CX htb hN dX5_why_9 cs_X5_42 (g_thr (i := 1) hl9 ⟨by omega, by omega⟩ (if_neg h)) rfl rfl (Nat.le_of_ble_eq_true rfl) ⟨Nat.le_of_ble_eq_true rfl, Nat.le_of_ble_eq_true rfl⟩ ⟨Nat.le_of_ble_eq_true rfl, Nat.le_of_ble_eq_true rfl⟩
