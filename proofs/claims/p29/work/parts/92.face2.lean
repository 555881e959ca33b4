/-! the class's methods: actions, slots -/
theorem g_rem {l : Launch} {w : Wt} {hs : Hs} {n : Option Nat} {k : Nat} {T : TXs} {C : TTs} {S : SHs} {bh : Nat → Int32} {Fh : Nat → Nat → Int32} {Xh : Nat → Int32} {Zh : Nat → Nat → Nat → Int32} {f : Nat → Int32} {x : Int32} {z : Nat → Nat → Int32} {a9 ct : Nat} (hO : OKr f) (ha : a9 < 14) (hct : ct ≤ 14) : Cn l w mX0_remember 0 0 [.ref (wB w + (k + 18)), .ref (wB w + (k + 4))] (GB w hs k T (nT f x z) C (nI a9, nI ct, bh, Fh, Xh, Zh) S) n (GB w hs k T (nT f x z) C (nI ((a9 + 1) % 14), nI (min (ct + 1) 14), upd bh a9 1, (fun q => if q = a9 then f else Fh q), (fun q => if q = a9 then x else Xh q), (fun q => if q = a9 then z else Zh q)) S) n none := by
  have h := y_rem (l := l) (w := w) (hs := GB w hs k T (nT f x z) C (nI a9, nI ct, bh, Fh, Xh, Zh) S) (n := n) (k := k + 18) (b9 := bh) (F := Fh) (X := Xh) (Z := Zh) (k2 := k + 4) (f := f) (x := x) (z := z) ha hct (by omega) (hO.2.1.u01.symm) (fun j hj => gb_now hj)
  rw [gb_Y, gb_Y] at h
  exact h
set_option maxHeartbeats 4000000 in
set_option maxRecDepth 100000 in
theorem g_gutter {l : Launch} {w : Wt} {hs : Hs} {n : Option Nat} {k : Nat} {T : TXs} {C : TTs} {S : SHs} {bh : Nat → Int32} {Fh : Nat → Nat → Int32} {Xh : Nat → Int32} {Zh : Nat → Nat → Nat → Int32} {f : Nat → Int32} {x : Int32} {z : Nat → Nat → Int32} {a9 ct : Nat} (hO : OKr f) (ha : a9 < 14) (hct : ct ≤ 14) {a b c e : Int32} (h : fltG f a b c e = 0) (hg : gN f < 6) : Cn l w mX5_gutter 0 0 [.ref (wB w + k), .int a, .int b, .int c, .int e] (GB w hs k T (nT f x z) C (nI a9, nI ct, bh, Fh, Xh, Zh) S) n (GB w hs k T (nT (adgF f (gN f) a b c e) x z) C (nI ((a9 + 1) % 14), nI (min (ct + 1) 14), upd bh a9 1, (fun q => if q = a9 then f else Fh q), (fun q => if q = a9 then x else Xh q), (fun q => if q = a9 then z else Zh q)) S) n (some (.int (nI (gN f)))) := by
  have h6 := hO.1.1.2.1
  have h9 := hO.2.2
  refine Cn.of (d := mX5_gutter) (by decide +kernel) (Nat.le_of_ble_eq_true rfl) ?_
  intro p e R s m args below meth c CX
  replace CX : Ctx p s m args meth c R w RX5 "gutter" cX5_gutter 5 (some .int) 7 130 0 0 := CX
  show ZW p l e R s m args below meth c w 5 _ _ 0 0 (MQ below (Qn w _ _ _) args s 0 0 (wA w)) 0 [(0, .ref (wB w + k)), (1, .int _), (2, .int _), (3, .int _), (4, .int _)] []
  refine z_aload_n CX 0 dX5_gutter_0 rfl rfl ?_
  refine z_get CX dX5_gutter_1 fg_X5_19 gb_0 rfl ?_
  refine z_iload_n CX 1 dX5_gutter_4 rfl rfl ?_
  refine z_iload_n CX 2 dX5_gutter_5 rfl rfl ?_
  refine z_iload_n CX 3 dX5_gutter_6 rfl rfl ?_
  refine z_iload CX dX5_gutter_7 rfl ?_
  refine z_callV1 CX dX5_gutter_9 cv_X5_118 (Cn.gN (t_fltG hO.1 _ _ _ _)) gb_n0 rfl rfl (Nat.le_of_ble_eq_true rfl) ⟨Nat.le_of_ble_eq_true rfl, Nat.le_of_ble_eq_true rfl⟩ ⟨Nat.le_refl _, Nat.le_refl _⟩ ?_
  rw [h]
  refine z_callS0 CX dX5_gutter_12 cs_X5_42 g_thr0 rfl rfl (Nat.le_of_ble_eq_true rfl) ⟨Nat.le_of_ble_eq_true rfl, Nat.le_of_ble_eq_true rfl⟩ ⟨Nat.le_refl _, Nat.le_refl _⟩ ?_
  refine z_aload_n CX 0 dX5_gutter_15 rfl rfl ?_
  refine z_get CX dX5_gutter_16 fg_X5_29 gb_0 rfl ?_
  refine z_aload_n CX 0 dX5_gutter_19 rfl rfl ?_
  refine z_get CX dX5_gutter_20 fg_X5_19 gb_0 rfl ?_
  refine z_callV0 CX dX5_gutter_23 cv_X5_122 (g_rem hO ha hct) gb_h0 rfl rfl (Nat.le_of_ble_eq_true rfl) ⟨Nat.le_of_ble_eq_true rfl, Nat.le_of_ble_eq_true rfl⟩ ⟨Nat.le_refl _, Nat.le_refl _⟩ ?_
  refine z_aload_n CX 0 dX5_gutter_26 rfl rfl ?_
  refine z_get CX dX5_gutter_27 fg_X5_19 gb_0 rfl ?_
  refine z_iload_n CX 1 dX5_gutter_30 rfl rfl ?_
  refine z_iload_n CX 2 dX5_gutter_31 rfl rfl ?_
  refine z_iload_n CX 3 dX5_gutter_32 rfl rfl ?_
  refine z_iload CX dX5_gutter_33 rfl ?_
  refine z_callV1 CX dX5_gutter_35 cv_X5_126 (Cn.gN (t_addG hO.1 hg _ _ _ _)) gb_n0 rfl rfl (Nat.le_of_ble_eq_true rfl) ⟨Nat.le_of_ble_eq_true rfl, Nat.le_of_ble_eq_true rfl⟩ ⟨Nat.le_refl _, Nat.le_refl _⟩ ?_
  exact z_iret CX dX5_gutter_38 rfl rfl rfl (Or.inl rfl)
set_option maxHeartbeats 4000000 in
set_option maxRecDepth 100000 in
theorem gx_gutter {l : Launch} {w : Wt} {hs : Hs} {n : Option Nat} {k : Nat} {T : TXs} {C : TTs} {Y : HIs} {S : SHs} {f : Nat → Int32} {x : Int32} {z : Nat → Nat → Int32} (hO : OKr f) {a b c e : Int32} {i : Nat} (h1 : 1 ≤ i ∧ i < 4) (hv : fltG f a b c e = nI i) (hl9 : l.stackTraces = false) : Cx l w mX5_gutter 1 6 [.ref (wB w + k), .int a, .int b, .int c, .int e] (GB w hs k T (nT f x z) C Y S) n (GB w hs k T (nT f x z) C Y S) (exN i) := by
  refine Cx.of (d := mX5_gutter) (by decide +kernel) (Nat.le_of_ble_eq_true rfl) ?_
  intro p e R s m args below meth c CX htb hN
  replace CX : Ctx p s m args meth c R w RX5 "gutter" cX5_gutter 5 (some .int) 7 130 1 6 := CX
  show ZW p l e R s m args below meth c w 5 _ _ 0 0 _ 0 [(0, .ref (wB w + k)), (1, .int _), (2, .int _), (3, .int _), (4, .int _)] []
  refine z_aload_n CX 0 dX5_gutter_0 rfl rfl ?_
  refine z_get CX dX5_gutter_1 fg_X5_19 gb_0 rfl ?_
  refine z_iload_n CX 1 dX5_gutter_4 rfl rfl ?_
  refine z_iload_n CX 2 dX5_gutter_5 rfl rfl ?_
  refine z_iload_n CX 3 dX5_gutter_6 rfl rfl ?_
  refine z_iload CX dX5_gutter_7 rfl ?_
  refine z_callV1 CX dX5_gutter_9 cv_X5_118 (Cn.gN (t_fltG hO.1 _ _ _ _)) gb_n0 rfl rfl (Nat.le_of_ble_eq_true rfl) ⟨Nat.le_of_ble_eq_true rfl, Nat.le_of_ble_eq_true rfl⟩ ⟨Nat.le_of_ble_eq_true rfl, Nat.le_of_ble_eq_true rfl⟩ ?_
  exact z_callSx CX htb hN dX5_gutter_12 cs_X5_42 (g_thr (i := i) hl9 h1 hv) rfl rfl (Nat.le_of_ble_eq_true rfl) ⟨Nat.le_of_ble_eq_true rfl, Nat.le_of_ble_eq_true rfl⟩ ⟨Nat.le_of_ble_eq_true rfl, Nat.le_of_ble_eq_true rfl⟩
set_option maxHeartbeats 4000000 in
set_option maxRecDepth 100000 in
theorem g_boat {l : Launch} {w : Wt} {hs : Hs} {n : Option Nat} {k : Nat} {T : TXs} {C : TTs} {S : SHs} {bh : Nat → Int32} {Fh : Nat → Nat → Int32} {Xh : Nat → Int32} {Zh : Nat → Nat → Nat → Int32} {f : Nat → Int32} {x : Int32} {z : Nat → Nat → Int32} {a9 ct : Nat} (hO : OKr f) (ha : a9 < 14) (hct : ct ≤ 14) {a b c : Int32} (h : fltB f a b c = 0) (hg : bN f < 10) : Cn l w mX5_boat 0 0 [.ref (wB w + k), .int a, .int b, .int c] (GB w hs k T (nT f x z) C (nI a9, nI ct, bh, Fh, Xh, Zh) S) n (GB w hs k T (nT (adbF f (bN f) a b c) x z) C (nI ((a9 + 1) % 14), nI (min (ct + 1) 14), upd bh a9 1, (fun q => if q = a9 then f else Fh q), (fun q => if q = a9 then x else Xh q), (fun q => if q = a9 then z else Zh q)) S) n (some (.int (nI (bN f)))) := by
  have h6 := hO.1.1.2.1
  have h9 := hO.2.2
  refine Cn.of (d := mX5_boat) (by decide +kernel) (Nat.le_of_ble_eq_true rfl) ?_
  intro p e R s m args below meth c CX
  replace CX : Ctx p s m args meth c R w RX5 "boat" cX5_boat 4 (some .int) 7 130 0 0 := CX
  show ZW p l e R s m args below meth c w 4 _ _ 0 0 (MQ below (Qn w _ _ _) args s 0 0 (wA w)) 0 [(0, .ref (wB w + k)), (1, .int _), (2, .int _), (3, .int _)] []
  refine z_aload_n CX 0 dX5_boat_0 rfl rfl ?_
  refine z_get CX dX5_boat_1 fg_X5_19 gb_0 rfl ?_
  refine z_iload_n CX 1 dX5_boat_4 rfl rfl ?_
  refine z_iload_n CX 2 dX5_boat_5 rfl rfl ?_
  refine z_iload_n CX 3 dX5_boat_6 rfl rfl ?_
  refine z_callV1 CX dX5_boat_7 cv_X5_129 (Cn.gN (t_fltB hO.1 _ _ _)) gb_n0 rfl rfl (Nat.le_of_ble_eq_true rfl) ⟨Nat.le_of_ble_eq_true rfl, Nat.le_of_ble_eq_true rfl⟩ ⟨Nat.le_refl _, Nat.le_refl _⟩ ?_
  rw [h]
  refine z_callS0 CX dX5_boat_10 cs_X5_42 g_thr0 rfl rfl (Nat.le_of_ble_eq_true rfl) ⟨Nat.le_of_ble_eq_true rfl, Nat.le_of_ble_eq_true rfl⟩ ⟨Nat.le_refl _, Nat.le_refl _⟩ ?_
  refine z_aload_n CX 0 dX5_boat_13 rfl rfl ?_
  refine z_get CX dX5_boat_14 fg_X5_29 gb_0 rfl ?_
  refine z_aload_n CX 0 dX5_boat_17 rfl rfl ?_
  refine z_get CX dX5_boat_18 fg_X5_19 gb_0 rfl ?_
  refine z_callV0 CX dX5_boat_21 cv_X5_122 (g_rem hO ha hct) gb_h0 rfl rfl (Nat.le_of_ble_eq_true rfl) ⟨Nat.le_of_ble_eq_true rfl, Nat.le_of_ble_eq_true rfl⟩ ⟨Nat.le_refl _, Nat.le_refl _⟩ ?_
  refine z_aload_n CX 0 dX5_boat_24 rfl rfl ?_
  refine z_get CX dX5_boat_25 fg_X5_19 gb_0 rfl ?_
  refine z_iload_n CX 1 dX5_boat_28 rfl rfl ?_
  refine z_iload_n CX 2 dX5_boat_29 rfl rfl ?_
  refine z_iload_n CX 3 dX5_boat_30 rfl rfl ?_
  refine z_callV1 CX dX5_boat_31 cv_X5_133 (Cn.gN (t_addB hO.1 (by omega) _ _ _)) gb_n0 rfl rfl (Nat.le_of_ble_eq_true rfl) ⟨Nat.le_of_ble_eq_true rfl, Nat.le_of_ble_eq_true rfl⟩ ⟨Nat.le_refl _, Nat.le_refl _⟩ ?_
  exact z_iret CX dX5_boat_34 rfl rfl rfl (Or.inl rfl)
set_option maxHeartbeats 4000000 in
set_option maxRecDepth 100000 in
theorem gx_boat {l : Launch} {w : Wt} {hs : Hs} {n : Option Nat} {k : Nat} {T : TXs} {C : TTs} {Y : HIs} {S : SHs} {f : Nat → Int32} {x : Int32} {z : Nat → Nat → Int32} (hO : OKr f) {a b c : Int32} {i : Nat} (h1 : 1 ≤ i ∧ i < 4) (hv : fltB f a b c = nI i) (hl9 : l.stackTraces = false) : Cx l w mX5_boat 1 6 [.ref (wB w + k), .int a, .int b, .int c] (GB w hs k T (nT f x z) C Y S) n (GB w hs k T (nT f x z) C Y S) (exN i) := by
  refine Cx.of (d := mX5_boat) (by decide +kernel) (Nat.le_of_ble_eq_true rfl) ?_
  intro p e R s m args below meth c CX htb hN
  replace CX : Ctx p s m args meth c R w RX5 "boat" cX5_boat 4 (some .int) 7 130 1 6 := CX
  show ZW p l e R s m args below meth c w 4 _ _ 0 0 _ 0 [(0, .ref (wB w + k)), (1, .int _), (2, .int _), (3, .int _)] []
  refine z_aload_n CX 0 dX5_boat_0 rfl rfl ?_
  refine z_get CX dX5_boat_1 fg_X5_19 gb_0 rfl ?_
  refine z_iload_n CX 1 dX5_boat_4 rfl rfl ?_
  refine z_iload_n CX 2 dX5_boat_5 rfl rfl ?_
  refine z_iload_n CX 3 dX5_boat_6 rfl rfl ?_
  refine z_callV1 CX dX5_boat_7 cv_X5_129 (Cn.gN (t_fltB hO.1 _ _ _)) gb_n0 rfl rfl (Nat.le_of_ble_eq_true rfl) ⟨Nat.le_of_ble_eq_true rfl, Nat.le_of_ble_eq_true rfl⟩ ⟨Nat.le_of_ble_eq_true rfl, Nat.le_of_ble_eq_true rfl⟩ ?_
  exact z_callSx CX htb hN dX5_boat_10 cs_X5_42 (g_thr (i := i) hl9 h1 hv) rfl rfl (Nat.le_of_ble_eq_true rfl) ⟨Nat.le_of_ble_eq_true rfl, Nat.le_of_ble_eq_true rfl⟩ ⟨Nat.le_of_ble_eq_true rfl, Nat.le_of_ble_eq_true rfl⟩
set_option maxHeartbeats 4000000 in
set_option maxRecDepth 100000 in
theorem g_launch {l : Launch} {w : Wt} {hs : Hs} {n : Option Nat} {k : Nat} {T : TXs} {C : TTs} {S : SHs} {bh : Nat → Int32} {Fh : Nat → Nat → Int32} {Xh : Nat → Int32} {Zh : Nat → Nat → Nat → Int32} {f : Nat → Int32} {x : Int32} {z : Nat → Nat → Int32} {a9 ct : Nat} (hO : OKr f) (ha : a9 < 14) (hct : ct ≤ 14) {j i : Nat} (hj : j < bN f) (hi : i < gN f) (hs0 : f (24 + 10 * j + 3) = 0) (h : fltL f (nI j) (nI i) = 0) : Cn l w mX5_launch 0 0 [.ref (wB w + k), .int (nI j), .int (nI i)] (GB w hs k T (nT f x z) C (nI a9, nI ct, bh, Fh, Xh, Zh) S) n (GB w hs k T (nT (lnF f (bN f) j (nI i)) x z) C (nI ((a9 + 1) % 14), nI (min (ct + 1) 14), upd bh a9 1, (fun q => if q = a9 then f else Fh q), (fun q => if q = a9 then x else Xh q), (fun q => if q = a9 then z else Zh q)) S) n (some (.int (drn f 6 0 i 0))) := by
  have h6 := hO.1.1.2.1
  have h9 := hO.2.2
  refine Cn.of (d := mX5_launch) (by decide +kernel) (Nat.le_of_ble_eq_true rfl) ?_
  intro p e R s m args below meth c CX
  replace CX : Ctx p s m args meth c R w RX5 "launch" cX5_launch 3 (some .int) 7 130 0 0 := CX
  show ZW p l e R s m args below meth c w 3 _ _ 0 0 (MQ below (Qn w _ _ _) args s 0 0 (wA w)) 0 [(0, .ref (wB w + k)), (1, .int _), (2, .int _)] []
  refine z_aload_n CX 0 dX5_launch_0 rfl rfl ?_
  refine z_get CX dX5_launch_1 fg_X5_19 gb_0 rfl ?_
  refine z_iload_n CX 1 dX5_launch_4 rfl rfl ?_
  refine z_iload_n CX 2 dX5_launch_5 rfl rfl ?_
  refine z_callV1 CX dX5_launch_6 cv_X5_136 (Cn.gN (t_fltL hO.1 _ _)) gb_n0 rfl rfl (Nat.le_of_ble_eq_true rfl) ⟨Nat.le_of_ble_eq_true rfl, Nat.le_of_ble_eq_true rfl⟩ ⟨Nat.le_refl _, Nat.le_refl _⟩ ?_
  rw [h]
  refine z_callS0 CX dX5_launch_9 cs_X5_42 g_thr0 rfl rfl (Nat.le_of_ble_eq_true rfl) ⟨Nat.le_of_ble_eq_true rfl, Nat.le_of_ble_eq_true rfl⟩ ⟨Nat.le_refl _, Nat.le_refl _⟩ ?_
  refine z_aload_n CX 0 dX5_launch_12 rfl rfl ?_
  refine z_get CX dX5_launch_13 fg_X5_29 gb_0 rfl ?_
  refine z_aload_n CX 0 dX5_launch_16 rfl rfl ?_
  refine z_get CX dX5_launch_17 fg_X5_19 gb_0 rfl ?_
  refine z_callV0 CX dX5_launch_20 cv_X5_122 (g_rem hO ha hct) gb_h0 rfl rfl (Nat.le_of_ble_eq_true rfl) ⟨Nat.le_of_ble_eq_true rfl, Nat.le_of_ble_eq_true rfl⟩ ⟨Nat.le_refl _, Nat.le_refl _⟩ ?_
  refine z_aload_n CX 0 dX5_launch_23 rfl rfl ?_
  refine z_get CX dX5_launch_24 fg_X5_19 gb_0 rfl ?_
  refine z_iload_n CX 1 dX5_launch_27 rfl rfl ?_
  refine z_iload_n CX 2 dX5_launch_28 rfl rfl ?_
  refine z_callV1 CX dX5_launch_29 cv_X5_139 (Cn.gN (t_launch hO.1 hj hi hs0)) gb_n0 rfl rfl (Nat.le_of_ble_eq_true rfl) ⟨Nat.le_of_ble_eq_true rfl, Nat.le_of_ble_eq_true rfl⟩ ⟨Nat.le_refl _, Nat.le_refl _⟩ ?_
  exact z_iret CX dX5_launch_32 rfl rfl rfl (Or.inl rfl)
set_option maxHeartbeats 4000000 in
set_option maxRecDepth 100000 in
theorem gx_launch {l : Launch} {w : Wt} {hs : Hs} {n : Option Nat} {k : Nat} {T : TXs} {C : TTs} {Y : HIs} {S : SHs} {f : Nat → Int32} {x : Int32} {z : Nat → Nat → Int32} (hO : OKr f) {a b : Int32} {i : Nat} (h1 : 1 ≤ i ∧ i < 4) (hv : fltL f a b = nI i) (hl9 : l.stackTraces = false) : Cx l w mX5_launch 1 6 [.ref (wB w + k), .int a, .int b] (GB w hs k T (nT f x z) C Y S) n (GB w hs k T (nT f x z) C Y S) (exN i) := by
  refine Cx.of (d := mX5_launch) (by decide +kernel) (Nat.le_of_ble_eq_true rfl) ?_
  intro p e R s m args below meth c CX htb hN
  replace CX : Ctx p s m args meth c R w RX5 "launch" cX5_launch 3 (some .int) 7 130 1 6 := CX
  show ZW p l e R s m args below meth c w 3 _ _ 0 0 _ 0 [(0, .ref (wB w + k)), (1, .int _), (2, .int _)] []
  refine z_aload_n CX 0 dX5_launch_0 rfl rfl ?_
  refine z_get CX dX5_launch_1 fg_X5_19 gb_0 rfl ?_
  refine z_iload_n CX 1 dX5_launch_4 rfl rfl ?_
  refine z_iload_n CX 2 dX5_launch_5 rfl rfl ?_
  refine z_callV1 CX dX5_launch_6 cv_X5_136 (Cn.gN (t_fltL hO.1 _ _)) gb_n0 rfl rfl (Nat.le_of_ble_eq_true rfl) ⟨Nat.le_of_ble_eq_true rfl, Nat.le_of_ble_eq_true rfl⟩ ⟨Nat.le_of_ble_eq_true rfl, Nat.le_of_ble_eq_true rfl⟩ ?_
  exact z_callSx CX htb hN dX5_launch_9 cs_X5_42 (g_thr (i := i) hl9 h1 hv) rfl rfl (Nat.le_of_ble_eq_true rfl) ⟨Nat.le_of_ble_eq_true rfl, Nat.le_of_ble_eq_true rfl⟩ ⟨Nat.le_of_ble_eq_true rfl, Nat.le_of_ble_eq_true rfl⟩
set_option maxHeartbeats 4000000 in
set_option maxRecDepth 100000 in
theorem g_hook {l : Launch} {w : Wt} {hs : Hs} {n : Option Nat} {k : Nat} {T : TXs} {C : TTs} {S : SHs} {bh : Nat → Int32} {Fh : Nat → Nat → Int32} {Xh : Nat → Int32} {Zh : Nat → Nat → Nat → Int32} {f : Nat → Int32} {x : Int32} {z : Nat → Nat → Int32} {a9 ct : Nat} (hO : OKr f) (ha : a9 < 14) (hct : ct ≤ 14) {j : Nat} {b c : Int32} (hj : j < 4) (h : fltH f (nI j) b c = 0) (hR2 : RIs (hokF f j b c)) : Cn l w mX5_hook 0 0 [.ref (wB w + k), .int (nI j), .int b, .int c] (GB w hs k T (nT f x z) C (nI a9, nI ct, bh, Fh, Xh, Zh) S) n (GB w hs k T (nT (hokF f j b c) x z) C (nI ((a9 + 1) % 14), nI (min (ct + 1) 14), upd bh a9 1, (fun q => if q = a9 then f else Fh q), (fun q => if q = a9 then x else Xh q), (fun q => if q = a9 then z else Zh q)) S) n (some (.int (nI (clbF (hokF f j b c) (bN f) j)))) := by
  have h6 := hO.1.1.2.1
  have h9 := hO.2.2
  have eb : bN (hokF f j b c) = bN f := bN_e (by unfold hokF; rw [pk_un (by omega), pk_un (by omega)])
  refine Cn.of (d := mX5_hook) (by decide +kernel) (Nat.le_of_ble_eq_true rfl) ?_
  intro p e R s m args below meth c CX
  replace CX : Ctx p s m args meth c R w RX5 "hook" cX5_hook 4 (some .int) 7 130 0 0 := CX
  show ZW p l e R s m args below meth c w 4 _ _ 0 0 (MQ below (Qn w _ _ _) args s 0 0 (wA w)) 0 [(0, .ref (wB w + k)), (1, .int _), (2, .int _), (3, .int _)] []
  refine z_aload_n CX 0 dX5_hook_0 rfl rfl ?_
  refine z_get CX dX5_hook_1 fg_X5_19 gb_0 rfl ?_
  refine z_iload_n CX 1 dX5_hook_4 rfl rfl ?_
  refine z_iload_n CX 2 dX5_hook_5 rfl rfl ?_
  refine z_iload_n CX 3 dX5_hook_6 rfl rfl ?_
  refine z_callV1 CX dX5_hook_7 cv_X5_142 (Cn.gN (t_fltH hO.1 _ _ _)) gb_n0 rfl rfl (Nat.le_of_ble_eq_true rfl) ⟨Nat.le_of_ble_eq_true rfl, Nat.le_of_ble_eq_true rfl⟩ ⟨Nat.le_refl _, Nat.le_refl _⟩ ?_
  rw [h]
  refine z_callS0 CX dX5_hook_10 cs_X5_42 g_thr0 rfl rfl (Nat.le_of_ble_eq_true rfl) ⟨Nat.le_of_ble_eq_true rfl, Nat.le_of_ble_eq_true rfl⟩ ⟨Nat.le_refl _, Nat.le_refl _⟩ ?_
  refine z_aload_n CX 0 dX5_hook_13 rfl rfl ?_
  refine z_get CX dX5_hook_14 fg_X5_29 gb_0 rfl ?_
  refine z_aload_n CX 0 dX5_hook_17 rfl rfl ?_
  refine z_get CX dX5_hook_18 fg_X5_19 gb_0 rfl ?_
  refine z_callV0 CX dX5_hook_21 cv_X5_122 (g_rem hO ha hct) gb_h0 rfl rfl (Nat.le_of_ble_eq_true rfl) ⟨Nat.le_of_ble_eq_true rfl, Nat.le_of_ble_eq_true rfl⟩ ⟨Nat.le_refl _, Nat.le_refl _⟩ ?_
  refine z_aload_n CX 0 dX5_hook_24 rfl rfl ?_
  refine z_get CX dX5_hook_25 fg_X5_19 gb_0 rfl ?_
  refine z_iload_n CX 1 dX5_hook_28 rfl rfl ?_
  refine z_iload_n CX 2 dX5_hook_29 rfl rfl ?_
  refine z_iload_n CX 3 dX5_hook_30 rfl rfl ?_
  refine z_callV0 CX dX5_hook_31 cv_X5_145 (Cn.gN (t_hook hO.1 hj _ _)) gb_n0 rfl rfl (Nat.le_of_ble_eq_true rfl) ⟨Nat.le_of_ble_eq_true rfl, Nat.le_of_ble_eq_true rfl⟩ ⟨Nat.le_refl _, Nat.le_refl _⟩ ?_
  refine z_aload_n CX 0 dX5_hook_34 rfl rfl ?_
  refine z_get CX dX5_hook_35 fg_X5_19 gb_0 rfl ?_
  refine z_iload_n CX 1 dX5_hook_38 rfl rfl ?_
  refine z_callV1 CX dX5_hook_39 cv_X5_149 (Cn.gN (t_clb hR2 hj)) gb_n0 rfl rfl (Nat.le_of_ble_eq_true rfl) ⟨Nat.le_of_ble_eq_true rfl, Nat.le_of_ble_eq_true rfl⟩ ⟨Nat.le_refl _, Nat.le_refl _⟩ ?_
  exact z_iret CX dX5_hook_42 rfl (congrArg Value.int (by rw [eb])) rfl (Or.inl rfl)
set_option maxHeartbeats 4000000 in
set_option maxRecDepth 100000 in
theorem gx_hook {l : Launch} {w : Wt} {hs : Hs} {n : Option Nat} {k : Nat} {T : TXs} {C : TTs} {Y : HIs} {S : SHs} {f : Nat → Int32} {x : Int32} {z : Nat → Nat → Int32} (hO : OKr f) {a b c : Int32} {i : Nat} (h1 : 1 ≤ i ∧ i < 4) (hv : fltH f a b c = nI i) (hl9 : l.stackTraces = false) : Cx l w mX5_hook 1 6 [.ref (wB w + k), .int a, .int b, .int c] (GB w hs k T (nT f x z) C Y S) n (GB w hs k T (nT f x z) C Y S) (exN i) := by
  refine Cx.of (d := mX5_hook) (by decide +kernel) (Nat.le_of_ble_eq_true rfl) ?_
  intro p e R s m args below meth c CX htb hN
  replace CX : Ctx p s m args meth c R w RX5 "hook" cX5_hook 4 (some .int) 7 130 1 6 := CX
  show ZW p l e R s m args below meth c w 4 _ _ 0 0 _ 0 [(0, .ref (wB w + k)), (1, .int _), (2, .int _), (3, .int _)] []
  refine z_aload_n CX 0 dX5_hook_0 rfl rfl ?_
  refine z_get CX dX5_hook_1 fg_X5_19 gb_0 rfl ?_
  refine z_iload_n CX 1 dX5_hook_4 rfl rfl ?_
  refine z_iload_n CX 2 dX5_hook_5 rfl rfl ?_
  refine z_iload_n CX 3 dX5_hook_6 rfl rfl ?_
  refine z_callV1 CX dX5_hook_7 cv_X5_142 (Cn.gN (t_fltH hO.1 _ _ _)) gb_n0 rfl rfl (Nat.le_of_ble_eq_true rfl) ⟨Nat.le_of_ble_eq_true rfl, Nat.le_of_ble_eq_true rfl⟩ ⟨Nat.le_of_ble_eq_true rfl, Nat.le_of_ble_eq_true rfl⟩ ?_
  exact z_callSx CX htb hN dX5_hook_10 cs_X5_42 (g_thr (i := i) hl9 h1 hv) rfl rfl (Nat.le_of_ble_eq_true rfl) ⟨Nat.le_of_ble_eq_true rfl, Nat.le_of_ble_eq_true rfl⟩ ⟨Nat.le_of_ble_eq_true rfl, Nat.le_of_ble_eq_true rfl⟩
theorem cl_ref {w : Wt} {hs : Hs} {k : Nat} {T : TXs} {C : TTs} {Y : HIs} {S : SHs} {f : Nat → Int32} {z : Nat → Nat → Int32} (hO : OKr f) : GB w hs k T (upd (sF f (f 152)) 6 (f 152 + 1), gF f z, rF f) C Y S = GB w hs k T (nT (upd f 152 (f 152 + 1)) (upd f 152 (f 152 + 1) 152) z) C Y S := by
  have h6 := hO.1.1.2.1
  have h9 := hO.2.2
  have e1 : ∀ i, i < 7 → upd (sF f (f 152)) 6 (f 152 + 1) i = sF f (f 152 + 1) i := by
    intro i hi
    match i, hi with
    | 0, _ => exact pk_un (by omega)
    | 1, _ => exact pk_un (by omega)
    | 2, _ => exact pk_un (by omega)
    | 3, _ => exact pk_un (by omega)
    | 4, _ => exact pk_un (by omega)
    | 5, _ => exact pk_un (by omega)
    | 6, _ => exact pk_us
  rw [pk_us]
  have h1 := gb_N (w := w) (hs := hs) (k := k) (T := T) (N := (sF f (f 152), gF f z, rF f)) (C := C) (Y := Y) (S := S) (s := upd (sF f (f 152)) 6 (f 152 + 1)) (g := gF f z) (r := rF f)
  have h2 := gb_N (w := w) (hs := hs) (k := k) (T := T) (N := (sF f (f 152), gF f z, rF f)) (C := C) (Y := Y) (S := S) (s := sF (upd f 152 (f 152 + 1)) (f 152 + 1)) (g := gF (upd f 152 (f 152 + 1)) z) (r := rF (upd f 152 (f 152 + 1)))
  have h3 : TT w (GB w hs k T (sF f (f 152), gF f z, rF f) C Y S) (k + 4) (upd (sF f (f 152)) 6 (f 152 + 1)) (gF f z) (rF f) = TH w (GB w hs k T (sF f (f 152), gF f z, rF f) C Y S) (k + 4) f (f 152 + 1) z := TT_eq e1 (fun _ _ _ => rfl) (fun _ _ => rfl)
  have h4 : TH w (GB w hs k T (sF f (f 152), gF f z, rF f) C Y S) (k + 4) f (f 152 + 1) z = TH w (GB w hs k T (sF f (f 152), gF f z, rF f) C Y S) (k + 4) (upd f 152 (f 152 + 1)) (f 152 + 1) z := TH_ext (by omega) (by omega) (fun j _ h1 _ _ => pk_un h1)
  exact h1.symm.trans (h3.trans (h4.trans h2))
set_option maxHeartbeats 4000000 in
set_option maxRecDepth 100000 in
theorem g_claim {l : Launch} {w : Wt} {hs : Hs} {n : Option Nat} {k : Nat} {T : TXs} {C : TTs} {S : SHs} {bh : Nat → Int32} {Fh : Nat → Nat → Int32} {Xh : Nat → Int32} {Zh : Nat → Nat → Nat → Int32} {f : Nat → Int32} {x : Int32} {z : Nat → Nat → Int32} {a9 ct : Nat} (hO : OKr f) (ha : a9 < 14) (hct : ct ≤ 14) {j i : Nat} (hj : j < 4) (hi : i < bN f) (h : fltC f (nI j) (nI i) = 0) (hx : x = f 152) : Cn l w mX5_claim 0 0 [.ref (wB w + k), .int (nI j), .int (nI i)] (GB w hs k T (nT f x z) C (nI a9, nI ct, bh, Fh, Xh, Zh) S) n (GB w hs k T (nT (clmF f j i) (clmF f j i 152) z) C (nI ((a9 + 1) % 14), nI (min (ct + 1) 14), upd bh a9 1, (fun q => if q = a9 then f else Fh q), (fun q => if q = a9 then x else Xh q), (fun q => if q = a9 then z else Zh q)) S) n (some (.int (whyF f j i))) := by
  have h6 := hO.1.1.2.1
  have h9 := hO.2.2
  by_cases e9 : whyF f j i = 0
  · have e2 : clmF f j i 152 = x := by rw [hx]; unfold clmF; rw [if_pos e9, pk_un (by omega), pk_un (by omega)]
    rw [e2]
    refine Cn.of (d := mX5_claim) (by decide +kernel) (Nat.le_of_ble_eq_true rfl) ?_
    intro p e R s m args below meth c CX
    replace CX : Ctx p s m args meth c R w RX5 "claim" cX5_claim 4 (some .int) 7 130 0 0 := CX
    show ZW p l e R s m args below meth c w 4 _ _ 0 0 (MQ below (Qn w _ _ _) args s 0 0 (wA w)) 0 [(0, .ref (wB w + k)), (1, .int _), (2, .int _)] []
    refine z_aload_n CX 0 dX5_claim_0 rfl rfl ?_
    refine z_get CX dX5_claim_1 fg_X5_19 gb_0 rfl ?_
    refine z_iload_n CX 1 dX5_claim_4 rfl rfl ?_
    refine z_iload_n CX 2 dX5_claim_5 rfl rfl ?_
    refine z_callV1 CX dX5_claim_6 cv_X5_152 (Cn.gN (t_fltC _ _)) gb_n0 rfl rfl (Nat.le_of_ble_eq_true rfl) ⟨Nat.le_of_ble_eq_true rfl, Nat.le_of_ble_eq_true rfl⟩ ⟨Nat.le_refl _, Nat.le_refl _⟩ ?_
    rw [h]
    refine z_callS0 CX dX5_claim_9 cs_X5_42 g_thr0 rfl rfl (Nat.le_of_ble_eq_true rfl) ⟨Nat.le_of_ble_eq_true rfl, Nat.le_of_ble_eq_true rfl⟩ ⟨Nat.le_refl _, Nat.le_refl _⟩ ?_
    refine z_aload_n CX 0 dX5_claim_12 rfl rfl ?_
    refine z_get CX dX5_claim_13 fg_X5_29 gb_0 rfl ?_
    refine z_aload_n CX 0 dX5_claim_16 rfl rfl ?_
    refine z_get CX dX5_claim_17 fg_X5_19 gb_0 rfl ?_
    refine z_callV0 CX dX5_claim_20 cv_X5_122 (g_rem hO ha hct) gb_h0 rfl rfl (Nat.le_of_ble_eq_true rfl) ⟨Nat.le_of_ble_eq_true rfl, Nat.le_of_ble_eq_true rfl⟩ ⟨Nat.le_refl _, Nat.le_refl _⟩ ?_
    refine z_aload_n CX 0 dX5_claim_23 rfl rfl ?_
    refine z_get CX dX5_claim_24 fg_X5_19 gb_0 rfl ?_
    refine z_iload_n CX 1 dX5_claim_27 rfl rfl ?_
    refine z_iload_n CX 2 dX5_claim_28 rfl rfl ?_
    refine z_callV1 CX dX5_claim_29 cv_X5_155 (Cn.gN (t_why hO.1 hj hi)) gb_n0 rfl rfl (Nat.le_of_ble_eq_true rfl) ⟨Nat.le_of_ble_eq_true rfl, Nat.le_of_ble_eq_true rfl⟩ ⟨Nat.le_refl _, Nat.le_refl _⟩ ?_
    refine z_istore_n CX 3 dX5_claim_32 rfl (by decide) ?_
    refine z_iload_n CX 3 dX5_claim_33 rfl rfl ?_
    refine z_if_ne CX 50 dX5_claim_34 (by decide) (fun q9 => absurd q9 (fun q => q e9)) (fun _ => ?_)
    refine z_aload_n CX 0 dX5_claim_37 rfl rfl ?_
    refine z_get CX dX5_claim_38 fg_X5_19 gb_0 rfl ?_
    refine z_iload_n CX 1 dX5_claim_41 rfl rfl ?_
    refine z_iload_n CX 2 dX5_claim_42 rfl rfl ?_
    refine z_callV1 CX dX5_claim_43 cv_X5_158 (Cn.gN (t_tkW hO.1 hj hi e9)) gb_n0 rfl rfl (Nat.le_of_ble_eq_true rfl) ⟨Nat.le_of_ble_eq_true rfl, Nat.le_of_ble_eq_true rfl⟩ ⟨Nat.le_refl _, Nat.le_refl _⟩ ?_
    refine z_pop CX dX5_claim_46 rfl ?_
    refine z_goto CX 63 dX5_claim_47 (by decide) ?_
    refine z_iload_n CX 3 dX5_claim_63 rfl rfl ?_
    exact z_iret CX dX5_claim_64 rfl rfl rfl (Or.inl rfl)
  · have e2 : clmF f j i = upd f 152 (f 152 + 1) := by unfold clmF; rw [if_neg e9]
    refine Cn.of (d := mX5_claim) (by decide +kernel) (Nat.le_of_ble_eq_true rfl) ?_
    intro p e R s m args below meth c CX
    replace CX : Ctx p s m args meth c R w RX5 "claim" cX5_claim 4 (some .int) 7 130 0 0 := CX
    show ZW p l e R s m args below meth c w 4 _ _ 0 0 (MQ below (Qn w _ _ _) args s 0 0 (wA w)) 0 [(0, .ref (wB w + k)), (1, .int _), (2, .int _)] []
    refine z_aload_n CX 0 dX5_claim_0 rfl rfl ?_
    refine z_get CX dX5_claim_1 fg_X5_19 gb_0 rfl ?_
    refine z_iload_n CX 1 dX5_claim_4 rfl rfl ?_
    refine z_iload_n CX 2 dX5_claim_5 rfl rfl ?_
    refine z_callV1 CX dX5_claim_6 cv_X5_152 (Cn.gN (t_fltC _ _)) gb_n0 rfl rfl (Nat.le_of_ble_eq_true rfl) ⟨Nat.le_of_ble_eq_true rfl, Nat.le_of_ble_eq_true rfl⟩ ⟨Nat.le_refl _, Nat.le_refl _⟩ ?_
    rw [h]
    refine z_callS0 CX dX5_claim_9 cs_X5_42 g_thr0 rfl rfl (Nat.le_of_ble_eq_true rfl) ⟨Nat.le_of_ble_eq_true rfl, Nat.le_of_ble_eq_true rfl⟩ ⟨Nat.le_refl _, Nat.le_refl _⟩ ?_
    refine z_aload_n CX 0 dX5_claim_12 rfl rfl ?_
    refine z_get CX dX5_claim_13 fg_X5_29 gb_0 rfl ?_
    refine z_aload_n CX 0 dX5_claim_16 rfl rfl ?_
    refine z_get CX dX5_claim_17 fg_X5_19 gb_0 rfl ?_
    refine z_callV0 CX dX5_claim_20 cv_X5_122 (g_rem hO ha hct) gb_h0 rfl rfl (Nat.le_of_ble_eq_true rfl) ⟨Nat.le_of_ble_eq_true rfl, Nat.le_of_ble_eq_true rfl⟩ ⟨Nat.le_refl _, Nat.le_refl _⟩ ?_
    refine z_aload_n CX 0 dX5_claim_23 rfl rfl ?_
    refine z_get CX dX5_claim_24 fg_X5_19 gb_0 rfl ?_
    refine z_iload_n CX 1 dX5_claim_27 rfl rfl ?_
    refine z_iload_n CX 2 dX5_claim_28 rfl rfl ?_
    refine z_callV1 CX dX5_claim_29 cv_X5_155 (Cn.gN (t_why hO.1 hj hi)) gb_n0 rfl rfl (Nat.le_of_ble_eq_true rfl) ⟨Nat.le_of_ble_eq_true rfl, Nat.le_of_ble_eq_true rfl⟩ ⟨Nat.le_refl _, Nat.le_refl _⟩ ?_
    refine z_istore_n CX 3 dX5_claim_32 rfl (by decide) ?_
    refine z_iload_n CX 3 dX5_claim_33 rfl rfl ?_
    refine z_if_ne CX 50 dX5_claim_34 (by decide) (fun _ => ?_) (fun q9 => absurd q9 e9)
    refine z_aload_n CX 0 dX5_claim_50 rfl rfl ?_
    refine z_get CX dX5_claim_51 fg_X5_19 gb_0 rfl ?_
    refine z_dup CX dX5_claim_54 rfl ?_
    refine z_get CX dX5_claim_55 fg_X5_161 gb_n0 rfl ?_
    refine z_iconst CX (v := 1) dX5_claim_58 (by decide) ?_
    refine z_iadd CX dX5_claim_59 ?_
    refine z_put CX dX5_claim_60 fg_X5_161 fp_X4_9 gb_n0 (Nat.le_of_ble_eq_true rfl) rfl rfl ?_
    refine z_heap gb_n6 ?_
    refine z_iload_n CX 3 dX5_claim_63 rfl rfl ?_
    exact z_iret CX dX5_claim_64 rfl rfl (by rw [e2, hx]; exact cl_ref hO) (Or.inl rfl)
set_option maxHeartbeats 4000000 in
set_option maxRecDepth 100000 in
theorem gx_claim {l : Launch} {w : Wt} {hs : Hs} {n : Option Nat} {k : Nat} {T : TXs} {C : TTs} {Y : HIs} {S : SHs} {f : Nat → Int32} {x : Int32} {z : Nat → Nat → Int32} (hO : OKr f) {a b : Int32} {i : Nat} (h1 : 1 ≤ i ∧ i < 4) (hv : fltC f a b = nI i) (hl9 : l.stackTraces = false) : Cx l w mX5_claim 1 6 [.ref (wB w + k), .int a, .int b] (GB w hs k T (nT f x z) C Y S) n (GB w hs k T (nT f x z) C Y S) (exN i) := by
  refine Cx.of (d := mX5_claim) (by decide +kernel) (Nat.le_of_ble_eq_true rfl) ?_
  intro p e R s m args below meth c CX htb hN
  replace CX : Ctx p s m args meth c R w RX5 "claim" cX5_claim 4 (some .int) 7 130 1 6 := CX
  show ZW p l e R s m args below meth c w 4 _ _ 0 0 _ 0 [(0, .ref (wB w + k)), (1, .int _), (2, .int _)] []
  refine z_aload_n CX 0 dX5_claim_0 rfl rfl ?_
  refine z_get CX dX5_claim_1 fg_X5_19 gb_0 rfl ?_
  refine z_iload_n CX 1 dX5_claim_4 rfl rfl ?_
  refine z_iload_n CX 2 dX5_claim_5 rfl rfl ?_
  refine z_callV1 CX dX5_claim_6 cv_X5_152 (Cn.gN (t_fltC _ _)) gb_n0 rfl rfl (Nat.le_of_ble_eq_true rfl) ⟨Nat.le_of_ble_eq_true rfl, Nat.le_of_ble_eq_true rfl⟩ ⟨Nat.le_of_ble_eq_true rfl, Nat.le_of_ble_eq_true rfl⟩ ?_
  exact z_callSx CX htb hN dX5_claim_9 cs_X5_42 (g_thr (i := i) hl9 h1 hv) rfl rfl (Nat.le_of_ble_eq_true rfl) ⟨Nat.le_of_ble_eq_true rfl, Nat.le_of_ble_eq_true rfl⟩ ⟨Nat.le_of_ble_eq_true rfl, Nat.le_of_ble_eq_true rfl⟩
set_option maxHeartbeats 4000000 in
set_option maxRecDepth 100000 in
theorem g_minutes {l : Launch} {w : Wt} {hs : Hs} {n : Option Nat} {k : Nat} {T : TXs} {C : TTs} {S : SHs} {bh : Nat → Int32} {Fh : Nat → Nat → Int32} {Xh : Nat → Int32} {Zh : Nat → Nat → Nat → Int32} {f : Nat → Int32} {x : Int32} {z : Nat → Nat → Int32} {a9 ct : Nat} (hO : OKr f) (ha : a9 < 14) (hct : ct ≤ 14) {i : Nat} (hi : 1 ≤ i ∧ i ≤ 60) : Cn l w mX5_minutes 0 0 [.ref (wB w + k), .int (nI i)] (GB w hs k T (nT f x z) C (nI a9, nI ct, bh, Fh, Xh, Zh) S) n (GB w hs k T (nT (gms (bN f) i f).2 x z) C (nI ((a9 + 1) % 14), nI (min (ct + 1) 14), upd bh a9 1, (fun q => if q = a9 then f else Fh q), (fun q => if q = a9 then x else Xh q), (fun q => if q = a9 then z else Zh q)) S) n (some (.int (nI (gms (bN f) i f).1))) := by
  have h6 := hO.1.1.2.1
  have h9 := hO.2.2
  refine Cn.of (d := mX5_minutes) (by decide +kernel) (Nat.le_of_ble_eq_true rfl) ?_
  intro p e R s m args below meth c CX
  replace CX : Ctx p s m args meth c R w RX5 "minutes" cX5_minutes 2 (some .int) 7 130 0 0 := CX
  show ZW p l e R s m args below meth c w 2 _ _ 0 0 (MQ below (Qn w _ _ _) args s 0 0 (wA w)) 0 [(0, .ref (wB w + k)), (1, .int _)] []
  refine z_aload_n CX 0 dX5_minutes_0 rfl rfl ?_
  refine z_get CX dX5_minutes_1 fg_X5_19 gb_0 rfl ?_
  refine z_iload_n CX 1 dX5_minutes_4 rfl rfl ?_
  refine z_callV1 CX dX5_minutes_5 cv_X5_165 (Cn.gN (t_fltM _)) gb_n0 rfl rfl (Nat.le_of_ble_eq_true rfl) ⟨Nat.le_of_ble_eq_true rfl, Nat.le_of_ble_eq_true rfl⟩ ⟨Nat.le_refl _, Nat.le_refl _⟩ ?_
  rw [show fltM (nI i) = 0 from if_pos ⟨nI_le (a := 1) (by omega) (by omega), nI_le (b := 60) (by omega) (by omega)⟩]
  refine z_callS0 CX dX5_minutes_8 cs_X5_42 g_thr0 rfl rfl (Nat.le_of_ble_eq_true rfl) ⟨Nat.le_of_ble_eq_true rfl, Nat.le_of_ble_eq_true rfl⟩ ⟨Nat.le_refl _, Nat.le_refl _⟩ ?_
  refine z_aload_n CX 0 dX5_minutes_11 rfl rfl ?_
  refine z_get CX dX5_minutes_12 fg_X5_29 gb_0 rfl ?_
  refine z_aload_n CX 0 dX5_minutes_15 rfl rfl ?_
  refine z_get CX dX5_minutes_16 fg_X5_19 gb_0 rfl ?_
  refine z_callV0 CX dX5_minutes_19 cv_X5_122 (g_rem hO ha hct) gb_h0 rfl rfl (Nat.le_of_ble_eq_true rfl) ⟨Nat.le_of_ble_eq_true rfl, Nat.le_of_ble_eq_true rfl⟩ ⟨Nat.le_refl _, Nat.le_refl _⟩ ?_
  refine z_aload_n CX 0 dX5_minutes_22 rfl rfl ?_
  refine z_get CX dX5_minutes_23 fg_X5_19 gb_0 rfl ?_
  refine z_iload_n CX 1 dX5_minutes_26 rfl rfl ?_
  refine z_callV1 CX dX5_minutes_27 cv_X5_168 (Cn.gN (t_pass hO.1 hO.2.1 (by omega))) gb_n0 rfl rfl (Nat.le_of_ble_eq_true rfl) ⟨Nat.le_of_ble_eq_true rfl, Nat.le_of_ble_eq_true rfl⟩ ⟨Nat.le_refl _, Nat.le_refl _⟩ ?_
  exact z_iret CX dX5_minutes_30 rfl rfl rfl (Or.inl rfl)
set_option maxHeartbeats 4000000 in
set_option maxRecDepth 100000 in
theorem gx_minutes2 {l : Launch} {w : Wt} {hs : Hs} {n : Option Nat} {k : Nat} {T : TXs} {C : TTs} {Y : HIs} {S : SHs} {f : Nat → Int32} {x : Int32} {z : Nat → Nat → Int32} {a : Int32} (h : ¬ (1 ≤ a ∧ a ≤ 60)) (hl9 : l.stackTraces = false) : Cx l w mX5_minutes 1 6 [.ref (wB w + k), .int a] (GB w hs k T (nT f x z) C Y S) n (GB w hs k T (nT f x z) C Y S) (exN 2) := by
  refine Cx.of (d := mX5_minutes) (by decide +kernel) (Nat.le_of_ble_eq_true rfl) ?_
  intro p e R s m args below meth c CX htb hN
  replace CX : Ctx p s m args meth c R w RX5 "minutes" cX5_minutes 2 (some .int) 7 130 1 6 := CX
  show ZW p l e R s m args below meth c w 2 _ _ 0 0 _ 0 [(0, .ref (wB w + k)), (1, .int _)] []
  refine z_aload_n CX 0 dX5_minutes_0 rfl rfl ?_
  refine z_get CX dX5_minutes_1 fg_X5_19 gb_0 rfl ?_
  refine z_iload_n CX 1 dX5_minutes_4 rfl rfl ?_
  refine z_callV1 CX dX5_minutes_5 cv_X5_165 (Cn.gN (t_fltM _)) gb_n0 rfl rfl (Nat.le_of_ble_eq_true rfl) ⟨Nat.le_of_ble_eq_true rfl, Nat.le_of_ble_eq_true rfl⟩ ⟨Nat.le_of_ble_eq_true rfl, Nat.le_of_ble_eq_true rfl⟩ ?_
  exact z_callSx CX htb hN dX5_minutes_8 cs_X5_42 (g_thr (i := 2) hl9 ⟨by omega, by omega⟩ (if_neg h)) rfl rfl (Nat.le_of_ble_eq_true rfl) ⟨Nat.le_of_ble_eq_true rfl, Nat.le_of_ble_eq_true rfl⟩ ⟨Nat.le_of_ble_eq_true rfl, Nat.le_of_ble_eq_true rfl⟩
set_option maxHeartbeats 4000000 in
set_option maxRecDepth 100000 in
theorem g_set {l : Launch} {w : Wt} {hs : Hs} {n : Option Nat} {k : Nat} {T : TXs} {C : TTs} {S : SHs} {bh : Nat → Int32} {Fh : Nat → Nat → Int32} {Xh : Nat → Int32} {Zh : Nat → Nat → Nat → Int32} {f : Nat → Int32} {x : Int32} {z : Nat → Nat → Int32} {a9 ct : Nat} (hO : OKr f) (ha : a9 < 14) (hct : ct ≤ 14) {j : Nat} {b : Int32} (hj : j < 3) (h : isSetP (nI j) b) : Cn l w mX5_set 0 0 [.ref (wB w + k), .int (nI j), .int b] (GB w hs k T (nT f x z) C (nI a9, nI ct, bh, Fh, Xh, Zh) S) n (GB w hs k T (nT (upd f (154 + j) b) x z) C (nI ((a9 + 1) % 14), nI (min (ct + 1) 14), upd bh a9 1, (fun q => if q = a9 then f else Fh q), (fun q => if q = a9 then x else Xh q), (fun q => if q = a9 then z else Zh q)) S) n (some (.int (f (154 + j)))) := by
  have h6 := hO.1.1.2.1
  have h9 := hO.2.2
  refine Cn.of (d := mX5_set) (by decide +kernel) (Nat.le_of_ble_eq_true rfl) ?_
  intro p e R s m args below meth c CX
  replace CX : Ctx p s m args meth c R w RX5 "set" cX5_set 3 (some .int) 7 130 0 0 := CX
  show ZW p l e R s m args below meth c w 3 _ _ 0 0 (MQ below (Qn w _ _ _) args s 0 0 (wA w)) 0 [(0, .ref (wB w + k)), (1, .int _), (2, .int _)] []
  refine z_aload_n CX 0 dX5_set_0 rfl rfl ?_
  refine z_get CX dX5_set_1 fg_X5_19 gb_0 rfl ?_
  refine z_iload_n CX 1 dX5_set_4 rfl rfl ?_
  refine z_iload_n CX 2 dX5_set_5 rfl rfl ?_
  refine z_callV1 CX dX5_set_6 cv_X5_171 (Cn.gN (t_fltS _ _)) gb_n0 rfl rfl (Nat.le_of_ble_eq_true rfl) ⟨Nat.le_of_ble_eq_true rfl, Nat.le_of_ble_eq_true rfl⟩ ⟨Nat.le_refl _, Nat.le_refl _⟩ ?_
  rw [show fltS (nI j) b = 0 from if_pos h]
  refine z_callS0 CX dX5_set_9 cs_X5_42 g_thr0 rfl rfl (Nat.le_of_ble_eq_true rfl) ⟨Nat.le_of_ble_eq_true rfl, Nat.le_of_ble_eq_true rfl⟩ ⟨Nat.le_refl _, Nat.le_refl _⟩ ?_
  refine z_aload_n CX 0 dX5_set_12 rfl rfl ?_
  refine z_get CX dX5_set_13 fg_X5_29 gb_0 rfl ?_
  refine z_aload_n CX 0 dX5_set_16 rfl rfl ?_
  refine z_get CX dX5_set_17 fg_X5_19 gb_0 rfl ?_
  refine z_callV0 CX dX5_set_20 cv_X5_122 (g_rem hO ha hct) gb_h0 rfl rfl (Nat.le_of_ble_eq_true rfl) ⟨Nat.le_of_ble_eq_true rfl, Nat.le_of_ble_eq_true rfl⟩ ⟨Nat.le_refl _, Nat.le_refl _⟩ ?_
  refine z_aload_n CX 0 dX5_set_23 rfl rfl ?_
  refine z_get CX dX5_set_24 fg_X5_19 gb_0 rfl ?_
  refine z_iload_n CX 1 dX5_set_27 rfl rfl ?_
  refine z_iload_n CX 2 dX5_set_28 rfl rfl ?_
  refine z_callV1 CX dX5_set_29 cv_X5_174 (Cn.gN (t_chS hO.1 hj _)) gb_n0 rfl rfl (Nat.le_of_ble_eq_true rfl) ⟨Nat.le_of_ble_eq_true rfl, Nat.le_of_ble_eq_true rfl⟩ ⟨Nat.le_refl _, Nat.le_refl _⟩ ?_
  exact z_iret CX dX5_set_32 rfl rfl rfl (Or.inl rfl)
set_option maxHeartbeats 4000000 in
set_option maxRecDepth 100000 in
theorem gx_set2 {l : Launch} {w : Wt} {hs : Hs} {n : Option Nat} {k : Nat} {T : TXs} {C : TTs} {Y : HIs} {S : SHs} {f : Nat → Int32} {x : Int32} {z : Nat → Nat → Int32} {a b : Int32} (h : ¬ isSetP a b) (hl9 : l.stackTraces = false) : Cx l w mX5_set 1 6 [.ref (wB w + k), .int a, .int b] (GB w hs k T (nT f x z) C Y S) n (GB w hs k T (nT f x z) C Y S) (exN 2) := by
  refine Cx.of (d := mX5_set) (by decide +kernel) (Nat.le_of_ble_eq_true rfl) ?_
  intro p e R s m args below meth c CX htb hN
  replace CX : Ctx p s m args meth c R w RX5 "set" cX5_set 3 (some .int) 7 130 1 6 := CX
  show ZW p l e R s m args below meth c w 3 _ _ 0 0 _ 0 [(0, .ref (wB w + k)), (1, .int _), (2, .int _)] []
  refine z_aload_n CX 0 dX5_set_0 rfl rfl ?_
  refine z_get CX dX5_set_1 fg_X5_19 gb_0 rfl ?_
  refine z_iload_n CX 1 dX5_set_4 rfl rfl ?_
  refine z_iload_n CX 2 dX5_set_5 rfl rfl ?_
  refine z_callV1 CX dX5_set_6 cv_X5_171 (Cn.gN (t_fltS _ _)) gb_n0 rfl rfl (Nat.le_of_ble_eq_true rfl) ⟨Nat.le_of_ble_eq_true rfl, Nat.le_of_ble_eq_true rfl⟩ ⟨Nat.le_of_ble_eq_true rfl, Nat.le_of_ble_eq_true rfl⟩ ?_
  exact z_callSx CX htb hN dX5_set_9 cs_X5_42 (g_thr (i := 2) hl9 ⟨by omega, by omega⟩ (if_neg h)) rfl rfl (Nat.le_of_ble_eq_true rfl) ⟨Nat.le_of_ble_eq_true rfl, Nat.le_of_ble_eq_true rfl⟩ ⟨Nat.le_of_ble_eq_true rfl, Nat.le_of_ble_eq_true rfl⟩
theorem g_tb {l : Launch} {w : Wt} {hs : Hs} {n : Option Nat} {k : Nat} {T : TXs} {C : TTs} {S : SHs} {bh : Nat → Int32} {Fh : Nat → Nat → Int32} {Xh : Nat → Int32} {Zh : Nat → Nat → Nat → Int32} {s9 : Nat → Int32} {g9 : Nat → Nat → Int32} {r9 : Nat → Nat} {a9 ct : Nat} (ha : a9 < 14) (hct : ct < 14) (h5 : Fh ((a9 + 13) % 14) 150 = 0 ∨ Fh ((a9 + 13) % 14) 150 = 1) : Cn l w mX0_takeBack 0 0 [.ref (wB w + (k + 18)), .ref (wB w + (k + 4))] (GB w hs k T (s9, g9, r9) C (nI a9, nI (ct + 1), bh, Fh, Xh, Zh) S) n (GB w hs k T (nT (Fh ((a9 + 13) % 14)) (Xh ((a9 + 13) % 14)) (Zh ((a9 + 13) % 14))) C (nI ((a9 + 13) % 14), nI ct, bh, Fh, Xh, Zh) S) n (some (.int (nI ct))) := by
  have h := y_tb (l := l) (w := w) (hs := GB w hs k T (s9, g9, r9) C (nI a9, nI (ct + 1), bh, Fh, Xh, Zh) S) (n := n) (k := k + 18) (b9 := bh) (F := Fh) (X := Xh) (Z := Zh) (k2 := k + 4) (s9 := s9) (g9 := g9) (r9 := r9) ha hct (by omega) h5
  unfold TH at h
  rw [gb_N, gb_Y, gb_N, gb_Y] at h
  exact h
set_option maxHeartbeats 4000000 in
set_option maxRecDepth 100000 in
theorem g_undo {l : Launch} {w : Wt} {hs : Hs} {n : Option Nat} {k : Nat} {T : TXs} {C : TTs} {S : SHs} {bh : Nat → Int32} {Fh : Nat → Nat → Int32} {Xh : Nat → Int32} {Zh : Nat → Nat → Nat → Int32} {s9 : Nat → Int32} {g9 : Nat → Nat → Int32} {r9 : Nat → Nat} {a9 ct : Nat} (ha : a9 < 14) (hct : ct < 14) (h5 : Fh ((a9 + 13) % 14) 150 = 0 ∨ Fh ((a9 + 13) % 14) 150 = 1) : Cn l w mX5_undo 0 0 [.ref (wB w + k)] (GB w hs k T (s9, g9, r9) C (nI a9, nI (ct + 1), bh, Fh, Xh, Zh) S) n (GB w hs k T (nT (Fh ((a9 + 13) % 14)) (Xh ((a9 + 13) % 14)) (Zh ((a9 + 13) % 14))) C (nI ((a9 + 13) % 14), nI ct, bh, Fh, Xh, Zh) S) n (some (.int (nI ct))) := by
  refine Cn.of (d := mX5_undo) (by decide +kernel) (Nat.le_of_ble_eq_true rfl) ?_
  intro p e R s m args below meth c CX
  replace CX : Ctx p s m args meth c R w RX5 "undo" cX5_undo 1 (some .int) 7 130 0 0 := CX
  show ZW p l e R s m args below meth c w 1 _ _ 0 0 (MQ below (Qn w _ _ _) args s 0 0 (wA w)) 0 [(0, .ref (wB w + k))] []
  refine z_aload_n CX 0 dX5_undo_0 rfl rfl ?_
  refine z_get CX dX5_undo_1 fg_X5_29 gb_0 rfl ?_
  refine z_get CX dX5_undo_4 fg_X5_177 gb_h0 rfl ?_
  refine z_if_ne CX 14 dX5_undo_7 (by decide) (fun _ => ?_) (fun q9 => absurd q9 (nI_ne0 (by omega) (by omega)))
  refine z_iconst CX (v := 0) dX5_undo_14 (by decide) ?_
  refine z_callS0 CX dX5_undo_15 cs_X5_42 g_thr0 rfl rfl (Nat.le_of_ble_eq_true rfl) ⟨Nat.le_of_ble_eq_true rfl, Nat.le_of_ble_eq_true rfl⟩ ⟨Nat.le_refl _, Nat.le_refl _⟩ ?_
  refine z_aload_n CX 0 dX5_undo_18 rfl rfl ?_
  refine z_get CX dX5_undo_19 fg_X5_29 gb_0 rfl ?_
  refine z_aload_n CX 0 dX5_undo_22 rfl rfl ?_
  refine z_get CX dX5_undo_23 fg_X5_19 gb_0 rfl ?_
  refine z_callV1 CX dX5_undo_26 cv_X5_180 (g_tb ha hct h5) gb_h0 rfl rfl (Nat.le_of_ble_eq_true rfl) ⟨Nat.le_of_ble_eq_true rfl, Nat.le_of_ble_eq_true rfl⟩ ⟨Nat.le_refl _, Nat.le_refl _⟩ ?_
  exact z_iret CX dX5_undo_29 rfl rfl rfl (Or.inl rfl)
set_option maxHeartbeats 4000000 in
set_option maxRecDepth 100000 in
theorem gx_undo3 {l : Launch} {w : Wt} {hs : Hs} {n : Option Nat} {k : Nat} {T : TXs} {C : TTs} {S : SHs} {bh : Nat → Int32} {Fh : Nat → Nat → Int32} {Xh : Nat → Int32} {Zh : Nat → Nat → Nat → Int32} {s9 : Nat → Int32} {g9 : Nat → Nat → Int32} {r9 : Nat → Nat} {a9 ct : Nat}  (hl9 : l.stackTraces = false) : Cx l w mX5_undo 1 6 [.ref (wB w + k)] (GB w hs k T (s9, g9, r9) C (nI a9, 0, bh, Fh, Xh, Zh) S) n (GB w hs k T (s9, g9, r9) C (nI a9, 0, bh, Fh, Xh, Zh) S) (exN 3) := by
  refine Cx.of (d := mX5_undo) (by decide +kernel) (Nat.le_of_ble_eq_true rfl) ?_
  intro p e R s m args below meth c CX htb hN
  replace CX : Ctx p s m args meth c R w RX5 "undo" cX5_undo 1 (some .int) 7 130 1 6 := CX
  show ZW p l e R s m args below meth c w 1 _ _ 0 0 _ 0 [(0, .ref (wB w + k))] []
  refine z_aload_n CX 0 dX5_undo_0 rfl rfl ?_
  refine z_get CX dX5_undo_1 fg_X5_29 gb_0 rfl ?_
  refine z_get CX dX5_undo_4 fg_X5_177 gb_h0 rfl ?_
  refine z_if_ne CX 14 dX5_undo_7 (by decide) (fun q9 => absurd q9 (fun q => q rfl)) (fun _ => ?_)
  refine z_iconst CX (v := 3) dX5_undo_10 (by decide) ?_
  refine z_goto CX 15 dX5_undo_11 (by decide) ?_
  exact z_callSx CX htb hN dX5_undo_15 cs_X5_42 (g_thr (i := 3) hl9 ⟨by omega, by omega⟩ rfl) rfl rfl (Nat.le_of_ble_eq_true rfl) ⟨Nat.le_of_ble_eq_true rfl, Nat.le_of_ble_eq_true rfl⟩ ⟨Nat.le_of_ble_eq_true rfl, Nat.le_of_ble_eq_true rfl⟩
theorem g_sput {l : Launch} {w : Wt} {hs : Hs} {n : Option Nat} {k : Nat} {T : TXs} {C : TTs} {Y : HIs} {bs : Nat → Int32} {Fs : Nat → Nat → Int32} {Xs : Nat → Int32} {Zs : Nat → Nat → Nat → Int32} {f : Nat → Int32} {x : Int32} {z : Nat → Nat → Int32} {i : Nat} (hi : i < 2) (hO : OKr f) : Cn l w mX1_put 0 0 [.ref (wB w + (k + 120)), .int (nI i), .ref (wB w + (k + 4))] (GB w hs k T (nT f x z) C Y (bs, Fs, Xs, Zs)) n (GB w hs k T (nT f x z) C Y (upd bs i 1, (fun q => if q = i then f else Fs q), (fun q => if q = i then x else Xs q), (fun q => if q = i then z else Zs q))) n none := by
  have h := h_put (l := l) (w := w) (hs := GB w hs k T (nT f x z) C Y (bs, Fs, Xs, Zs)) (n := n) (k := k + 120) (N := 2) (b9 := bs) (F := Fs) (X := Xs) (Z := Zs) (i := i) hi (by omega) (k2 := k + 4) (f := f) (x := x) (z := z) (by omega) (hO.2.1.u01.symm) (fun j hj => gb_now hj)
  rw [gb_S, gb_S] at h
  exact h
set_option maxHeartbeats 4000000 in
set_option maxRecDepth 100000 in
theorem g_save {l : Launch} {w : Wt} {hs : Hs} {n : Option Nat} {k : Nat} {T : TXs} {C : TTs} {Y : HIs} {bs : Nat → Int32} {Fs : Nat → Nat → Int32} {Xs : Nat → Int32} {Zs : Nat → Nat → Nat → Int32} {f : Nat → Int32} {x : Int32} {z : Nat → Nat → Int32} {i : Nat} (hi : i < 2) (hO : OKr f) : Cn l w mX5_save 0 0 [.ref (wB w + k), .int (nI i)] (GB w hs k T (nT f x z) C Y (bs, Fs, Xs, Zs)) n (GB w hs k T (nT f x z) C Y (upd bs i 1, (fun q => if q = i then f else Fs q), (fun q => if q = i then x else Xs q), (fun q => if q = i then z else Zs q))) n (some (.int (f 148))) := by
  refine Cn.of (d := mX5_save) (by decide +kernel) (Nat.le_of_ble_eq_true rfl) ?_
  intro p e R s m args below meth c CX
  replace CX : Ctx p s m args meth c R w RX5 "save" cX5_save 2 (some .int) 7 112 0 0 := CX
  show ZW p l e R s m args below meth c w 2 _ _ 0 0 (MQ below (Qn w _ _ _) args s 0 0 (wA w)) 0 [(0, .ref (wB w + k)), (1, .int _)] []
  refine z_iload_n CX 1 dX5_save_0 rfl rfl ?_
  refine z_if_lt CX 9 dX5_save_1 (by decide) (fun q9 => absurd q9 (Int32.not_lt.mpr (nI_pos' (by omega)))) (fun _ => ?_)
  refine z_iload_n CX 1 dX5_save_4 rfl rfl ?_
  refine z_iconst CX (v := 2) dX5_save_5 (by decide) ?_
  refine z_icmp_lt CX 13 dX5_save_6 (by decide) (fun _ => ?_) (fun q9 => absurd (nI_lt (b := 2) (by omega) (by omega)) q9)
  refine z_iconst CX (v := 0) dX5_save_13 (by decide) ?_
  refine z_callS0 CX dX5_save_14 cs_X5_42 g_thr0 rfl rfl (Nat.le_of_ble_eq_true rfl) ⟨Nat.le_of_ble_eq_true rfl, Nat.le_of_ble_eq_true rfl⟩ ⟨Nat.le_refl _, Nat.le_refl _⟩ ?_
  refine z_aload_n CX 0 dX5_save_17 rfl rfl ?_
  refine z_get CX dX5_save_18 fg_X5_38 gb_0 rfl ?_
  refine z_iload_n CX 1 dX5_save_21 rfl rfl ?_
  refine z_aload_n CX 0 dX5_save_22 rfl rfl ?_
  refine z_get CX dX5_save_23 fg_X5_19 gb_0 rfl ?_
  refine z_callV0 CX dX5_save_26 cv_X5_222 (g_sput hi hO) gb_s0 rfl rfl (Nat.le_of_ble_eq_true rfl) ⟨Nat.le_of_ble_eq_true rfl, Nat.le_of_ble_eq_true rfl⟩ ⟨Nat.le_refl _, Nat.le_refl _⟩ ?_
  refine z_aload_n CX 0 dX5_save_29 rfl rfl ?_
  refine z_get CX dX5_save_30 fg_X5_19 gb_0 rfl ?_
  refine z_get CX dX5_save_33 fg_X5_226 gb_n0 rfl ?_
  exact z_iret CX dX5_save_36 rfl rfl rfl (Or.inl rfl)
set_option maxHeartbeats 4000000 in
set_option maxRecDepth 100000 in
theorem gx_save1 {l : Launch} {w : Wt} {hs : Hs} {n : Option Nat} {k : Nat} {T : TXs} {C : TTs} {Y : HIs} {S : SHs} {f : Nat → Int32} {x : Int32} {z : Nat → Nat → Int32} {a : Int32} (h : ¬ (0 ≤ a ∧ a ≤ 1)) (hl9 : l.stackTraces = false) : Cx l w mX5_save 1 6 [.ref (wB w + k), .int a] (GB w hs k T (nT f x z) C Y S) n (GB w hs k T (nT f x z) C Y S) (exN 1) := by
  refine Cx.of (d := mX5_save) (by decide +kernel) (Nat.le_of_ble_eq_true rfl) ?_
  intro p e R s m args below meth c CX htb hN
  replace CX : Ctx p s m args meth c R w RX5 "save" cX5_save 2 (some .int) 7 112 1 6 := CX
  show ZW p l e R s m args below meth c w 2 _ _ 0 0 _ 0 [(0, .ref (wB w + k)), (1, .int _)] []
  refine z_iload_n CX 1 dX5_save_0 rfl rfl ?_
  refine z_if_lt CX 9 dX5_save_1 (by decide) (fun c_1 => ?_) (fun c_1 => ?_)
  · skip
    refine z_iconst CX (v := 1) dX5_save_9 (by decide) ?_
    refine z_goto CX 14 dX5_save_10 (by decide) ?_
    exact z_callSx CX htb hN dX5_save_14 cs_X5_42 (g_thr (i := 1) hl9 ⟨by omega, by omega⟩ rfl) rfl rfl (Nat.le_of_ble_eq_true rfl) ⟨Nat.le_of_ble_eq_true rfl, Nat.le_of_ble_eq_true rfl⟩ ⟨Nat.le_of_ble_eq_true rfl, Nat.le_of_ble_eq_true rfl⟩
  · skip
    refine z_iload_n CX 1 dX5_save_4 rfl rfl ?_
    refine z_iconst CX (v := 2) dX5_save_5 (by decide) ?_
    refine z_icmp_lt CX 13 dX5_save_6 (by decide) (fun q9 => absurd q9 (fun q => h ⟨Int32.not_lt.mp c_1, lt2.mp q⟩)) (fun _ => ?_)
    refine z_iconst CX (v := 1) dX5_save_9 (by decide) ?_
    refine z_goto CX 14 dX5_save_10 (by decide) ?_
    exact z_callSx CX htb hN dX5_save_14 cs_X5_42 (g_thr (i := 1) hl9 ⟨by omega, by omega⟩ rfl) rfl rfl (Nat.le_of_ble_eq_true rfl) ⟨Nat.le_of_ble_eq_true rfl, Nat.le_of_ble_eq_true rfl⟩ ⟨Nat.le_of_ble_eq_true rfl, Nat.le_of_ble_eq_true rfl⟩
theorem g_scp {l : Launch} {w : Wt} {hs : Hs} {n : Option Nat} {k : Nat} {T : TXs} {C : TTs} {a9 b9 : Int32} {bh : Nat → Int32} {Fh : Nat → Nat → Int32} {Xh : Nat → Int32} {Zh : Nat → Nat → Nat → Int32} {bs : Nat → Int32} {Fs : Nat → Nat → Int32} {Xs : Nat → Int32} {Zs : Nat → Nat → Nat → Int32} {s9 : Nat → Int32} {g9 : Nat → Nat → Int32} {r9 : Nat → Nat} {i : Nat} (hi : i < 2) (h5 : Fs i 150 = 0 ∨ Fs i 150 = 1) : Cn l w mX1_copyTo 0 0 [.ref (wB w + (k + 120)), .int (nI i), .ref (wB w + (k + 4))] (GB w hs k T (s9, g9, r9) C (a9, b9, bh, Fh, Xh, Zh) (bs, Fs, Xs, Zs)) n (GB w hs k T (nT (Fs i) (Xs i) (Zs i)) C (a9, b9, bh, Fh, Xh, Zh) (bs, Fs, Xs, Zs)) n none := by
  have h := h_copyTo (l := l) (w := w) (hs := GB w hs k T (s9, g9, r9) C (a9, b9, bh, Fh, Xh, Zh) (bs, Fs, Xs, Zs)) (n := n) (k := k + 120) (N := 2) (b9 := bs) (F := Fs) (X := Xs) (Z := Zs) (i := i) hi (by omega) (k2 := k + 4) (s9 := s9) (g9 := g9) (r9 := r9) (by omega) h5
  unfold TH at h
  rw [gb_N, gb_S, gb_N, gb_S] at h
  exact h
set_option maxHeartbeats 4000000 in
set_option maxRecDepth 100000 in
theorem g_restore {l : Launch} {w : Wt} {hs : Hs} {n : Option Nat} {k : Nat} {T : TXs} {C : TTs} {a9 b9 : Int32} {bh : Nat → Int32} {Fh : Nat → Nat → Int32} {Xh : Nat → Int32} {Zh : Nat → Nat → Nat → Int32} {bs : Nat → Int32} {Fs : Nat → Nat → Int32} {Xs : Nat → Int32} {Zs : Nat → Nat → Nat → Int32} {s9 : Nat → Int32} {g9 : Nat → Nat → Int32} {r9 : Nat → Nat} {i : Nat} (hi : i < 2) (hb : bs i ≠ 0) (h5 : Fs i 150 = 0 ∨ Fs i 150 = 1) : Cn l w mX5_restore 0 0 [.ref (wB w + k), .int (nI i)] (GB w hs k T (s9, g9, r9) C (a9, b9, bh, Fh, Xh, Zh) (bs, Fs, Xs, Zs)) n (GB w hs k T (nT (Fs i) (Xs i) (Zs i)) C (a9, 0, bh, Fh, Xh, Zh) (bs, Fs, Xs, Zs)) n (some (.int (Fs i 148))) := by
  refine Cn.of (d := mX5_restore) (by decide +kernel) (Nat.le_of_ble_eq_true rfl) ?_
  intro p e R s m args below meth c CX
  replace CX : Ctx p s m args meth c R w RX5 "restore" cX5_restore 2 (some .int) 7 112 0 0 := CX
  show ZW p l e R s m args below meth c w 2 _ _ 0 0 (MQ below (Qn w _ _ _) args s 0 0 (wA w)) 0 [(0, .ref (wB w + k)), (1, .int _)] []
  refine z_iload_n CX 1 dX5_restore_0 rfl rfl ?_
  refine z_if_lt CX 9 dX5_restore_1 (by decide) (fun q9 => absurd q9 (Int32.not_lt.mpr (nI_pos' (by omega)))) (fun _ => ?_)
  refine z_iload_n CX 1 dX5_restore_4 rfl rfl ?_
  refine z_iconst CX (v := 2) dX5_restore_5 (by decide) ?_
  refine z_icmp_lt CX 13 dX5_restore_6 (by decide) (fun _ => ?_) (fun q9 => absurd (nI_lt (b := 2) (by omega) (by omega)) q9)
  refine z_iconst CX (v := 0) dX5_restore_13 (by decide) ?_
  refine z_callS0 CX dX5_restore_14 cs_X5_42 g_thr0 rfl rfl (Nat.le_of_ble_eq_true rfl) ⟨Nat.le_of_ble_eq_true rfl, Nat.le_of_ble_eq_true rfl⟩ ⟨Nat.le_refl _, Nat.le_refl _⟩ ?_
  refine z_aload_n CX 0 dX5_restore_17 rfl rfl ?_
  refine z_get CX dX5_restore_18 fg_X5_38 gb_0 rfl ?_
  refine z_iload_n CX 1 dX5_restore_21 rfl rfl ?_
  refine z_callV1 CX dX5_restore_22 cv_X5_229 (Cn.gS (h_holds hi (by omega))) gb_s0 rfl rfl (Nat.le_of_ble_eq_true rfl) ⟨Nat.le_of_ble_eq_true rfl, Nat.le_of_ble_eq_true rfl⟩ ⟨Nat.le_refl _, Nat.le_refl _⟩ ?_
  refine z_if_eq CX 32 dX5_restore_25 (by decide) (fun q9 => absurd q9 (by rw [bI_1 hb]; decide)) (fun _ => ?_)
  refine z_iconst CX (v := 0) dX5_restore_28 (by decide) ?_
  refine z_goto CX 33 dX5_restore_29 (by decide) ?_
  refine z_callS0 CX dX5_restore_33 cs_X5_42 g_thr0 rfl rfl (Nat.le_of_ble_eq_true rfl) ⟨Nat.le_of_ble_eq_true rfl, Nat.le_of_ble_eq_true rfl⟩ ⟨Nat.le_refl _, Nat.le_refl _⟩ ?_
  refine z_aload_n CX 0 dX5_restore_36 rfl rfl ?_
  refine z_get CX dX5_restore_37 fg_X5_38 gb_0 rfl ?_
  refine z_iload_n CX 1 dX5_restore_40 rfl rfl ?_
  refine z_aload_n CX 0 dX5_restore_41 rfl rfl ?_
  refine z_get CX dX5_restore_42 fg_X5_19 gb_0 rfl ?_
  refine z_callV0 CX dX5_restore_45 cv_X5_232 (g_scp hi h5) gb_s0 rfl rfl (Nat.le_of_ble_eq_true rfl) ⟨Nat.le_of_ble_eq_true rfl, Nat.le_of_ble_eq_true rfl⟩ ⟨Nat.le_refl _, Nat.le_refl _⟩ ?_
  refine z_aload_n CX 0 dX5_restore_48 rfl rfl ?_
  refine z_get CX dX5_restore_49 fg_X5_29 gb_0 rfl ?_
  refine z_callV0 CX dX5_restore_52 cv_X5_63 (Cn.gY y_forget) gb_h0 rfl rfl (Nat.le_of_ble_eq_true rfl) ⟨Nat.le_of_ble_eq_true rfl, Nat.le_of_ble_eq_true rfl⟩ ⟨Nat.le_refl _, Nat.le_refl _⟩ ?_
  refine z_aload_n CX 0 dX5_restore_55 rfl rfl ?_
  refine z_get CX dX5_restore_56 fg_X5_19 gb_0 rfl ?_
  refine z_get CX dX5_restore_59 fg_X5_226 gb_n0 rfl ?_
  exact z_iret CX dX5_restore_62 rfl rfl rfl (Or.inl rfl)
set_option maxHeartbeats 4000000 in
set_option maxRecDepth 100000 in
theorem gx_restore1 {l : Launch} {w : Wt} {hs : Hs} {n : Option Nat} {k : Nat} {T : TXs} {C : TTs} {Y : HIs} {S : SHs} {f : Nat → Int32} {x : Int32} {z : Nat → Nat → Int32} {a : Int32} (h : ¬ (0 ≤ a ∧ a ≤ 1)) (hl9 : l.stackTraces = false) : Cx l w mX5_restore 1 6 [.ref (wB w + k), .int a] (GB w hs k T (nT f x z) C Y S) n (GB w hs k T (nT f x z) C Y S) (exN 1) := by
  refine Cx.of (d := mX5_restore) (by decide +kernel) (Nat.le_of_ble_eq_true rfl) ?_
  intro p e R s m args below meth c CX htb hN
  replace CX : Ctx p s m args meth c R w RX5 "restore" cX5_restore 2 (some .int) 7 112 1 6 := CX
  show ZW p l e R s m args below meth c w 2 _ _ 0 0 _ 0 [(0, .ref (wB w + k)), (1, .int _)] []
  refine z_iload_n CX 1 dX5_restore_0 rfl rfl ?_
  refine z_if_lt CX 9 dX5_restore_1 (by decide) (fun c_1 => ?_) (fun c_1 => ?_)
  · skip
    refine z_iconst CX (v := 1) dX5_restore_9 (by decide) ?_
    refine z_goto CX 14 dX5_restore_10 (by decide) ?_
    exact z_callSx CX htb hN dX5_restore_14 cs_X5_42 (g_thr (i := 1) hl9 ⟨by omega, by omega⟩ rfl) rfl rfl (Nat.le_of_ble_eq_true rfl) ⟨Nat.le_of_ble_eq_true rfl, Nat.le_of_ble_eq_true rfl⟩ ⟨Nat.le_of_ble_eq_true rfl, Nat.le_of_ble_eq_true rfl⟩
  · skip
    refine z_iload_n CX 1 dX5_restore_4 rfl rfl ?_
    refine z_iconst CX (v := 2) dX5_restore_5 (by decide) ?_
    refine z_icmp_lt CX 13 dX5_restore_6 (by decide) (fun q9 => absurd q9 (fun q => h ⟨Int32.not_lt.mp c_1, lt2.mp q⟩)) (fun _ => ?_)
    refine z_iconst CX (v := 1) dX5_restore_9 (by decide) ?_
    refine z_goto CX 14 dX5_restore_10 (by decide) ?_
    exact z_callSx CX htb hN dX5_restore_14 cs_X5_42 (g_thr (i := 1) hl9 ⟨by omega, by omega⟩ rfl) rfl rfl (Nat.le_of_ble_eq_true rfl) ⟨Nat.le_of_ble_eq_true rfl, Nat.le_of_ble_eq_true rfl⟩ ⟨Nat.le_of_ble_eq_true rfl, Nat.le_of_ble_eq_true rfl⟩
set_option maxHeartbeats 4000000 in
set_option maxRecDepth 100000 in
theorem gx_restore2 {l : Launch} {w : Wt} {hs : Hs} {n : Option Nat} {k : Nat} {T : TXs} {C : TTs} {a9 b9 : Int32} {bh : Nat → Int32} {Fh : Nat → Nat → Int32} {Xh : Nat → Int32} {Zh : Nat → Nat → Nat → Int32} {bs : Nat → Int32} {Fs : Nat → Nat → Int32} {Xs : Nat → Int32} {Zs : Nat → Nat → Nat → Int32} {s9 : Nat → Int32} {g9 : Nat → Nat → Int32} {r9 : Nat → Nat} {i : Nat} (hi : i < 2) (hb : bs i = 0) (hl9 : l.stackTraces = false) : Cx l w mX5_restore 1 6 [.ref (wB w + k), .int (nI i)] (GB w hs k T (s9, g9, r9) C (a9, b9, bh, Fh, Xh, Zh) (bs, Fs, Xs, Zs)) n (GB w hs k T (s9, g9, r9) C (a9, b9, bh, Fh, Xh, Zh) (bs, Fs, Xs, Zs)) (exN 3) := by
  refine Cx.of (d := mX5_restore) (by decide +kernel) (Nat.le_of_ble_eq_true rfl) ?_
  intro p e R s m args below meth c CX htb hN
  replace CX : Ctx p s m args meth c R w RX5 "restore" cX5_restore 2 (some .int) 7 112 1 6 := CX
  show ZW p l e R s m args below meth c w 2 _ _ 0 0 _ 0 [(0, .ref (wB w + k)), (1, .int _)] []
  refine z_iload_n CX 1 dX5_restore_0 rfl rfl ?_
  refine z_if_lt CX 9 dX5_restore_1 (by decide) (fun q9 => absurd q9 (Int32.not_lt.mpr (nI_pos' (by omega)))) (fun _ => ?_)
  refine z_iload_n CX 1 dX5_restore_4 rfl rfl ?_
  refine z_iconst CX (v := 2) dX5_restore_5 (by decide) ?_
  refine z_icmp_lt CX 13 dX5_restore_6 (by decide) (fun _ => ?_) (fun q9 => absurd (nI_lt (b := 2) (by omega) (by omega)) q9)
  refine z_iconst CX (v := 0) dX5_restore_13 (by decide) ?_
  refine z_callS0 CX dX5_restore_14 cs_X5_42 g_thr0 rfl rfl (Nat.le_of_ble_eq_true rfl) ⟨Nat.le_of_ble_eq_true rfl, Nat.le_of_ble_eq_true rfl⟩ ⟨Nat.le_of_ble_eq_true rfl, Nat.le_of_ble_eq_true rfl⟩ ?_
  refine z_aload_n CX 0 dX5_restore_17 rfl rfl ?_
  refine z_get CX dX5_restore_18 fg_X5_38 gb_0 rfl ?_
  refine z_iload_n CX 1 dX5_restore_21 rfl rfl ?_
  refine z_callV1 CX dX5_restore_22 cv_X5_229 (Cn.gS (h_holds hi (by omega))) gb_s0 rfl rfl (Nat.le_of_ble_eq_true rfl) ⟨Nat.le_of_ble_eq_true rfl, Nat.le_of_ble_eq_true rfl⟩ ⟨Nat.le_of_ble_eq_true rfl, Nat.le_of_ble_eq_true rfl⟩ ?_
  refine z_if_eq CX 32 dX5_restore_25 (by decide) (fun _ => ?_) (fun q9 => absurd (bI_0 (fun q => q hb)) q9)
  refine z_iconst CX (v := 3) dX5_restore_32 (by decide) ?_
  exact z_callSx CX htb hN dX5_restore_33 cs_X5_42 (g_thr (i := 3) hl9 ⟨by omega, by omega⟩ rfl) rfl rfl (Nat.le_of_ble_eq_true rfl) ⟨Nat.le_of_ble_eq_true rfl, Nat.le_of_ble_eq_true rfl⟩ ⟨Nat.le_of_ble_eq_true rfl, Nat.le_of_ble_eq_true rfl⟩
