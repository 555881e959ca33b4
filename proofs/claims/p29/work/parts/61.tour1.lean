/-! the tournament: what it holds, its faults -/
theorem hB_at {l : Launch} {w : Wt} {hs : Hs} {n : Option Nat} {k : Nat} {f : Nat → Int32} {x : Int32} {z : Nat → Nat → Int32} (hR : RIs f) {b c : Nat} (hb : b < bN f) (hc : c < 10) : Cn l w mX2_at 0 0 [.ref (wB w + (k + 3)), .int (nI b), .int (nI c)] (TH w hs k f x z) n (TH w hs k f x z) n (some (.int (nv f b c))) := by
  have h := tB_at (l := l) (w := w) (hs := hs) (n := n) (k := k) (s := sF f x) (g := gF f z) (r := rF f) (show rF f 1 ≤ _ from hR.2.2.1) (b := b) (c := c) hb hc
  rw [show gF f z 1 (b * 10 + c) = nv f b c from gF_1 hb hc] at h
  exact h
theorem hG_at {l : Launch} {w : Wt} {hs : Hs} {n : Option Nat} {k : Nat} {f : Nat → Int32} {x : Int32} {z : Nat → Nat → Int32} (hR : RIs f) {b c : Nat} (hb : b < gN f) (hc : c < 4) : Cn l w mX2_at 0 0 [.ref (wB w + (k + 1)), .int (nI b), .int (nI c)] (TH w hs k f x z) n (TH w hs k f x z) n (some (.int (f (4 * b + c)))) := by
  have h := tG_at (l := l) (w := w) (hs := hs) (n := n) (k := k) (s := sF f x) (g := gF f z) (r := rF f) (show rF f 0 ≤ _ from hR.1.2.1) (b := b) (c := c) hb hc
  rw [show gF f z 0 (b * 4 + c) = f (4 * b + c) from ((gF_0 (show b * 4 + c < 4 * gN f by omega)).trans (congrArg f (by omega)))] at h
  exact h
theorem hB_o {l : Launch} {w : Wt} {hs : Hs} {n : Option Nat} {k : Nat} {f : Nat → Int32} {x : Int32} {z : Nat → Nat → Int32} (hR : RIs f) {b c : Nat} (hb : b < bN f) (hc : c < 10) (ho : c ≠ 4 ∧ c ≠ 5 ∧ c ≠ 7) : Cn l w mX2_at 0 0 [.ref (wB w + (k + 3)), .int (nI b), .int (nI c)] (TH w hs k f x z) n (TH w hs k f x z) n (some (.int (f (24 + 10 * b + c)))) := by
  have h := hB_at (l := l) (w := w) (hs := hs) (n := n) (k := k) (f := f) (x := x) (z := z) hR hb hc
  rw [nv_o ho] at h
  exact h
theorem hB_4 {l : Launch} {w : Wt} {hs : Hs} {n : Option Nat} {k : Nat} {f : Nat → Int32} {x : Int32} {z : Nat → Nat → Int32} (hR : RIs f) {b : Nat} (hb : b < bN f) (hs9 : f (24 + 10 * b + 3) = 1 ∨ f (24 + 10 * b + 3) = 3) : Cn l w mX2_at 0 0 [.ref (wB w + (k + 3)), .int (nI b), .int 4] (TH w hs k f x z) n (TH w hs k f x z) n (some (.int (f (24 + 10 * b + 4)))) := by
  have h := hB_at (l := l) (w := w) (hs := hs) (n := n) (k := k) (f := f) (x := x) (z := z) hR hb (c := 4) (by omega)
  rw [nv4 hs9] at h
  exact h
theorem hB_5 {l : Launch} {w : Wt} {hs : Hs} {n : Option Nat} {k : Nat} {f : Nat → Int32} {x : Int32} {z : Nat → Nat → Int32} (hR : RIs f) {b : Nat} (hb : b < bN f) (hs9 : f (24 + 10 * b + 3) = 1 ∨ f (24 + 10 * b + 3) = 3) : Cn l w mX2_at 0 0 [.ref (wB w + (k + 3)), .int (nI b), .int 5] (TH w hs k f x z) n (TH w hs k f x z) n (some (.int (f (24 + 10 * b + 5)))) := by
  have h := hB_at (l := l) (w := w) (hs := hs) (n := n) (k := k) (f := f) (x := x) (z := z) hR hb (c := 5) (by omega)
  rw [nv5 hs9] at h
  exact h
theorem hB_7 {l : Launch} {w : Wt} {hs : Hs} {n : Option Nat} {k : Nat} {f : Nat → Int32} {x : Int32} {z : Nat → Nat → Int32} (hR : RIs f) {b : Nat} (hb : b < bN f) (hs9 : f (24 + 10 * b + 3) = 2) : Cn l w mX2_at 0 0 [.ref (wB w + (k + 3)), .int (nI b), .int 7] (TH w hs k f x z) n (TH w hs k f x z) n (some (.int (f (24 + 10 * b + 7)))) := by
  have h := hB_at (l := l) (w := w) (hs := hs) (n := n) (k := k) (f := f) (x := x) (z := z) hR hb (c := 7) (by omega)
  rw [nv7 hs9] at h
  exact h
theorem hO_at {l : Launch} {w : Wt} {hs : Hs} {n : Option Nat} {k : Nat} {f : Nat → Int32} {x : Int32} {z : Nat → Nat → Int32} {b c : Nat} (hb : b < 4) (hc : c < 3) : Cn l w mX2_at 0 0 [.ref (wB w + (k + 5)), .int (nI b), .int (nI c)] (TH w hs k f x z) n (TH w hs k f x z) n (some (.int (f (134 + 3 * b + c)))) := by
  have h := tO_at (l := l) (w := w) (hs := hs) (n := n) (k := k) (s := sF f x) (g := gF f z) (r := rF f) (show rF f 2 ≤ 4 from Nat.le_refl 4) (b := b) (c := c) hb hc
  rw [show gF f z 2 (b * 3 + c) = f (134 + 3 * b + c) from (gF_2 (show b * 3 + c < 12 by omega)).trans (congrArg f (by omega))] at h
  exact h
theorem hB_cnt {l : Launch} {w : Wt} {hs : Hs} {n : Option Nat} {k : Nat} {f : Nat → Int32} {x : Int32} {z : Nat → Nat → Int32} (hR : RIs f) {c : Nat} (hc : c < 10) (ho : c ≠ 4 ∧ c ≠ 5 ∧ c ≠ 7) (v : Int32) : Cn l w mX2_count 0 0 [.ref (wB w + (k + 3)), .int (nI c), .int v] (TH w hs k f x z) n (TH w hs k f x z) n (some (.int (nI (cntN (fun b => decide (f (24 + 10 * b + c) = v)) (bN f))))) := by
  have h := tB_cnt (l := l) (w := w) (hs := hs) (n := n) (k := k) (s := sF f x) (g := gF f z) (r := rF f) (show rF f 1 ≤ 11 from hR.2.2.1) hc v
  rw [show cntN (fun a => decide (gF f z 1 (a * 10 + c) = v)) (rF f 1) = cntN (fun b => decide (f (24 + 10 * b + c) = v)) (bN f) from cntN_c _ (fun j hj => by rw [gF_1 hj hc, nv_o ho])] at h
  exact h
theorem hB_sum {l : Launch} {w : Wt} {hs : Hs} {n : Option Nat} {k : Nat} {f : Nat → Int32} {x : Int32} {z : Nat → Nat → Int32} (hR : RIs f) {c : Nat} (hc : c < 10) (ho : c ≠ 4 ∧ c ≠ 5 ∧ c ≠ 7) : Cn l w mX2_sum 0 0 [.ref (wB w + (k + 3)), .int (nI c)] (TH w hs k f x z) n (TH w hs k f x z) n (some (.int (bx_sum (fun b => f (24 + 10 * b + c)) (bN f)))) := by
  have h := tB_sum (l := l) (w := w) (hs := hs) (n := n) (k := k) (s := sF f x) (g := gF f z) (r := rF f) (show rF f 1 ≤ 11 from hR.2.2.1) hc
  rw [show bx_sum (fun a => gF f z 1 (a * 10 + c)) (rF f 1) = bx_sum (fun b => f (24 + 10 * b + c)) (bN f) from bxs_c _ (fun j hj => by rw [gF_1 hj hc, nv_o ho])] at h
  exact h
theorem hO_sum {l : Launch} {w : Wt} {hs : Hs} {n : Option Nat} {k : Nat} {f : Nat → Int32} {x : Int32} {z : Nat → Nat → Int32} : Cn l w mX2_sum 0 0 [.ref (wB w + (k + 5)), .int 0] (TH w hs k f x z) n (TH w hs k f x z) n (some (.int (ptsF f))) := by
  have h := tO_sum (l := l) (w := w) (hs := hs) (n := n) (k := k) (s := sF f x) (g := gF f z) (r := rF f) (show rF f 2 ≤ 4 from Nat.le_refl 4) (c := 0) (by omega)
  rw [show bx_sum (fun a => gF f z 2 (a * 3 + 0)) (rF f 2) = ptsF f from bxs_c 4 (fun j hj => (gF_2 (show j * 3 + 0 < 12 by omega)).trans (congrArg f (by omega)))] at h
  exact h
set_option maxHeartbeats 4000000 in
set_option maxRecDepth 100000 in
theorem t_hasG {l : Launch} {w : Wt} {hs : Hs} {n : Option Nat} {k : Nat} {f : Nat → Int32} {x : Int32} {z : Nat → Nat → Int32} (y : Int32) : Cn l w mX4_hasGutter 0 0 [.ref (wB w + k), .int y] (TH w hs k f x z) n (TH w hs k f x z) n (some (.int (bI (decide (0 ≤ y ∧ y < nI (gN f)))))) := by
  refine Cn.of (d := mX4_hasGutter) (by decide +kernel) (Nat.le_of_ble_eq_true rfl) ?_
  intro p e R s m args below meth c CX
  replace CX : Ctx p s m args meth c R w RX4 "hasGutter" cX4_hasGutter 2 (some .boolean) 0 0 0 0 := CX
  show ZW p l e R s m args below meth c w 2 _ _ 0 0 (MQ below (Qn w _ _ _) args s 0 0 (wA w)) 0 [(0, .ref (wB w + k)), (1, .int _)] []
  refine z_iload_n CX 1 dX4_hasGutter_0 rfl rfl ?_
  refine z_if_lt CX 19 dX4_hasGutter_1 (by decide) (fun c_1 => ?_) (fun c_1 => ?_)
  · skip
    refine z_iconst CX (v := 0) dX4_hasGutter_19 (by decide) ?_
    exact z_zret CX dX4_hasGutter_20 rfl (by first | rfl | exact bI_nar _) (congrArg Value.int (bI_0 (fun q => absurd q.1 (Int32.not_le.mpr c_1)))) rfl (Or.inl rfl)
  · skip
    refine z_iload_n CX 1 dX4_hasGutter_4 rfl rfl ?_
    refine z_aload_n CX 0 dX4_hasGutter_5 rfl rfl ?_
    refine z_get CX dX4_hasGutter_6 fg_X4_14 to_0 rfl ?_
    refine z_get CX dX4_hasGutter_9 fg_X4_29 to_1 rfl ?_
    refine z_icmp_ge CX 19 dX4_hasGutter_12 (by decide) (fun c_12 => ?_) (fun c_12 => ?_)
    · skip
      refine z_iconst CX (v := 0) dX4_hasGutter_19 (by decide) ?_
      exact z_zret CX dX4_hasGutter_20 rfl (by first | rfl | exact bI_nar _) (congrArg Value.int (bI_0 (fun q => absurd q.2 (Int32.not_lt.mpr c_12)))) rfl (Or.inl rfl)
    · skip
      refine z_iconst CX (v := 1) dX4_hasGutter_15 (by decide) ?_
      refine z_goto CX 20 dX4_hasGutter_16 (by decide) ?_
      exact z_zret CX dX4_hasGutter_20 rfl (by first | rfl | exact bI_nar _) (congrArg Value.int (bI_1 ⟨Int32.not_lt.mp c_1, Int32.not_le.mp c_12⟩)) rfl (Or.inl rfl)
set_option maxHeartbeats 4000000 in
set_option maxRecDepth 100000 in
theorem t_hasB {l : Launch} {w : Wt} {hs : Hs} {n : Option Nat} {k : Nat} {f : Nat → Int32} {x : Int32} {z : Nat → Nat → Int32} (y : Int32) : Cn l w mX4_hasBoat 0 0 [.ref (wB w + k), .int y] (TH w hs k f x z) n (TH w hs k f x z) n (some (.int (bI (decide (0 ≤ y ∧ y < nI (bN f)))))) := by
  refine Cn.of (d := mX4_hasBoat) (by decide +kernel) (Nat.le_of_ble_eq_true rfl) ?_
  intro p e R s m args below meth c CX
  replace CX : Ctx p s m args meth c R w RX4 "hasBoat" cX4_hasBoat 2 (some .boolean) 0 0 0 0 := CX
  show ZW p l e R s m args below meth c w 2 _ _ 0 0 (MQ below (Qn w _ _ _) args s 0 0 (wA w)) 0 [(0, .ref (wB w + k)), (1, .int _)] []
  refine z_iload_n CX 1 dX4_hasBoat_0 rfl rfl ?_
  refine z_if_lt CX 19 dX4_hasBoat_1 (by decide) (fun c_1 => ?_) (fun c_1 => ?_)
  · skip
    refine z_iconst CX (v := 0) dX4_hasBoat_19 (by decide) ?_
    exact z_zret CX dX4_hasBoat_20 rfl (by first | rfl | exact bI_nar _) (congrArg Value.int (bI_0 (fun q => absurd q.1 (Int32.not_le.mpr c_1)))) rfl (Or.inl rfl)
  · skip
    refine z_iload_n CX 1 dX4_hasBoat_4 rfl rfl ?_
    refine z_aload_n CX 0 dX4_hasBoat_5 rfl rfl ?_
    refine z_get CX dX4_hasBoat_6 fg_X4_20 to_0 rfl ?_
    refine z_get CX dX4_hasBoat_9 fg_X4_29 to_3 rfl ?_
    refine z_icmp_ge CX 19 dX4_hasBoat_12 (by decide) (fun c_12 => ?_) (fun c_12 => ?_)
    · skip
      refine z_iconst CX (v := 0) dX4_hasBoat_19 (by decide) ?_
      exact z_zret CX dX4_hasBoat_20 rfl (by first | rfl | exact bI_nar _) (congrArg Value.int (bI_0 (fun q => absurd q.2 (Int32.not_lt.mpr c_12)))) rfl (Or.inl rfl)
    · skip
      refine z_iconst CX (v := 1) dX4_hasBoat_15 (by decide) ?_
      refine z_goto CX 20 dX4_hasBoat_16 (by decide) ?_
      exact z_zret CX dX4_hasBoat_20 rfl (by first | rfl | exact bI_nar _) (congrArg Value.int (bI_1 ⟨Int32.not_lt.mp c_1, Int32.not_le.mp c_12⟩)) rfl (Or.inl rfl)
theorem le_trans9 {a b c : Int32} (h1 : a ≤ b) (h2 : b ≤ c) : a ≤ c := Int32.le_trans h1 h2
theorem lt4 {y : Int32} (h : ¬ (4 : Int32) ≤ y) : y ≤ 3 := by
  rw [le_i] at h ⊢
  have e4 : (4 : Int32).toInt = 4 := by decide
  have e3 : (3 : Int32).toInt = 3 := by decide
  omega
set_option maxHeartbeats 4000000 in
set_option maxRecDepth 100000 in
theorem t_hasO {l : Launch} {w : Wt} {hs : Hs} {n : Option Nat} {k : Nat} {f : Nat → Int32} {x : Int32} {z : Nat → Nat → Int32} (y : Int32) : Cn l w mX4_hasOwner 0 0 [.ref (wB w + k), .int y] (TH w hs k f x z) n (TH w hs k f x z) n (some (.int (bI (decide (0 ≤ y ∧ y ≤ 3))))) := by
  refine Cn.of (d := mX4_hasOwner) (by decide +kernel) (Nat.le_of_ble_eq_true rfl) ?_
  intro p e R s m args below meth c CX
  replace CX : Ctx p s m args meth c R w RX4 "hasOwner" cX4_hasOwner 2 (some .boolean) 0 0 0 0 := CX
  show ZW p l e R s m args below meth c w 2 _ _ 0 0 (MQ below (Qn w _ _ _) args s 0 0 (wA w)) 0 [(0, .ref (wB w + k)), (1, .int _)] []
  refine z_iload_n CX 1 dX4_hasOwner_0 rfl rfl ?_
  refine z_if_lt CX 13 dX4_hasOwner_1 (by decide) (fun c_1 => ?_) (fun c_1 => ?_)
  · skip
    refine z_iconst CX (v := 0) dX4_hasOwner_13 (by decide) ?_
    exact z_zret CX dX4_hasOwner_14 rfl (by first | rfl | exact bI_nar _) (congrArg Value.int (bI_0 (fun q => absurd q.1 (Int32.not_le.mpr c_1)))) rfl (Or.inl rfl)
  · skip
    refine z_iload_n CX 1 dX4_hasOwner_4 rfl rfl ?_
    refine z_iconst CX (v := 4) dX4_hasOwner_5 (by decide) ?_
    refine z_icmp_ge CX 13 dX4_hasOwner_6 (by decide) (fun c_6 => ?_) (fun c_6 => ?_)
    · skip
      refine z_iconst CX (v := 0) dX4_hasOwner_13 (by decide) ?_
      exact z_zret CX dX4_hasOwner_14 rfl (by first | rfl | exact bI_nar _) (congrArg Value.int (bI_0 (fun q => absurd (le_trans9 c_6 q.2) (by decide)))) rfl (Or.inl rfl)
    · skip
      refine z_iconst CX (v := 1) dX4_hasOwner_9 (by decide) ?_
      refine z_goto CX 14 dX4_hasOwner_10 (by decide) ?_
      exact z_zret CX dX4_hasOwner_14 rfl (by first | rfl | exact bI_nar _) (congrArg Value.int (bI_1 ⟨Int32.not_lt.mp c_1, lt4 c_6⟩)) rfl (Or.inl rfl)
set_option maxHeartbeats 4000000 in
set_option maxRecDepth 100000 in
theorem t_hasC {l : Launch} {w : Wt} {hs : Hs} {n : Option Nat} {k : Nat} {f : Nat → Int32} {x : Int32} {z : Nat → Nat → Int32} (hR : RIs f) (y v : Int32) : Cn l w mX4_hasCell 0 0 [.ref (wB w + k), .int y, .int v] (TH w hs k f x z) n (TH w hs k f x z) n (some (.int (bI (icl f (gN f) y v)))) := by
  have h6 := hR.1.2.1
  by_cases h0 : 0 ≤ y ∧ y < nI (gN f)
  · obtain ⟨i, i1, i2, i3⟩ := nI_box (by omega) h0
    subst i2
    rw [icl_1 i1 (by omega)]
    refine Cn.of (d := mX4_hasCell) (by decide +kernel) (Nat.le_of_ble_eq_true rfl) ?_
    intro p e R s m args below meth c CX
    replace CX : Ctx p s m args meth c R w RX4 "hasCell" cX4_hasCell 3 (some .boolean) 1 23 0 0 := CX
    show ZW p l e R s m args below meth c w 3 _ _ 0 0 (MQ below (Qn w _ _ _) args s 0 0 (wA w)) 0 [(0, .ref (wB w + k)), (1, .int _), (2, .int _)] []
    refine z_aload_n CX 0 dX4_hasCell_0 rfl rfl ?_
    refine z_iload_n CX 1 dX4_hasCell_1 rfl rfl ?_
    refine z_callV1 CX dX4_hasCell_2 cv_X4_67 (t_hasG _) to_0 rfl rfl (Nat.le_of_ble_eq_true rfl) ⟨Nat.le_of_ble_eq_true rfl, Nat.le_of_ble_eq_true rfl⟩ ⟨Nat.le_refl _, Nat.le_refl _⟩ ?_
    refine z_if_eq CX 29 dX4_hasCell_5 (by decide) (fun q9 => absurd q9 (by rw [bI_1 h0]; decide)) (fun _ => ?_)
    refine z_iload_n CX 2 dX4_hasCell_8 rfl rfl ?_
    refine z_if_lt CX 29 dX4_hasCell_9 (by decide) (fun c_9 => ?_) (fun c_9 => ?_)
    · skip
      refine z_iconst CX (v := 0) dX4_hasCell_29 (by decide) ?_
      exact z_zret CX dX4_hasCell_30 rfl (by first | rfl | exact bI_nar _) (congrArg Value.int (bI_0 (fun q => absurd q.1 (Int32.not_le.mpr c_9)))) rfl (Or.inl rfl)
    · skip
      refine z_iload_n CX 2 dX4_hasCell_12 rfl rfl ?_
      refine z_aload_n CX 0 dX4_hasCell_13 rfl rfl ?_
      refine z_get CX dX4_hasCell_14 fg_X4_14 to_0 rfl ?_
      refine z_iload_n CX 1 dX4_hasCell_17 rfl rfl ?_
      refine z_iconst CX (v := 0) dX4_hasCell_18 (by decide) ?_
      refine z_callV1 CX dX4_hasCell_19 cv_X4_71 (hG_at hR (b := i) (c := 0) (by omega) (by omega)) to_1 rfl rfl (Nat.le_of_ble_eq_true rfl) ⟨Nat.le_of_ble_eq_true rfl, Nat.le_of_ble_eq_true rfl⟩ ⟨Nat.le_refl _, Nat.le_refl _⟩ ?_
      refine z_icmp_ge CX 29 dX4_hasCell_22 (by decide) (fun c_22 => ?_) (fun c_22 => ?_)
      · skip
        refine z_iconst CX (v := 0) dX4_hasCell_29 (by decide) ?_
        exact z_zret CX dX4_hasCell_30 rfl (by first | rfl | exact bI_nar _) (congrArg Value.int (bI_0 (fun q => absurd q.2 (Int32.not_lt.mpr c_22)))) rfl (Or.inl rfl)
      · skip
        refine z_iconst CX (v := 1) dX4_hasCell_25 (by decide) ?_
        refine z_goto CX 30 dX4_hasCell_26 (by decide) ?_
        exact z_zret CX dX4_hasCell_30 rfl (by first | rfl | exact bI_nar _) (congrArg Value.int (bI_1 ⟨Int32.not_lt.mp c_9, Int32.not_le.mp c_22⟩)) rfl (Or.inl rfl)
  · rw [icl_0 h0]
    refine Cn.of (d := mX4_hasCell) (by decide +kernel) (Nat.le_of_ble_eq_true rfl) ?_
    intro p e R s m args below meth c CX
    replace CX : Ctx p s m args meth c R w RX4 "hasCell" cX4_hasCell 3 (some .boolean) 1 23 0 0 := CX
    show ZW p l e R s m args below meth c w 3 _ _ 0 0 (MQ below (Qn w _ _ _) args s 0 0 (wA w)) 0 [(0, .ref (wB w + k)), (1, .int _), (2, .int _)] []
    refine z_aload_n CX 0 dX4_hasCell_0 rfl rfl ?_
    refine z_iload_n CX 1 dX4_hasCell_1 rfl rfl ?_
    refine z_callV1 CX dX4_hasCell_2 cv_X4_67 (t_hasG _) to_0 rfl rfl (Nat.le_of_ble_eq_true rfl) ⟨Nat.le_of_ble_eq_true rfl, Nat.le_of_ble_eq_true rfl⟩ ⟨Nat.le_refl _, Nat.le_refl _⟩ ?_
    refine z_if_eq CX 29 dX4_hasCell_5 (by decide) (fun _ => ?_) (fun q9 => absurd (bI_0 h0) q9)
    refine z_iconst CX (v := 0) dX4_hasCell_29 (by decide) ?_
    exact z_zret CX dX4_hasCell_30 rfl (by first | rfl | exact bI_nar _) rfl rfl (Or.inl rfl)
def fltG (f : Nat → Int32) (a b c d : Int32) : Int32 := if gN f = 0 ∨ icl f (gN f) c d = true then (if (4 ≤ a ∧ a ≤ 40) ∧ (0 ≤ b ∧ b ≤ 5) then (if gN f < 6 then 0 else 3) else 2) else 1
def fltB (f : Nat → Int32) (a b c : Int32) : Int32 := if 0 ≤ c ∧ c ≤ 3 then (if (1 ≤ a ∧ a ≤ 9) ∧ (0 ≤ b ∧ b ≤ 3) then (if bN f < 10 then 0 else 3) else 2) else 1
def fltL (f : Nat → Int32) (a b : Int32) : Int32 := if (0 ≤ a ∧ a < nI (bN f)) ∧ (0 ≤ b ∧ b < nI (gN f)) then (if f (24 + 10 * a.toNatClampNeg + 3) = 0 then 0 else 3) else 1
def fltH (f : Nat → Int32) (a b c : Int32) : Int32 := if (0 ≤ a ∧ a ≤ 3) ∧ icl f (gN f) b c = true then 0 else 1
def fltC (f : Nat → Int32) (a b : Int32) : Int32 := if (0 ≤ a ∧ a ≤ 3) ∧ (0 ≤ b ∧ b < nI (bN f)) then 0 else 1
def fltM (a : Int32) : Int32 := if 1 ≤ a ∧ a ≤ 60 then 0 else 2
def fltS (a b : Int32) : Int32 := if isSetP a b then 0 else 2
set_option maxHeartbeats 4000000 in
set_option maxRecDepth 100000 in
theorem t_fltG {l : Launch} {w : Wt} {hs : Hs} {n : Option Nat} {k : Nat} {f : Nat → Int32} {x : Int32} {z : Nat → Nat → Int32} (hR : RIs f) (a b c d : Int32) : Cn l w mX4_gutterFault 0 0 [.ref (wB w + k), .int a, .int b, .int c, .int d] (TH w hs k f x z) n (TH w hs k f x z) n (some (.int (fltG f a b c d))) := by
  have h6 := hR.1.2.1
  unfold fltG
  by_cases h0 : gN f = 0
  · rw [if_pos (Or.inl h0)]
    refine Cn.of (d := mX4_gutterFault) (by decide +kernel) (Nat.le_of_ble_eq_true rfl) ?_
    intro p e R s m args below meth c CX
    replace CX : Ctx p s m args meth c R w RX4 "gutterFault" cX4_gutterFault 5 (some .int) 2 45 0 0 := CX
    show ZW p l e R s m args below meth c w 5 _ _ 0 0 (MQ below (Qn w _ _ _) args s 0 0 (wA w)) 0 [(0, .ref (wB w + k)), (1, .int _), (2, .int _), (3, .int _), (4, .int _)] []
    refine z_aload_n CX 0 dX4_gutterFault_0 rfl rfl ?_
    refine z_get CX dX4_gutterFault_1 fg_X4_14 to_0 rfl ?_
    refine z_get CX dX4_gutterFault_4 fg_X4_29 to_1 rfl ?_
    refine z_if_le CX 22 dX4_gutterFault_7 (by decide) (fun _ => ?_) (fun q9 => absurd (show nI (gN f) ≤ 0 by rw [h0]; decide) q9)
    refine z_iload_n CX 1 dX4_gutterFault_22 rfl rfl ?_
    refine z_iconst CX (v := 4) dX4_gutterFault_23 (by decide) ?_
    refine z_icmp_lt CX 42 dX4_gutterFault_24 (by decide) (fun c_24 => ?_) (fun c_24 => ?_)
    · skip
      refine z_iconst CX (v := 2) dX4_gutterFault_42 (by decide) ?_
      exact z_iret CX dX4_gutterFault_43 rfl (congrArg Value.int (by rw [if_neg (fun q => absurd q.1.1 (Int32.not_le.mpr c_24))])) rfl (Or.inl rfl)
    · skip
      refine z_iload_n CX 1 dX4_gutterFault_27 rfl rfl ?_
      refine z_bipush CX (v := 40) dX4_gutterFault_28 (by decide) ?_
      refine z_icmp_gt CX 42 dX4_gutterFault_30 (by decide) (fun c_30 => ?_) (fun c_30 => ?_)
      · skip
        refine z_iconst CX (v := 2) dX4_gutterFault_42 (by decide) ?_
        exact z_iret CX dX4_gutterFault_43 rfl (congrArg Value.int (by rw [if_neg (fun q => absurd q.1.2 (Int32.not_le.mpr c_30))])) rfl (Or.inl rfl)
      · skip
        refine z_iload_n CX 2 dX4_gutterFault_33 rfl rfl ?_
        refine z_if_lt CX 42 dX4_gutterFault_34 (by decide) (fun c_34 => ?_) (fun c_34 => ?_)
        · skip
          refine z_iconst CX (v := 2) dX4_gutterFault_42 (by decide) ?_
          exact z_iret CX dX4_gutterFault_43 rfl (congrArg Value.int (by rw [if_neg (fun q => absurd q.2.1 (Int32.not_le.mpr c_34))])) rfl (Or.inl rfl)
        · skip
          refine z_iload_n CX 2 dX4_gutterFault_37 rfl rfl ?_
          refine z_iconst CX (v := 5) dX4_gutterFault_38 (by decide) ?_
          refine z_icmp_le CX 44 dX4_gutterFault_39 (by decide) (fun c_39 => ?_) (fun c_39 => ?_)
          · skip
            refine z_aload_n CX 0 dX4_gutterFault_44 rfl rfl ?_
            refine z_get CX dX4_gutterFault_45 fg_X4_14 to_0 rfl ?_
            refine z_get CX dX4_gutterFault_48 fg_X4_29 to_1 rfl ?_
            refine z_bipush CX (v := 6) dX4_gutterFault_51 (by decide) ?_
            refine z_icmp_lt CX 60 dX4_gutterFault_53 (by decide) (fun c_53 => ?_) (fun c_53 => ?_)
            · skip
              refine z_iconst CX (v := 0) dX4_gutterFault_60 (by decide) ?_
              exact z_iret CX dX4_gutterFault_61 rfl (congrArg Value.int (by rw [if_pos ⟨⟨Int32.not_lt.mp c_24, Int32.not_lt.mp c_30⟩, ⟨Int32.not_lt.mp c_34, c_39⟩⟩, if_pos (show gN f < 6 from (nI_ltI (a := gN f) (b := 6) (by omega) (by omega)).mp c_53)])) rfl (Or.inl rfl)
            · skip
              refine z_iconst CX (v := 3) dX4_gutterFault_56 (by decide) ?_
              refine z_goto CX 61 dX4_gutterFault_57 (by decide) ?_
              exact z_iret CX dX4_gutterFault_61 rfl (congrArg Value.int (by rw [if_pos ⟨⟨Int32.not_lt.mp c_24, Int32.not_lt.mp c_30⟩, ⟨Int32.not_lt.mp c_34, c_39⟩⟩, if_neg (show ¬ gN f < 6 from fun q => c_53 (nI_lt (a := gN f) (b := 6) q (by omega)))])) rfl (Or.inl rfl)
          · skip
            refine z_iconst CX (v := 2) dX4_gutterFault_42 (by decide) ?_
            exact z_iret CX dX4_gutterFault_43 rfl (congrArg Value.int (by rw [if_neg (fun q => c_39 q.2.2)])) rfl (Or.inl rfl)
  · by_cases h1 : icl f (gN f) c d = true
    · rw [if_pos (Or.inr h1)]
      refine Cn.of (d := mX4_gutterFault) (by decide +kernel) (Nat.le_of_ble_eq_true rfl) ?_
      intro p e R s m args below meth c CX
      replace CX : Ctx p s m args meth c R w RX4 "gutterFault" cX4_gutterFault 5 (some .int) 2 45 0 0 := CX
      show ZW p l e R s m args below meth c w 5 _ _ 0 0 (MQ below (Qn w _ _ _) args s 0 0 (wA w)) 0 [(0, .ref (wB w + k)), (1, .int _), (2, .int _), (3, .int _), (4, .int _)] []
      refine z_aload_n CX 0 dX4_gutterFault_0 rfl rfl ?_
      refine z_get CX dX4_gutterFault_1 fg_X4_14 to_0 rfl ?_
      refine z_get CX dX4_gutterFault_4 fg_X4_29 to_1 rfl ?_
      refine z_if_le CX 22 dX4_gutterFault_7 (by decide) (fun q9 => absurd q9 (show ¬ nI (gN f) ≤ 0 from nI_nle (by omega) (by omega))) (fun _ => ?_)
      refine z_aload_n CX 0 dX4_gutterFault_10 rfl rfl ?_
      refine z_iload_n CX 3 dX4_gutterFault_11 rfl rfl ?_
      refine z_iload CX dX4_gutterFault_12 rfl ?_
      refine z_callV1 CX dX4_gutterFault_14 cv_X4_75 (t_hasC hR _ _) to_0 rfl rfl (Nat.le_of_ble_eq_true rfl) ⟨Nat.le_of_ble_eq_true rfl, Nat.le_of_ble_eq_true rfl⟩ ⟨Nat.le_refl _, Nat.le_refl _⟩ ?_
      refine z_if_ne CX 22 dX4_gutterFault_17 (by decide) (fun _ => ?_) (fun q9 => absurd q9 (by rw [h1]; decide))
      refine z_iload_n CX 1 dX4_gutterFault_22 rfl rfl ?_
      refine z_iconst CX (v := 4) dX4_gutterFault_23 (by decide) ?_
      refine z_icmp_lt CX 42 dX4_gutterFault_24 (by decide) (fun c_24 => ?_) (fun c_24 => ?_)
      · skip
        refine z_iconst CX (v := 2) dX4_gutterFault_42 (by decide) ?_
        exact z_iret CX dX4_gutterFault_43 rfl (congrArg Value.int (by rw [if_neg (fun q => absurd q.1.1 (Int32.not_le.mpr c_24))])) rfl (Or.inl rfl)
      · skip
        refine z_iload_n CX 1 dX4_gutterFault_27 rfl rfl ?_
        refine z_bipush CX (v := 40) dX4_gutterFault_28 (by decide) ?_
        refine z_icmp_gt CX 42 dX4_gutterFault_30 (by decide) (fun c_30 => ?_) (fun c_30 => ?_)
        · skip
          refine z_iconst CX (v := 2) dX4_gutterFault_42 (by decide) ?_
          exact z_iret CX dX4_gutterFault_43 rfl (congrArg Value.int (by rw [if_neg (fun q => absurd q.1.2 (Int32.not_le.mpr c_30))])) rfl (Or.inl rfl)
        · skip
          refine z_iload_n CX 2 dX4_gutterFault_33 rfl rfl ?_
          refine z_if_lt CX 42 dX4_gutterFault_34 (by decide) (fun c_34 => ?_) (fun c_34 => ?_)
          · skip
            refine z_iconst CX (v := 2) dX4_gutterFault_42 (by decide) ?_
            exact z_iret CX dX4_gutterFault_43 rfl (congrArg Value.int (by rw [if_neg (fun q => absurd q.2.1 (Int32.not_le.mpr c_34))])) rfl (Or.inl rfl)
          · skip
            refine z_iload_n CX 2 dX4_gutterFault_37 rfl rfl ?_
            refine z_iconst CX (v := 5) dX4_gutterFault_38 (by decide) ?_
            refine z_icmp_le CX 44 dX4_gutterFault_39 (by decide) (fun c_39 => ?_) (fun c_39 => ?_)
            · skip
              refine z_aload_n CX 0 dX4_gutterFault_44 rfl rfl ?_
              refine z_get CX dX4_gutterFault_45 fg_X4_14 to_0 rfl ?_
              refine z_get CX dX4_gutterFault_48 fg_X4_29 to_1 rfl ?_
              refine z_bipush CX (v := 6) dX4_gutterFault_51 (by decide) ?_
              refine z_icmp_lt CX 60 dX4_gutterFault_53 (by decide) (fun c_53 => ?_) (fun c_53 => ?_)
              · skip
                refine z_iconst CX (v := 0) dX4_gutterFault_60 (by decide) ?_
                exact z_iret CX dX4_gutterFault_61 rfl (congrArg Value.int (by rw [if_pos ⟨⟨Int32.not_lt.mp c_24, Int32.not_lt.mp c_30⟩, ⟨Int32.not_lt.mp c_34, c_39⟩⟩, if_pos (show gN f < 6 from (nI_ltI (a := gN f) (b := 6) (by omega) (by omega)).mp c_53)])) rfl (Or.inl rfl)
              · skip
                refine z_iconst CX (v := 3) dX4_gutterFault_56 (by decide) ?_
                refine z_goto CX 61 dX4_gutterFault_57 (by decide) ?_
                exact z_iret CX dX4_gutterFault_61 rfl (congrArg Value.int (by rw [if_pos ⟨⟨Int32.not_lt.mp c_24, Int32.not_lt.mp c_30⟩, ⟨Int32.not_lt.mp c_34, c_39⟩⟩, if_neg (show ¬ gN f < 6 from fun q => c_53 (nI_lt (a := gN f) (b := 6) q (by omega)))])) rfl (Or.inl rfl)
            · skip
              refine z_iconst CX (v := 2) dX4_gutterFault_42 (by decide) ?_
              exact z_iret CX dX4_gutterFault_43 rfl (congrArg Value.int (by rw [if_neg (fun q => c_39 q.2.2)])) rfl (Or.inl rfl)
    · rw [if_neg (fun q => q.elim h0 h1)]
      refine Cn.of (d := mX4_gutterFault) (by decide +kernel) (Nat.le_of_ble_eq_true rfl) ?_
      intro p e R s m args below meth c CX
      replace CX : Ctx p s m args meth c R w RX4 "gutterFault" cX4_gutterFault 5 (some .int) 2 45 0 0 := CX
      show ZW p l e R s m args below meth c w 5 _ _ 0 0 (MQ below (Qn w _ _ _) args s 0 0 (wA w)) 0 [(0, .ref (wB w + k)), (1, .int _), (2, .int _), (3, .int _), (4, .int _)] []
      refine z_aload_n CX 0 dX4_gutterFault_0 rfl rfl ?_
      refine z_get CX dX4_gutterFault_1 fg_X4_14 to_0 rfl ?_
      refine z_get CX dX4_gutterFault_4 fg_X4_29 to_1 rfl ?_
      refine z_if_le CX 22 dX4_gutterFault_7 (by decide) (fun q9 => absurd q9 (show ¬ nI (gN f) ≤ 0 from nI_nle (by omega) (by omega))) (fun _ => ?_)
      refine z_aload_n CX 0 dX4_gutterFault_10 rfl rfl ?_
      refine z_iload_n CX 3 dX4_gutterFault_11 rfl rfl ?_
      refine z_iload CX dX4_gutterFault_12 rfl ?_
      refine z_callV1 CX dX4_gutterFault_14 cv_X4_75 (t_hasC hR _ _) to_0 rfl rfl (Nat.le_of_ble_eq_true rfl) ⟨Nat.le_of_ble_eq_true rfl, Nat.le_of_ble_eq_true rfl⟩ ⟨Nat.le_refl _, Nat.le_refl _⟩ ?_
      refine z_if_ne CX 22 dX4_gutterFault_17 (by decide) (fun q9 => absurd q9 (fun q => q (by rw [Bool.eq_false_iff.mpr h1]; rfl))) (fun _ => ?_)
      refine z_iconst CX (v := 1) dX4_gutterFault_20 (by decide) ?_
      exact z_iret CX dX4_gutterFault_21 rfl rfl rfl (Or.inl rfl)
set_option maxHeartbeats 4000000 in
set_option maxRecDepth 100000 in
theorem t_fltB {l : Launch} {w : Wt} {hs : Hs} {n : Option Nat} {k : Nat} {f : Nat → Int32} {x : Int32} {z : Nat → Nat → Int32} (hR : RIs f) (a b c : Int32) : Cn l w mX4_boatFault 0 0 [.ref (wB w + k), .int a, .int b, .int c] (TH w hs k f x z) n (TH w hs k f x z) n (some (.int (fltB f a b c))) := by
  have h9 := hR.2.2.1
  unfold fltB
  by_cases h0 : 0 ≤ c ∧ c ≤ 3
  · rw [if_pos h0]
    refine Cn.of (d := mX4_boatFault) (by decide +kernel) (Nat.le_of_ble_eq_true rfl) ?_
    intro p e R s m args below meth c CX
    replace CX : Ctx p s m args meth c R w RX4 "boatFault" cX4_boatFault 4 (some .int) 1 21 0 0 := CX
    show ZW p l e R s m args below meth c w 4 _ _ 0 0 (MQ below (Qn w _ _ _) args s 0 0 (wA w)) 0 [(0, .ref (wB w + k)), (1, .int _), (2, .int _), (3, .int _)] []
    refine z_aload_n CX 0 dX4_boatFault_0 rfl rfl ?_
    refine z_iload_n CX 3 dX4_boatFault_1 rfl rfl ?_
    refine z_callV1 CX dX4_boatFault_2 cv_X4_79 (t_hasO _) to_0 rfl rfl (Nat.le_of_ble_eq_true rfl) ⟨Nat.le_of_ble_eq_true rfl, Nat.le_of_ble_eq_true rfl⟩ ⟨Nat.le_refl _, Nat.le_refl _⟩ ?_
    refine z_if_ne CX 10 dX4_boatFault_5 (by decide) (fun _ => ?_) (fun q9 => absurd q9 (by rw [bI_1 h0]; decide))
    refine z_iload_n CX 1 dX4_boatFault_10 rfl rfl ?_
    refine z_iconst CX (v := 1) dX4_boatFault_11 (by decide) ?_
    refine z_icmp_lt CX 30 dX4_boatFault_12 (by decide) (fun c_12 => ?_) (fun c_12 => ?_)
    · skip
      refine z_iconst CX (v := 2) dX4_boatFault_30 (by decide) ?_
      exact z_iret CX dX4_boatFault_31 rfl (congrArg Value.int (by rw [if_neg (fun q => absurd q.1.1 (Int32.not_le.mpr c_12))])) rfl (Or.inl rfl)
    · skip
      refine z_iload_n CX 1 dX4_boatFault_15 rfl rfl ?_
      refine z_bipush CX (v := 9) dX4_boatFault_16 (by decide) ?_
      refine z_icmp_gt CX 30 dX4_boatFault_18 (by decide) (fun c_18 => ?_) (fun c_18 => ?_)
      · skip
        refine z_iconst CX (v := 2) dX4_boatFault_30 (by decide) ?_
        exact z_iret CX dX4_boatFault_31 rfl (congrArg Value.int (by rw [if_neg (fun q => absurd q.1.2 (Int32.not_le.mpr c_18))])) rfl (Or.inl rfl)
      · skip
        refine z_iload_n CX 2 dX4_boatFault_21 rfl rfl ?_
        refine z_if_lt CX 30 dX4_boatFault_22 (by decide) (fun c_22 => ?_) (fun c_22 => ?_)
        · skip
          refine z_iconst CX (v := 2) dX4_boatFault_30 (by decide) ?_
          exact z_iret CX dX4_boatFault_31 rfl (congrArg Value.int (by rw [if_neg (fun q => absurd q.2.1 (Int32.not_le.mpr c_22))])) rfl (Or.inl rfl)
        · skip
          refine z_iload_n CX 2 dX4_boatFault_25 rfl rfl ?_
          refine z_iconst CX (v := 3) dX4_boatFault_26 (by decide) ?_
          refine z_icmp_le CX 32 dX4_boatFault_27 (by decide) (fun c_27 => ?_) (fun c_27 => ?_)
          · skip
            refine z_aload_n CX 0 dX4_boatFault_32 rfl rfl ?_
            refine z_get CX dX4_boatFault_33 fg_X4_20 to_0 rfl ?_
            refine z_get CX dX4_boatFault_36 fg_X4_29 to_3 rfl ?_
            refine z_bipush CX (v := 10) dX4_boatFault_39 (by decide) ?_
            refine z_icmp_lt CX 48 dX4_boatFault_41 (by decide) (fun c_41 => ?_) (fun c_41 => ?_)
            · skip
              refine z_iconst CX (v := 0) dX4_boatFault_48 (by decide) ?_
              exact z_iret CX dX4_boatFault_49 rfl (congrArg Value.int (by rw [if_pos ⟨⟨Int32.not_lt.mp c_12, Int32.not_lt.mp c_18⟩, ⟨Int32.not_lt.mp c_22, c_27⟩⟩, if_pos (show bN f < 10 from (nI_ltI (a := bN f) (b := 10) (by omega) (by omega)).mp c_41)])) rfl (Or.inl rfl)
            · skip
              refine z_iconst CX (v := 3) dX4_boatFault_44 (by decide) ?_
              refine z_goto CX 49 dX4_boatFault_45 (by decide) ?_
              exact z_iret CX dX4_boatFault_49 rfl (congrArg Value.int (by rw [if_pos ⟨⟨Int32.not_lt.mp c_12, Int32.not_lt.mp c_18⟩, ⟨Int32.not_lt.mp c_22, c_27⟩⟩, if_neg (show ¬ bN f < 10 from fun q => c_41 (nI_lt (a := bN f) (b := 10) q (by omega)))])) rfl (Or.inl rfl)
          · skip
            refine z_iconst CX (v := 2) dX4_boatFault_30 (by decide) ?_
            exact z_iret CX dX4_boatFault_31 rfl (congrArg Value.int (by rw [if_neg (fun q => c_27 q.2.2)])) rfl (Or.inl rfl)
  · rw [if_neg h0]
    refine Cn.of (d := mX4_boatFault) (by decide +kernel) (Nat.le_of_ble_eq_true rfl) ?_
    intro p e R s m args below meth c CX
    replace CX : Ctx p s m args meth c R w RX4 "boatFault" cX4_boatFault 4 (some .int) 1 21 0 0 := CX
    show ZW p l e R s m args below meth c w 4 _ _ 0 0 (MQ below (Qn w _ _ _) args s 0 0 (wA w)) 0 [(0, .ref (wB w + k)), (1, .int _), (2, .int _), (3, .int _)] []
    refine z_aload_n CX 0 dX4_boatFault_0 rfl rfl ?_
    refine z_iload_n CX 3 dX4_boatFault_1 rfl rfl ?_
    refine z_callV1 CX dX4_boatFault_2 cv_X4_79 (t_hasO _) to_0 rfl rfl (Nat.le_of_ble_eq_true rfl) ⟨Nat.le_of_ble_eq_true rfl, Nat.le_of_ble_eq_true rfl⟩ ⟨Nat.le_refl _, Nat.le_refl _⟩ ?_
    refine z_if_ne CX 10 dX4_boatFault_5 (by decide) (fun q9 => absurd q9 (fun q => q (bI_0 h0))) (fun _ => ?_)
    refine z_iconst CX (v := 1) dX4_boatFault_8 (by decide) ?_
    exact z_iret CX dX4_boatFault_9 rfl rfl rfl (Or.inl rfl)
set_option maxHeartbeats 4000000 in
set_option maxRecDepth 100000 in
theorem t_fltL {l : Launch} {w : Wt} {hs : Hs} {n : Option Nat} {k : Nat} {f : Nat → Int32} {x : Int32} {z : Nat → Nat → Int32} (hR : RIs f) (a b : Int32) : Cn l w mX4_launchFault 0 0 [.ref (wB w + k), .int a, .int b] (TH w hs k f x z) n (TH w hs k f x z) n (some (.int (fltL f a b))) := by
  have h9 := hR.2.2.1
  unfold fltL
  by_cases h0 : 0 ≤ a ∧ a < nI (bN f)
  · by_cases h1 : 0 ≤ b ∧ b < nI (gN f)
    · obtain ⟨i, i1, i2, i3⟩ := nI_box (by omega) h0
      rw [if_pos ⟨h0, h1⟩, i3]
      subst i2
      refine Cn.of (d := mX4_launchFault) (by decide +kernel) (Nat.le_of_ble_eq_true rfl) ?_
      intro p e R s m args below meth c CX
      replace CX : Ctx p s m args meth c R w RX4 "launchFault" cX4_launchFault 3 (some .int) 1 23 0 0 := CX
      show ZW p l e R s m args below meth c w 3 _ _ 0 0 (MQ below (Qn w _ _ _) args s 0 0 (wA w)) 0 [(0, .ref (wB w + k)), (1, .int _), (2, .int _)] []
      refine z_aload_n CX 0 dX4_launchFault_0 rfl rfl ?_
      refine z_iload_n CX 1 dX4_launchFault_1 rfl rfl ?_
      refine z_callV1 CX dX4_launchFault_2 cv_X4_82 (t_hasB _) to_0 rfl rfl (Nat.le_of_ble_eq_true rfl) ⟨Nat.le_of_ble_eq_true rfl, Nat.le_of_ble_eq_true rfl⟩ ⟨Nat.le_refl _, Nat.le_refl _⟩ ?_
      refine z_if_eq CX 16 dX4_launchFault_5 (by decide) (fun q9 => absurd q9 (by rw [bI_1 h0]; decide)) (fun _ => ?_)
      refine z_aload_n CX 0 dX4_launchFault_8 rfl rfl ?_
      refine z_iload_n CX 2 dX4_launchFault_9 rfl rfl ?_
      refine z_callV1 CX dX4_launchFault_10 cv_X4_67 (t_hasG _) to_0 rfl rfl (Nat.le_of_ble_eq_true rfl) ⟨Nat.le_of_ble_eq_true rfl, Nat.le_of_ble_eq_true rfl⟩ ⟨Nat.le_refl _, Nat.le_refl _⟩ ?_
      refine z_if_ne CX 18 dX4_launchFault_13 (by decide) (fun _ => ?_) (fun q9 => absurd q9 (by rw [bI_1 h1]; decide))
      refine z_aload_n CX 0 dX4_launchFault_18 rfl rfl ?_
      refine z_get CX dX4_launchFault_19 fg_X4_20 to_0 rfl ?_
      refine z_iload_n CX 1 dX4_launchFault_22 rfl rfl ?_
      refine z_iconst CX (v := 3) dX4_launchFault_23 (by decide) ?_
      refine z_callV1 CX dX4_launchFault_24 cv_X4_71 (hB_o hR (b := i) (c := 3) (by omega) (by omega) (by decide)) to_3 rfl rfl (Nat.le_of_ble_eq_true rfl) ⟨Nat.le_of_ble_eq_true rfl, Nat.le_of_ble_eq_true rfl⟩ ⟨Nat.le_refl _, Nat.le_refl _⟩ ?_
      refine z_if_eq CX 34 dX4_launchFault_27 (by decide) (fun c_27 => ?_) (fun c_27 => ?_)
      · skip
        refine z_iconst CX (v := 0) dX4_launchFault_34 (by decide) ?_
        exact z_iret CX dX4_launchFault_35 rfl (congrArg Value.int (by rw [if_pos c_27])) rfl (Or.inl rfl)
      · skip
        refine z_iconst CX (v := 3) dX4_launchFault_30 (by decide) ?_
        refine z_goto CX 35 dX4_launchFault_31 (by decide) ?_
        exact z_iret CX dX4_launchFault_35 rfl (congrArg Value.int (by rw [if_neg c_27])) rfl (Or.inl rfl)
    · rw [if_neg (fun q => h1 q.2)]
      refine Cn.of (d := mX4_launchFault) (by decide +kernel) (Nat.le_of_ble_eq_true rfl) ?_
      intro p e R s m args below meth c CX
      replace CX : Ctx p s m args meth c R w RX4 "launchFault" cX4_launchFault 3 (some .int) 1 23 0 0 := CX
      show ZW p l e R s m args below meth c w 3 _ _ 0 0 (MQ below (Qn w _ _ _) args s 0 0 (wA w)) 0 [(0, .ref (wB w + k)), (1, .int _), (2, .int _)] []
      refine z_aload_n CX 0 dX4_launchFault_0 rfl rfl ?_
      refine z_iload_n CX 1 dX4_launchFault_1 rfl rfl ?_
      refine z_callV1 CX dX4_launchFault_2 cv_X4_82 (t_hasB _) to_0 rfl rfl (Nat.le_of_ble_eq_true rfl) ⟨Nat.le_of_ble_eq_true rfl, Nat.le_of_ble_eq_true rfl⟩ ⟨Nat.le_refl _, Nat.le_refl _⟩ ?_
      refine z_if_eq CX 16 dX4_launchFault_5 (by decide) (fun q9 => absurd q9 (by rw [bI_1 h0]; decide)) (fun _ => ?_)
      refine z_aload_n CX 0 dX4_launchFault_8 rfl rfl ?_
      refine z_iload_n CX 2 dX4_launchFault_9 rfl rfl ?_
      refine z_callV1 CX dX4_launchFault_10 cv_X4_67 (t_hasG _) to_0 rfl rfl (Nat.le_of_ble_eq_true rfl) ⟨Nat.le_of_ble_eq_true rfl, Nat.le_of_ble_eq_true rfl⟩ ⟨Nat.le_refl _, Nat.le_refl _⟩ ?_
      refine z_if_ne CX 18 dX4_launchFault_13 (by decide) (fun q9 => absurd q9 (fun q => q (bI_0 h1))) (fun _ => ?_)
      refine z_iconst CX (v := 1) dX4_launchFault_16 (by decide) ?_
      exact z_iret CX dX4_launchFault_17 rfl rfl rfl (Or.inl rfl)
  · rw [if_neg (fun q => h0 q.1)]
    refine Cn.of (d := mX4_launchFault) (by decide +kernel) (Nat.le_of_ble_eq_true rfl) ?_
    intro p e R s m args below meth c CX
    replace CX : Ctx p s m args meth c R w RX4 "launchFault" cX4_launchFault 3 (some .int) 1 23 0 0 := CX
    show ZW p l e R s m args below meth c w 3 _ _ 0 0 (MQ below (Qn w _ _ _) args s 0 0 (wA w)) 0 [(0, .ref (wB w + k)), (1, .int _), (2, .int _)] []
    refine z_aload_n CX 0 dX4_launchFault_0 rfl rfl ?_
    refine z_iload_n CX 1 dX4_launchFault_1 rfl rfl ?_
    refine z_callV1 CX dX4_launchFault_2 cv_X4_82 (t_hasB _) to_0 rfl rfl (Nat.le_of_ble_eq_true rfl) ⟨Nat.le_of_ble_eq_true rfl, Nat.le_of_ble_eq_true rfl⟩ ⟨Nat.le_refl _, Nat.le_refl _⟩ ?_
    refine z_if_eq CX 16 dX4_launchFault_5 (by decide) (fun _ => ?_) (fun q9 => absurd (bI_0 h0) q9)
    refine z_iconst CX (v := 1) dX4_launchFault_16 (by decide) ?_
    exact z_iret CX dX4_launchFault_17 rfl rfl rfl (Or.inl rfl)
set_option maxHeartbeats 4000000 in
set_option maxRecDepth 100000 in
theorem t_fltH {l : Launch} {w : Wt} {hs : Hs} {n : Option Nat} {k : Nat} {f : Nat → Int32} {x : Int32} {z : Nat → Nat → Int32} (hR : RIs f) (a b c : Int32) : Cn l w mX4_hookFault 0 0 [.ref (wB w + k), .int a, .int b, .int c] (TH w hs k f x z) n (TH w hs k f x z) n (some (.int (fltH f a b c))) := by
  unfold fltH
  by_cases h0 : 0 ≤ a ∧ a ≤ 3
  · by_cases h1 : icl f (gN f) b c = true
    · rw [if_pos ⟨h0, h1⟩]
      refine Cn.of (d := mX4_hookFault) (by decide +kernel) (Nat.le_of_ble_eq_true rfl) ?_
      intro p e R s m args below meth c CX
      replace CX : Ctx p s m args meth c R w RX4 "hookFault" cX4_hookFault 4 (some .int) 2 45 0 0 := CX
      show ZW p l e R s m args below meth c w 4 _ _ 0 0 (MQ below (Qn w _ _ _) args s 0 0 (wA w)) 0 [(0, .ref (wB w + k)), (1, .int _), (2, .int _), (3, .int _)] []
      refine z_aload_n CX 0 dX4_hookFault_0 rfl rfl ?_
      refine z_iload_n CX 1 dX4_hookFault_1 rfl rfl ?_
      refine z_callV1 CX dX4_hookFault_2 cv_X4_79 (t_hasO _) to_0 rfl rfl (Nat.le_of_ble_eq_true rfl) ⟨Nat.le_of_ble_eq_true rfl, Nat.le_of_ble_eq_true rfl⟩ ⟨Nat.le_refl _, Nat.le_refl _⟩ ?_
      refine z_if_eq CX 21 dX4_hookFault_5 (by decide) (fun q9 => absurd q9 (by rw [bI_1 h0]; decide)) (fun _ => ?_)
      refine z_aload_n CX 0 dX4_hookFault_8 rfl rfl ?_
      refine z_iload_n CX 2 dX4_hookFault_9 rfl rfl ?_
      refine z_iload_n CX 3 dX4_hookFault_10 rfl rfl ?_
      refine z_callV1 CX dX4_hookFault_11 cv_X4_75 (t_hasC hR _ _) to_0 rfl rfl (Nat.le_of_ble_eq_true rfl) ⟨Nat.le_of_ble_eq_true rfl, Nat.le_of_ble_eq_true rfl⟩ ⟨Nat.le_refl _, Nat.le_refl _⟩ ?_
      refine z_if_eq CX 21 dX4_hookFault_14 (by decide) (fun q9 => absurd q9 (by rw [h1]; decide)) (fun _ => ?_)
      refine z_iconst CX (v := 0) dX4_hookFault_17 (by decide) ?_
      refine z_goto CX 22 dX4_hookFault_18 (by decide) ?_
      exact z_iret CX dX4_hookFault_22 rfl rfl rfl (Or.inl rfl)
    · rw [if_neg (fun q => h1 q.2)]
      refine Cn.of (d := mX4_hookFault) (by decide +kernel) (Nat.le_of_ble_eq_true rfl) ?_
      intro p e R s m args below meth c CX
      replace CX : Ctx p s m args meth c R w RX4 "hookFault" cX4_hookFault 4 (some .int) 2 45 0 0 := CX
      show ZW p l e R s m args below meth c w 4 _ _ 0 0 (MQ below (Qn w _ _ _) args s 0 0 (wA w)) 0 [(0, .ref (wB w + k)), (1, .int _), (2, .int _), (3, .int _)] []
      refine z_aload_n CX 0 dX4_hookFault_0 rfl rfl ?_
      refine z_iload_n CX 1 dX4_hookFault_1 rfl rfl ?_
      refine z_callV1 CX dX4_hookFault_2 cv_X4_79 (t_hasO _) to_0 rfl rfl (Nat.le_of_ble_eq_true rfl) ⟨Nat.le_of_ble_eq_true rfl, Nat.le_of_ble_eq_true rfl⟩ ⟨Nat.le_refl _, Nat.le_refl _⟩ ?_
      refine z_if_eq CX 21 dX4_hookFault_5 (by decide) (fun q9 => absurd q9 (by rw [bI_1 h0]; decide)) (fun _ => ?_)
      refine z_aload_n CX 0 dX4_hookFault_8 rfl rfl ?_
      refine z_iload_n CX 2 dX4_hookFault_9 rfl rfl ?_
      refine z_iload_n CX 3 dX4_hookFault_10 rfl rfl ?_
      refine z_callV1 CX dX4_hookFault_11 cv_X4_75 (t_hasC hR _ _) to_0 rfl rfl (Nat.le_of_ble_eq_true rfl) ⟨Nat.le_of_ble_eq_true rfl, Nat.le_of_ble_eq_true rfl⟩ ⟨Nat.le_refl _, Nat.le_refl _⟩ ?_
      refine z_if_eq CX 21 dX4_hookFault_14 (by decide) (fun _ => ?_) (fun q9 => absurd (by rw [Bool.eq_false_iff.mpr h1]; rfl) q9)
      refine z_iconst CX (v := 1) dX4_hookFault_21 (by decide) ?_
      exact z_iret CX dX4_hookFault_22 rfl rfl rfl (Or.inl rfl)
  · rw [if_neg (fun q => h0 q.1)]
    refine Cn.of (d := mX4_hookFault) (by decide +kernel) (Nat.le_of_ble_eq_true rfl) ?_
    intro p e R s m args below meth c CX
    replace CX : Ctx p s m args meth c R w RX4 "hookFault" cX4_hookFault 4 (some .int) 2 45 0 0 := CX
    show ZW p l e R s m args below meth c w 4 _ _ 0 0 (MQ below (Qn w _ _ _) args s 0 0 (wA w)) 0 [(0, .ref (wB w + k)), (1, .int _), (2, .int _), (3, .int _)] []
    refine z_aload_n CX 0 dX4_hookFault_0 rfl rfl ?_
    refine z_iload_n CX 1 dX4_hookFault_1 rfl rfl ?_
    refine z_callV1 CX dX4_hookFault_2 cv_X4_79 (t_hasO _) to_0 rfl rfl (Nat.le_of_ble_eq_true rfl) ⟨Nat.le_of_ble_eq_true rfl, Nat.le_of_ble_eq_true rfl⟩ ⟨Nat.le_refl _, Nat.le_refl _⟩ ?_
    refine z_if_eq CX 21 dX4_hookFault_5 (by decide) (fun _ => ?_) (fun q9 => absurd (bI_0 h0) q9)
    refine z_iconst CX (v := 1) dX4_hookFault_21 (by decide) ?_
    exact z_iret CX dX4_hookFault_22 rfl rfl rfl (Or.inl rfl)
set_option maxHeartbeats 4000000 in
set_option maxRecDepth 100000 in
theorem t_fltC {l : Launch} {w : Wt} {hs : Hs} {n : Option Nat} {k : Nat} {f : Nat → Int32} {x : Int32} {z : Nat → Nat → Int32} (a b : Int32) : Cn l w mX4_claimFault 0 0 [.ref (wB w + k), .int a, .int b] (TH w hs k f x z) n (TH w hs k f x z) n (some (.int (fltC f a b))) := by
  unfold fltC
  by_cases h0 : 0 ≤ a ∧ a ≤ 3
  · by_cases h1 : 0 ≤ b ∧ b < nI (bN f)
    · rw [if_pos ⟨h0, h1⟩]
      refine Cn.of (d := mX4_claimFault) (by decide +kernel) (Nat.le_of_ble_eq_true rfl) ?_
      intro p e R s m args below meth c CX
      replace CX : Ctx p s m args meth c R w RX4 "claimFault" cX4_claimFault 3 (some .int) 1 21 0 0 := CX
      show ZW p l e R s m args below meth c w 3 _ _ 0 0 (MQ below (Qn w _ _ _) args s 0 0 (wA w)) 0 [(0, .ref (wB w + k)), (1, .int _), (2, .int _)] []
      refine z_aload_n CX 0 dX4_claimFault_0 rfl rfl ?_
      refine z_iload_n CX 1 dX4_claimFault_1 rfl rfl ?_
      refine z_callV1 CX dX4_claimFault_2 cv_X4_79 (t_hasO _) to_0 rfl rfl (Nat.le_of_ble_eq_true rfl) ⟨Nat.le_of_ble_eq_true rfl, Nat.le_of_ble_eq_true rfl⟩ ⟨Nat.le_refl _, Nat.le_refl _⟩ ?_
      refine z_if_eq CX 20 dX4_claimFault_5 (by decide) (fun q9 => absurd q9 (by rw [bI_1 h0]; decide)) (fun _ => ?_)
      refine z_aload_n CX 0 dX4_claimFault_8 rfl rfl ?_
      refine z_iload_n CX 2 dX4_claimFault_9 rfl rfl ?_
      refine z_callV1 CX dX4_claimFault_10 cv_X4_82 (t_hasB _) to_0 rfl rfl (Nat.le_of_ble_eq_true rfl) ⟨Nat.le_of_ble_eq_true rfl, Nat.le_of_ble_eq_true rfl⟩ ⟨Nat.le_refl _, Nat.le_refl _⟩ ?_
      refine z_if_eq CX 20 dX4_claimFault_13 (by decide) (fun q9 => absurd q9 (by rw [bI_1 h1]; decide)) (fun _ => ?_)
      refine z_iconst CX (v := 0) dX4_claimFault_16 (by decide) ?_
      refine z_goto CX 21 dX4_claimFault_17 (by decide) ?_
      exact z_iret CX dX4_claimFault_21 rfl rfl rfl (Or.inl rfl)
    · rw [if_neg (fun q => h1 q.2)]
      refine Cn.of (d := mX4_claimFault) (by decide +kernel) (Nat.le_of_ble_eq_true rfl) ?_
      intro p e R s m args below meth c CX
      replace CX : Ctx p s m args meth c R w RX4 "claimFault" cX4_claimFault 3 (some .int) 1 21 0 0 := CX
      show ZW p l e R s m args below meth c w 3 _ _ 0 0 (MQ below (Qn w _ _ _) args s 0 0 (wA w)) 0 [(0, .ref (wB w + k)), (1, .int _), (2, .int _)] []
      refine z_aload_n CX 0 dX4_claimFault_0 rfl rfl ?_
      refine z_iload_n CX 1 dX4_claimFault_1 rfl rfl ?_
      refine z_callV1 CX dX4_claimFault_2 cv_X4_79 (t_hasO _) to_0 rfl rfl (Nat.le_of_ble_eq_true rfl) ⟨Nat.le_of_ble_eq_true rfl, Nat.le_of_ble_eq_true rfl⟩ ⟨Nat.le_refl _, Nat.le_refl _⟩ ?_
      refine z_if_eq CX 20 dX4_claimFault_5 (by decide) (fun q9 => absurd q9 (by rw [bI_1 h0]; decide)) (fun _ => ?_)
      refine z_aload_n CX 0 dX4_claimFault_8 rfl rfl ?_
      refine z_iload_n CX 2 dX4_claimFault_9 rfl rfl ?_
      refine z_callV1 CX dX4_claimFault_10 cv_X4_82 (t_hasB _) to_0 rfl rfl (Nat.le_of_ble_eq_true rfl) ⟨Nat.le_of_ble_eq_true rfl, Nat.le_of_ble_eq_true rfl⟩ ⟨Nat.le_refl _, Nat.le_refl _⟩ ?_
      refine z_if_eq CX 20 dX4_claimFault_13 (by decide) (fun _ => ?_) (fun q9 => absurd (bI_0 h1) q9)
      refine z_iconst CX (v := 1) dX4_claimFault_20 (by decide) ?_
      exact z_iret CX dX4_claimFault_21 rfl rfl rfl (Or.inl rfl)
  · rw [if_neg (fun q => h0 q.1)]
    refine Cn.of (d := mX4_claimFault) (by decide +kernel) (Nat.le_of_ble_eq_true rfl) ?_
    intro p e R s m args below meth c CX
    replace CX : Ctx p s m args meth c R w RX4 "claimFault" cX4_claimFault 3 (some .int) 1 21 0 0 := CX
    show ZW p l e R s m args below meth c w 3 _ _ 0 0 (MQ below (Qn w _ _ _) args s 0 0 (wA w)) 0 [(0, .ref (wB w + k)), (1, .int _), (2, .int _)] []
    refine z_aload_n CX 0 dX4_claimFault_0 rfl rfl ?_
    refine z_iload_n CX 1 dX4_claimFault_1 rfl rfl ?_
    refine z_callV1 CX dX4_claimFault_2 cv_X4_79 (t_hasO _) to_0 rfl rfl (Nat.le_of_ble_eq_true rfl) ⟨Nat.le_of_ble_eq_true rfl, Nat.le_of_ble_eq_true rfl⟩ ⟨Nat.le_refl _, Nat.le_refl _⟩ ?_
    refine z_if_eq CX 20 dX4_claimFault_5 (by decide) (fun _ => ?_) (fun q9 => absurd (bI_0 h0) q9)
    refine z_iconst CX (v := 1) dX4_claimFault_20 (by decide) ?_
    exact z_iret CX dX4_claimFault_21 rfl rfl rfl (Or.inl rfl)
set_option maxHeartbeats 4000000 in
set_option maxRecDepth 100000 in
theorem t_fltM {l : Launch} {w : Wt} {hs : Hs} {n : Option Nat} {k : Nat} {f : Nat → Int32} {x : Int32} {z : Nat → Nat → Int32} (a : Int32) : Cn l w mX4_minutesFault 0 0 [.ref (wB w + k), .int a] (TH w hs k f x z) n (TH w hs k f x z) n (some (.int (fltM a))) := by
  refine Cn.of (d := mX4_minutesFault) (by decide +kernel) (Nat.le_of_ble_eq_true rfl) ?_
  intro p e R s m args below meth c CX
  replace CX : Ctx p s m args meth c R w RX4 "minutesFault" cX4_minutesFault 2 (some .int) 0 0 0 0 := CX
  show ZW p l e R s m args below meth c w 2 _ _ 0 0 (MQ below (Qn w _ _ _) args s 0 0 (wA w)) 0 [(0, .ref (wB w + k)), (1, .int _)] []
  refine z_iload_n CX 1 dX4_minutesFault_0 rfl rfl ?_
  refine z_iconst CX (v := 1) dX4_minutesFault_1 (by decide) ?_
  refine z_icmp_lt CX 11 dX4_minutesFault_2 (by decide) (fun c_2 => ?_) (fun c_2 => ?_)
  · skip
    refine z_iconst CX (v := 2) dX4_minutesFault_11 (by decide) ?_
    refine z_goto CX 16 dX4_minutesFault_12 (by decide) ?_
    exact z_iret CX dX4_minutesFault_16 rfl (congrArg Value.int (by unfold fltM; rw [if_neg (fun q => absurd q.1 (Int32.not_le.mpr c_2))])) rfl (Or.inl rfl)
  · skip
    refine z_iload_n CX 1 dX4_minutesFault_5 rfl rfl ?_
    refine z_bipush CX (v := 60) dX4_minutesFault_6 (by decide) ?_
    refine z_icmp_le CX 15 dX4_minutesFault_8 (by decide) (fun c_8 => ?_) (fun c_8 => ?_)
    · skip
      refine z_iconst CX (v := 0) dX4_minutesFault_15 (by decide) ?_
      exact z_iret CX dX4_minutesFault_16 rfl (congrArg Value.int (by unfold fltM; rw [if_pos ⟨Int32.not_lt.mp c_2, c_8⟩])) rfl (Or.inl rfl)
    · skip
      refine z_iconst CX (v := 2) dX4_minutesFault_11 (by decide) ?_
      refine z_goto CX 16 dX4_minutesFault_12 (by decide) ?_
      exact z_iret CX dX4_minutesFault_16 rfl (congrArg Value.int (by unfold fltM; rw [if_neg (fun q => c_8 q.2)])) rfl (Or.inl rfl)
theorem isSetP_n {a b : Int32} (h : a < 0 ∨ 2 < a) : ¬ isSetP a b := by
  rintro (⟨q, -⟩ | ⟨q, -⟩ | ⟨q, -⟩) <;> (rw [q] at h; revert h; decide)
theorem isSetP_r {a b lo hi : Int32} (ha : (a = 0 ∧ lo = 0 ∧ hi = 3) ∨ (a = 1 ∧ lo = 1 ∧ hi = 9) ∨ (a = 2 ∧ lo = 0 ∧ hi = 9)) : isSetP a b ↔ (lo ≤ b ∧ b ≤ hi) := by
  rcases ha with ⟨e1, e2, e3⟩ | ⟨e1, e2, e3⟩ | ⟨e1, e2, e3⟩
  · rw [e1, e2, e3]
    exact ⟨fun h => by rcases h with ⟨-, h⟩ | ⟨q, -⟩ | ⟨q, -⟩; exact h; exact absurd q (by decide); exact absurd q (by decide), fun h => Or.inl ⟨rfl, h⟩⟩
  · rw [e1, e2, e3]
    exact ⟨fun h => by rcases h with ⟨q, -⟩ | ⟨-, h⟩ | ⟨q, -⟩; exact absurd q (by decide); exact h; exact absurd q (by decide), fun h => Or.inr (Or.inl ⟨rfl, h⟩)⟩
  · rw [e1, e2, e3]
    exact ⟨fun h => by rcases h with ⟨q, -⟩ | ⟨q, -⟩ | ⟨-, h⟩; exact absurd q (by decide); exact absurd q (by decide); exact h, fun h => Or.inr (Or.inr ⟨rfl, h⟩)⟩
theorem is2 {a : Int32} (h1 : ¬ a < 0) (h2 : a ≤ 2) (h3 : a ≠ 1) (h4 : a ≠ 0) : a = 2 := by
  rw [eq_i]
  rw [lt_i] at h1
  rw [le_i] at h2
  have e0 : (0 : Int32).toInt = 0 := by decide
  have e1 : (1 : Int32).toInt = 1 := by decide
  have e2 : (2 : Int32).toInt = 2 := by decide
  have n1 : a.toInt ≠ 1 := fun q => h3 ((eq_i a 1).mpr (q.trans e1.symm))
  have n0 : a.toInt ≠ 0 := fun q => h4 ((eq_i a 0).mpr (q.trans e0.symm))
  omega
set_option maxHeartbeats 4000000 in
set_option maxRecDepth 100000 in
theorem t_fltS {l : Launch} {w : Wt} {hs : Hs} {n : Option Nat} {k : Nat} {f : Nat → Int32} {x : Int32} {z : Nat → Nat → Int32} (a b : Int32) : Cn l w mX4_settingFault 0 0 [.ref (wB w + k), .int a, .int b] (TH w hs k f x z) n (TH w hs k f x z) n (some (.int (fltS a b))) := by
  refine Cn.of (d := mX4_settingFault) (by decide +kernel) (Nat.le_of_ble_eq_true rfl) ?_
  intro p e R s m args below meth c CX
  replace CX : Ctx p s m args meth c R w RX4 "settingFault" cX4_settingFault 5 (some .int) 0 0 0 0 := CX
  show ZW p l e R s m args below meth c w 5 _ _ 0 0 (MQ below (Qn w _ _ _) args s 0 0 (wA w)) 0 [(0, .ref (wB w + k)), (1, .int _), (2, .int _)] []
  refine z_iload_n CX 1 dX4_settingFault_0 rfl rfl ?_
  refine z_if_lt CX 9 dX4_settingFault_1 (by decide) (fun c_1 => ?_) (fun c_1 => ?_)
  · skip
    refine z_iconst CX (v := 2) dX4_settingFault_9 (by decide) ?_
    exact z_iret CX dX4_settingFault_10 rfl (congrArg Value.int (by unfold fltS; rw [if_neg (isSetP_n (Or.inl c_1))])) rfl (Or.inl rfl)
  · skip
    refine z_iload_n CX 1 dX4_settingFault_4 rfl rfl ?_
    refine z_iconst CX (v := 2) dX4_settingFault_5 (by decide) ?_
    refine z_icmp_le CX 11 dX4_settingFault_6 (by decide) (fun c_6 => ?_) (fun c_6 => ?_)
    · skip
      refine z_iload_n CX 1 dX4_settingFault_11 rfl rfl ?_
      refine z_iconst CX (v := 1) dX4_settingFault_12 (by decide) ?_
      refine z_icmp_ne CX 20 dX4_settingFault_13 (by decide) (fun c_13 => ?_) (fun c_13 => ?_)
      · skip
        refine z_iconst CX (v := 0) dX4_settingFault_20 (by decide) ?_
        refine z_istore_n CX 3 dX4_settingFault_21 rfl (by decide) ?_
        refine z_iload_n CX 1 dX4_settingFault_22 rfl rfl ?_
        refine z_if_ne CX 30 dX4_settingFault_23 (by decide) (fun c_23 => ?_) (fun c_23 => ?_)
        · skip
          refine z_bipush CX (v := 9) dX4_settingFault_30 (by decide) ?_
          refine z_istore CX dX4_settingFault_32 (by decide) ?_
          refine z_iload_n CX 2 dX4_settingFault_34 rfl rfl ?_
          refine z_iload_n CX 3 dX4_settingFault_35 rfl rfl ?_
          refine z_icmp_lt CX 45 dX4_settingFault_36 (by decide) (fun c_36 => ?_) (fun c_36 => ?_)
          · skip
            refine z_iconst CX (v := 2) dX4_settingFault_45 (by decide) ?_
            refine z_goto CX 50 dX4_settingFault_46 (by decide) ?_
            exact z_iret CX dX4_settingFault_50 rfl (congrArg Value.int (by unfold fltS; rw [if_neg (fun q => absurd ((isSetP_r (Or.inr (Or.inr ⟨is2 c_1 c_6 c_13 c_23, rfl, rfl⟩))).mp q).1 (Int32.not_le.mpr c_36))])) rfl (Or.inl rfl)
          · skip
            refine z_iload_n CX 2 dX4_settingFault_39 rfl rfl ?_
            refine z_iload CX dX4_settingFault_40 rfl ?_
            refine z_icmp_le CX 49 dX4_settingFault_42 (by decide) (fun c_42 => ?_) (fun c_42 => ?_)
            · skip
              refine z_iconst CX (v := 0) dX4_settingFault_49 (by decide) ?_
              exact z_iret CX dX4_settingFault_50 rfl (congrArg Value.int (by unfold fltS; rw [if_pos ((isSetP_r (Or.inr (Or.inr ⟨is2 c_1 c_6 c_13 c_23, rfl, rfl⟩))).mpr ⟨Int32.not_lt.mp c_36, c_42⟩)])) rfl (Or.inl rfl)
            · skip
              refine z_iconst CX (v := 2) dX4_settingFault_45 (by decide) ?_
              refine z_goto CX 50 dX4_settingFault_46 (by decide) ?_
              exact z_iret CX dX4_settingFault_50 rfl (congrArg Value.int (by unfold fltS; rw [if_neg (fun q => c_42 ((isSetP_r (Or.inr (Or.inr ⟨is2 c_1 c_6 c_13 c_23, rfl, rfl⟩))).mp q).2)])) rfl (Or.inl rfl)
        · skip
          refine z_iconst CX (v := 3) dX4_settingFault_26 (by decide) ?_
          refine z_goto CX 32 dX4_settingFault_27 (by decide) ?_
          refine z_istore CX dX4_settingFault_32 (by decide) ?_
          refine z_iload_n CX 2 dX4_settingFault_34 rfl rfl ?_
          refine z_iload_n CX 3 dX4_settingFault_35 rfl rfl ?_
          refine z_icmp_lt CX 45 dX4_settingFault_36 (by decide) (fun c_36 => ?_) (fun c_36 => ?_)
          · skip
            refine z_iconst CX (v := 2) dX4_settingFault_45 (by decide) ?_
            refine z_goto CX 50 dX4_settingFault_46 (by decide) ?_
            exact z_iret CX dX4_settingFault_50 rfl (congrArg Value.int (by unfold fltS; rw [if_neg (fun q => absurd ((isSetP_r (Or.inl ⟨c_23, rfl, rfl⟩)).mp q).1 (Int32.not_le.mpr c_36))])) rfl (Or.inl rfl)
          · skip
            refine z_iload_n CX 2 dX4_settingFault_39 rfl rfl ?_
            refine z_iload CX dX4_settingFault_40 rfl ?_
            refine z_icmp_le CX 49 dX4_settingFault_42 (by decide) (fun c_42 => ?_) (fun c_42 => ?_)
            · skip
              refine z_iconst CX (v := 0) dX4_settingFault_49 (by decide) ?_
              exact z_iret CX dX4_settingFault_50 rfl (congrArg Value.int (by unfold fltS; rw [if_pos ((isSetP_r (Or.inl ⟨c_23, rfl, rfl⟩)).mpr ⟨Int32.not_lt.mp c_36, c_42⟩)])) rfl (Or.inl rfl)
            · skip
              refine z_iconst CX (v := 2) dX4_settingFault_45 (by decide) ?_
              refine z_goto CX 50 dX4_settingFault_46 (by decide) ?_
              exact z_iret CX dX4_settingFault_50 rfl (congrArg Value.int (by unfold fltS; rw [if_neg (fun q => c_42 ((isSetP_r (Or.inl ⟨c_23, rfl, rfl⟩)).mp q).2)])) rfl (Or.inl rfl)
      · skip
        refine z_iconst CX (v := 1) dX4_settingFault_16 (by decide) ?_
        refine z_goto CX 21 dX4_settingFault_17 (by decide) ?_
        refine z_istore_n CX 3 dX4_settingFault_21 rfl (by decide) ?_
        refine z_iload_n CX 1 dX4_settingFault_22 rfl rfl ?_
        refine z_if_ne CX 30 dX4_settingFault_23 (by decide) (fun c_23 => ?_) (fun c_23 => ?_)
        · skip
          refine z_bipush CX (v := 9) dX4_settingFault_30 (by decide) ?_
          refine z_istore CX dX4_settingFault_32 (by decide) ?_
          refine z_iload_n CX 2 dX4_settingFault_34 rfl rfl ?_
          refine z_iload_n CX 3 dX4_settingFault_35 rfl rfl ?_
          refine z_icmp_lt CX 45 dX4_settingFault_36 (by decide) (fun c_36 => ?_) (fun c_36 => ?_)
          · skip
            refine z_iconst CX (v := 2) dX4_settingFault_45 (by decide) ?_
            refine z_goto CX 50 dX4_settingFault_46 (by decide) ?_
            exact z_iret CX dX4_settingFault_50 rfl (congrArg Value.int (by unfold fltS; rw [if_neg (fun q => absurd ((isSetP_r (Or.inr (Or.inl ⟨c_13, rfl, rfl⟩))).mp q).1 (Int32.not_le.mpr c_36))])) rfl (Or.inl rfl)
          · skip
            refine z_iload_n CX 2 dX4_settingFault_39 rfl rfl ?_
            refine z_iload CX dX4_settingFault_40 rfl ?_
            refine z_icmp_le CX 49 dX4_settingFault_42 (by decide) (fun c_42 => ?_) (fun c_42 => ?_)
            · skip
              refine z_iconst CX (v := 0) dX4_settingFault_49 (by decide) ?_
              exact z_iret CX dX4_settingFault_50 rfl (congrArg Value.int (by unfold fltS; rw [if_pos ((isSetP_r (Or.inr (Or.inl ⟨c_13, rfl, rfl⟩))).mpr ⟨Int32.not_lt.mp c_36, c_42⟩)])) rfl (Or.inl rfl)
            · skip
              refine z_iconst CX (v := 2) dX4_settingFault_45 (by decide) ?_
              refine z_goto CX 50 dX4_settingFault_46 (by decide) ?_
              exact z_iret CX dX4_settingFault_50 rfl (congrArg Value.int (by unfold fltS; rw [if_neg (fun q => c_42 ((isSetP_r (Or.inr (Or.inl ⟨c_13, rfl, rfl⟩))).mp q).2)])) rfl (Or.inl rfl)
        · skip
          refine z_iconst CX (v := 3) dX4_settingFault_26 (by decide) ?_
          refine z_goto CX 32 dX4_settingFault_27 (by decide) ?_
          refine z_istore CX dX4_settingFault_32 (by decide) ?_
          refine z_iload_n CX 2 dX4_settingFault_34 rfl rfl ?_
          refine z_iload_n CX 3 dX4_settingFault_35 rfl rfl ?_
          refine z_icmp_lt CX 45 dX4_settingFault_36 (by decide) (fun c_36 => ?_) (fun c_36 => ?_)
          · skip
            refine z_iconst CX (v := 2) dX4_settingFault_45 (by decide) ?_
            refine z_goto CX 50 dX4_settingFault_46 (by decide) ?_
            exact z_iret CX dX4_settingFault_50 rfl (absurd (c_13.symm.trans c_23) (by decide)) rfl (Or.inl rfl)
          · skip
            refine z_iload_n CX 2 dX4_settingFault_39 rfl rfl ?_
            refine z_iload CX dX4_settingFault_40 rfl ?_
            refine z_icmp_le CX 49 dX4_settingFault_42 (by decide) (fun c_42 => ?_) (fun c_42 => ?_)
            · skip
              refine z_iconst CX (v := 0) dX4_settingFault_49 (by decide) ?_
              exact z_iret CX dX4_settingFault_50 rfl (absurd (c_13.symm.trans c_23) (by decide)) rfl (Or.inl rfl)
            · skip
              refine z_iconst CX (v := 2) dX4_settingFault_45 (by decide) ?_
              refine z_goto CX 50 dX4_settingFault_46 (by decide) ?_
              exact z_iret CX dX4_settingFault_50 rfl (absurd (c_13.symm.trans c_23) (by decide)) rfl (Or.inl rfl)
    · skip
      refine z_iconst CX (v := 2) dX4_settingFault_9 (by decide) ?_
      exact z_iret CX dX4_settingFault_10 rfl (congrArg Value.int (by unfold fltS; rw [if_neg (isSetP_n (Or.inr (Int32.not_le.mp c_6)))])) rfl (Or.inl rfl)
