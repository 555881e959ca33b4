/-! the tournament: new things, launches, wrecks taken -/
theorem adg_v {f : Nat → Int32} {ng : Nat} {a b c d : Int32} (h6 : ng < 6) : adgF f ng a b c d (4 * ng + 0) = a ∧ adgF f ng a b c d (4 * ng + 1) = b ∧ adgF f ng a b c d (4 * ng + 2) = (if ng = 0 then -1 else c) ∧ adgF f ng a b c d (4 * ng + 3) = (if ng = 0 then -1 else d) ∧ adgF f ng a b c d 146 = nI (ng + 1) := by
  unfold adgF
  refine ⟨?_, ?_, ?_, ?_, ?_⟩
  · rw [pk_un (by omega), pk_un (by omega), pk_un (by omega), pk_un (by omega), pk_us]
  · rw [pk_un (by omega), pk_un (by omega), pk_un (by omega), pk_us]
  · rw [pk_un (by omega), pk_un (by omega), pk_us]
  · rw [pk_un (by omega), pk_us]
  · rw [pk_us]
theorem TH_g {w : Wt} {hs : Hs} {k : Nat} {f : Nat → Int32} {x : Int32} {z : Nat → Nat → Int32} {h : Nat → Int32} {a b c d : Int32} (hR : RIs f) (h6 : gN f < 6) (h0 : h (gN f * 4 + 0) = a) (h1 : h (gN f * 4 + 1) = b) (h2 : h (gN f * 4 + 2) = if gN f = 0 then -1 else c) (h3 : h (gN f * 4 + 3) = if gN f = 0 then -1 else d) (hn : ∀ j, j < gN f * 4 ∨ gN f * 4 + 4 ≤ j → h j = gF f z 0 j) : TT w hs k (sF f x) (upA (gF f z) 0 h) (upR (rF f) 0 (gN f + 1)) = TH w hs k (adgF f (gN f) a b c d) x z := by
  have h9 := hR.2.2.1
  obtain ⟨v0, v1, v2, v3, v4⟩ := adg_v (f := f) (a := a) (b := b) (c := c) (d := d) h6
  have E : ∀ j, j < 4 * gN f ∨ 4 * gN f + 3 < j → j ≠ 146 → adgF f (gN f) a b c d j = f j := fun j => adgF_n
  have e6 : gN (adgF f (gN f) a b c d) = gN f + 1 := by
    show (adgF f (gN f) a b c d 146).toNatClampNeg = _
    rw [v4, nI_clamp (by omega)]
  have e7 : bN (adgF f (gN f) a b c d) = bN f := bN_e (E _ (by omega) (by omega))
  refine TH_of ⟨(E _ (by omega) (by omega)).symm, (E _ (by omega) (by omega)).symm, (E _ (by omega) (by omega)).symm, (E _ (by omega) (by omega)).symm, (E _ (by omega) (by omega)).symm, (E _ (by omega) (by omega)).symm, rfl⟩ ⟨e6.symm, e7.symm, rfl⟩ ⟨fun j hj => ?_, fun j hj => ?_⟩ ⟨fun b c hb hc => ?_, fun j hj => ?_⟩ ⟨fun j hj => ?_, fun j hj => gF_2n hj⟩
  · rw [e6] at hj
    show h j = _
    by_cases q : j < 4 * gN f
    · rw [hn j (by omega), gF_0 q]; exact (E j (by omega) (by omega)).symm
    · have : j = 4 * gN f + 0 ∨ j = 4 * gN f + 1 ∨ j = 4 * gN f + 2 ∨ j = 4 * gN f + 3 := by omega
      rcases this with e | e | e | e
      · rw [e, v0, ← h0]; congr 1; omega
      · rw [e, v1, ← h1]; congr 1; omega
      · rw [e, v2, ← h2]; congr 1; omega
      · rw [e, v3, ← h3]; congr 1; omega
  · rw [e6] at hj
    show h j = _
    rw [hn j (by omega)]; exact gF_0n (by omega)
  · rw [e7] at hb
    exact (gF_1 hb hc).trans (nv_e (fun c hc => E _ (by omega) (by omega)) hc).symm
  · rw [e7] at hj
    exact gF_1n hj
  · exact (gF_2 hj).trans (E _ (by omega) (by omega)).symm
set_option maxHeartbeats 4000000 in
set_option maxRecDepth 100000 in
theorem t_addG {l : Launch} {w : Wt} {hs : Hs} {n : Option Nat} {k : Nat} {f : Nat → Int32} {x : Int32} {z : Nat → Nat → Int32} (hR : RIs f) (h6 : gN f < 6) (a b y v : Int32) : Cn l w mX4_addGutter 0 0 [.ref (wB w + k), .int a, .int b, .int y, .int v] (TH w hs k f x z) n (TH w hs k (adgF f (gN f) a b y v) x z) n (some (.int (nI (gN f)))) := by
  by_cases h0 : gN f = 0
  · skip
    refine Cn.of (d := mX4_addGutter) (by decide +kernel) (Nat.le_of_ble_eq_true rfl) ?_
    intro p e R s m args below meth c CX
    replace CX : Ctx p s m args meth c R w RX4 "addGutter" cX4_addGutter 6 (some .int) 1 24 0 0 := CX
    show ZW p l e R s m args below meth c w 6 _ _ 0 0 (MQ below (Qn w _ _ _) args s 0 0 (wA w)) 0 [(0, .ref (wB w + k)), (1, .int _), (2, .int _), (3, .int _), (4, .int _)] []
    refine z_aload_n CX 0 dX4_addGutter_0 rfl rfl ?_
    refine z_get CX dX4_addGutter_1 fg_X4_14 to_0 rfl ?_
    refine z_callV1 CX dX4_addGutter_4 cv_X4_33 (tG_add (show rF f 0 < 6 from h6)) to_1 rfl rfl (Nat.le_of_ble_eq_true rfl) ⟨Nat.le_of_ble_eq_true rfl, Nat.le_of_ble_eq_true rfl⟩ ⟨Nat.le_refl _, Nat.le_refl _⟩ ?_
    refine z_istore CX dX4_addGutter_7 (by decide) ?_
    refine z_aload_n CX 0 dX4_addGutter_9 rfl rfl ?_
    refine z_get CX dX4_addGutter_10 fg_X4_14 to_0 rfl ?_
    refine z_iload CX dX4_addGutter_13 rfl ?_
    refine z_iconst CX (v := 0) dX4_addGutter_15 (by decide) ?_
    refine z_iload_n CX 1 dX4_addGutter_16 rfl rfl ?_
    refine z_callV0 CX dX4_addGutter_17 cv_X4_37 (tG_put (show gN f + 1 ≤ 6 by omega) (b := gN f) (c := 0) (show gN f < gN f + 1 by omega) (by omega) _) to_1 rfl rfl (Nat.le_of_ble_eq_true rfl) ⟨Nat.le_of_ble_eq_true rfl, Nat.le_of_ble_eq_true rfl⟩ ⟨Nat.le_refl _, Nat.le_refl _⟩ ?_
    refine z_heap (congrArg (fun z => TT _ _ _ _ z _) upA_up) ?_
    refine z_aload_n CX 0 dX4_addGutter_20 rfl rfl ?_
    refine z_get CX dX4_addGutter_21 fg_X4_14 to_0 rfl ?_
    refine z_iload CX dX4_addGutter_24 rfl ?_
    refine z_iconst CX (v := 1) dX4_addGutter_26 (by decide) ?_
    refine z_iload_n CX 2 dX4_addGutter_27 rfl rfl ?_
    refine z_callV0 CX dX4_addGutter_28 cv_X4_37 (tG_put (show gN f + 1 ≤ 6 by omega) (b := gN f) (c := 1) (show gN f < gN f + 1 by omega) (by omega) _) to_1 rfl rfl (Nat.le_of_ble_eq_true rfl) ⟨Nat.le_of_ble_eq_true rfl, Nat.le_of_ble_eq_true rfl⟩ ⟨Nat.le_refl _, Nat.le_refl _⟩ ?_
    refine z_heap (congrArg (fun z => TT _ _ _ _ z _) upA_up) ?_
    refine z_aload_n CX 0 dX4_addGutter_31 rfl rfl ?_
    refine z_get CX dX4_addGutter_32 fg_X4_14 to_0 rfl ?_
    refine z_iload CX dX4_addGutter_35 rfl ?_
    refine z_iconst CX (v := 2) dX4_addGutter_37 (by decide) ?_
    refine z_iload CX dX4_addGutter_38 rfl ?_
    refine z_if_ne CX 47 dX4_addGutter_40 (by decide) (fun q9 => absurd q9 (fun q => q (show nI (gN f) = 0 by rw [h0]; rfl))) (fun _ => ?_)
    refine z_iconst CX (v := (-1 : Int32)) dX4_addGutter_43 (by decide) ?_
    refine z_goto CX 48 dX4_addGutter_44 (by decide) ?_
    refine z_callV0 CX dX4_addGutter_48 cv_X4_37 (tG_put (show gN f + 1 ≤ 6 by omega) (b := gN f) (c := 2) (show gN f < gN f + 1 by omega) (by omega) _) to_1 rfl rfl (Nat.le_of_ble_eq_true rfl) ⟨Nat.le_of_ble_eq_true rfl, Nat.le_of_ble_eq_true rfl⟩ ⟨Nat.le_refl _, Nat.le_refl _⟩ ?_
    refine z_heap (congrArg (fun z => TT _ _ _ _ z _) upA_up) ?_
    refine z_aload_n CX 0 dX4_addGutter_51 rfl rfl ?_
    refine z_get CX dX4_addGutter_52 fg_X4_14 to_0 rfl ?_
    refine z_iload CX dX4_addGutter_55 rfl ?_
    refine z_iconst CX (v := 3) dX4_addGutter_57 (by decide) ?_
    refine z_iload CX dX4_addGutter_58 rfl ?_
    refine z_if_ne CX 67 dX4_addGutter_60 (by decide) (fun q9 => absurd q9 (fun q => q (show nI (gN f) = 0 by rw [h0]; rfl))) (fun _ => ?_)
    refine z_iconst CX (v := (-1 : Int32)) dX4_addGutter_63 (by decide) ?_
    refine z_goto CX 69 dX4_addGutter_64 (by decide) ?_
    refine z_callV0 CX dX4_addGutter_69 cv_X4_37 (tG_put (show gN f + 1 ≤ 6 by omega) (b := gN f) (c := 3) (show gN f < gN f + 1 by omega) (by omega) _) to_1 rfl rfl (Nat.le_of_ble_eq_true rfl) ⟨Nat.le_of_ble_eq_true rfl, Nat.le_of_ble_eq_true rfl⟩ ⟨Nat.le_refl _, Nat.le_refl _⟩ ?_
    refine z_heap (congrArg (fun z => TT _ _ _ _ z _) upA_up) ?_
    refine z_iload CX dX4_addGutter_72 rfl ?_
    exact z_iret CX dX4_addGutter_74 rfl rfl (TH_g (c := y) (d := v) (h := (upd (upd (upd (upd (clrF (gN f * 4) (gN f * 4 + 4) (gF f z 0)) (gN f * 4 + 0) a) (gN f * 4 + 1) b) (gN f * 4 + 2) (-1)) (gN f * 4 + 3) (-1))) hR h6 (by rw [pk_un (by omega), pk_un (by omega), pk_un (by omega), pk_us]) (by rw [pk_un (by omega), pk_un (by omega), pk_us]) (by rw [pk_un (by omega), pk_us, if_pos h0]) (by rw [pk_us, if_pos h0]) (fun j hj => by rw [pk_un (by omega), pk_un (by omega), pk_un (by omega), pk_un (by omega), clrF_n (by omega)])) (Or.inl rfl)
  · skip
    refine Cn.of (d := mX4_addGutter) (by decide +kernel) (Nat.le_of_ble_eq_true rfl) ?_
    intro p e R s m args below meth c CX
    replace CX : Ctx p s m args meth c R w RX4 "addGutter" cX4_addGutter 6 (some .int) 1 24 0 0 := CX
    show ZW p l e R s m args below meth c w 6 _ _ 0 0 (MQ below (Qn w _ _ _) args s 0 0 (wA w)) 0 [(0, .ref (wB w + k)), (1, .int _), (2, .int _), (3, .int _), (4, .int _)] []
    refine z_aload_n CX 0 dX4_addGutter_0 rfl rfl ?_
    refine z_get CX dX4_addGutter_1 fg_X4_14 to_0 rfl ?_
    refine z_callV1 CX dX4_addGutter_4 cv_X4_33 (tG_add (show rF f 0 < 6 from h6)) to_1 rfl rfl (Nat.le_of_ble_eq_true rfl) ⟨Nat.le_of_ble_eq_true rfl, Nat.le_of_ble_eq_true rfl⟩ ⟨Nat.le_refl _, Nat.le_refl _⟩ ?_
    refine z_istore CX dX4_addGutter_7 (by decide) ?_
    refine z_aload_n CX 0 dX4_addGutter_9 rfl rfl ?_
    refine z_get CX dX4_addGutter_10 fg_X4_14 to_0 rfl ?_
    refine z_iload CX dX4_addGutter_13 rfl ?_
    refine z_iconst CX (v := 0) dX4_addGutter_15 (by decide) ?_
    refine z_iload_n CX 1 dX4_addGutter_16 rfl rfl ?_
    refine z_callV0 CX dX4_addGutter_17 cv_X4_37 (tG_put (show gN f + 1 ≤ 6 by omega) (b := gN f) (c := 0) (show gN f < gN f + 1 by omega) (by omega) _) to_1 rfl rfl (Nat.le_of_ble_eq_true rfl) ⟨Nat.le_of_ble_eq_true rfl, Nat.le_of_ble_eq_true rfl⟩ ⟨Nat.le_refl _, Nat.le_refl _⟩ ?_
    refine z_heap (congrArg (fun z => TT _ _ _ _ z _) upA_up) ?_
    refine z_aload_n CX 0 dX4_addGutter_20 rfl rfl ?_
    refine z_get CX dX4_addGutter_21 fg_X4_14 to_0 rfl ?_
    refine z_iload CX dX4_addGutter_24 rfl ?_
    refine z_iconst CX (v := 1) dX4_addGutter_26 (by decide) ?_
    refine z_iload_n CX 2 dX4_addGutter_27 rfl rfl ?_
    refine z_callV0 CX dX4_addGutter_28 cv_X4_37 (tG_put (show gN f + 1 ≤ 6 by omega) (b := gN f) (c := 1) (show gN f < gN f + 1 by omega) (by omega) _) to_1 rfl rfl (Nat.le_of_ble_eq_true rfl) ⟨Nat.le_of_ble_eq_true rfl, Nat.le_of_ble_eq_true rfl⟩ ⟨Nat.le_refl _, Nat.le_refl _⟩ ?_
    refine z_heap (congrArg (fun z => TT _ _ _ _ z _) upA_up) ?_
    refine z_aload_n CX 0 dX4_addGutter_31 rfl rfl ?_
    refine z_get CX dX4_addGutter_32 fg_X4_14 to_0 rfl ?_
    refine z_iload CX dX4_addGutter_35 rfl ?_
    refine z_iconst CX (v := 2) dX4_addGutter_37 (by decide) ?_
    refine z_iload CX dX4_addGutter_38 rfl ?_
    refine z_if_ne CX 47 dX4_addGutter_40 (by decide) (fun _ => ?_) (fun q9 => absurd q9 (show nI (gN f) ≠ 0 from nI_ne0 (by omega) (by omega)))
    refine z_iload_n CX 3 dX4_addGutter_47 rfl rfl ?_
    refine z_callV0 CX dX4_addGutter_48 cv_X4_37 (tG_put (show gN f + 1 ≤ 6 by omega) (b := gN f) (c := 2) (show gN f < gN f + 1 by omega) (by omega) _) to_1 rfl rfl (Nat.le_of_ble_eq_true rfl) ⟨Nat.le_of_ble_eq_true rfl, Nat.le_of_ble_eq_true rfl⟩ ⟨Nat.le_refl _, Nat.le_refl _⟩ ?_
    refine z_heap (congrArg (fun z => TT _ _ _ _ z _) upA_up) ?_
    refine z_aload_n CX 0 dX4_addGutter_51 rfl rfl ?_
    refine z_get CX dX4_addGutter_52 fg_X4_14 to_0 rfl ?_
    refine z_iload CX dX4_addGutter_55 rfl ?_
    refine z_iconst CX (v := 3) dX4_addGutter_57 (by decide) ?_
    refine z_iload CX dX4_addGutter_58 rfl ?_
    refine z_if_ne CX 67 dX4_addGutter_60 (by decide) (fun _ => ?_) (fun q9 => absurd q9 (show nI (gN f) ≠ 0 from nI_ne0 (by omega) (by omega)))
    refine z_iload CX dX4_addGutter_67 rfl ?_
    refine z_callV0 CX dX4_addGutter_69 cv_X4_37 (tG_put (show gN f + 1 ≤ 6 by omega) (b := gN f) (c := 3) (show gN f < gN f + 1 by omega) (by omega) _) to_1 rfl rfl (Nat.le_of_ble_eq_true rfl) ⟨Nat.le_of_ble_eq_true rfl, Nat.le_of_ble_eq_true rfl⟩ ⟨Nat.le_refl _, Nat.le_refl _⟩ ?_
    refine z_heap (congrArg (fun z => TT _ _ _ _ z _) upA_up) ?_
    refine z_iload CX dX4_addGutter_72 rfl ?_
    exact z_iret CX dX4_addGutter_74 rfl rfl (TH_g (c := y) (d := v) (h := (upd (upd (upd (upd (clrF (gN f * 4) (gN f * 4 + 4) (gF f z 0)) (gN f * 4 + 0) a) (gN f * 4 + 1) b) (gN f * 4 + 2) y) (gN f * 4 + 3) v)) hR h6 (by rw [pk_un (by omega), pk_un (by omega), pk_un (by omega), pk_us]) (by rw [pk_un (by omega), pk_un (by omega), pk_us]) (by rw [pk_un (by omega), pk_us, if_neg h0]) (by rw [pk_us, if_neg h0]) (fun j hj => by rw [pk_un (by omega), pk_un (by omega), pk_un (by omega), pk_un (by omega), clrF_n (by omega)])) (Or.inl rfl)
theorem adb_v {f : Nat → Int32} {nb : Nat} {a b c : Int32} (h9 : nb < 11) : adbF f nb a b c (24 + 10 * nb + 0) = a ∧ adbF f nb a b c (24 + 10 * nb + 1) = b ∧ adbF f nb a b c (24 + 10 * nb + 2) = c ∧ adbF f nb a b c 147 = nI (nb + 1) := by
  unfold adbF
  refine ⟨?_, ?_, ?_, ?_⟩
  · rw [pk_un (by omega), pk_un (by omega), pk_un (by omega), pk_us]
  · rw [pk_un (by omega), pk_un (by omega), pk_us]
  · rw [pk_un (by omega), pk_us]
  · rw [pk_us]
theorem TH_nb {w : Wt} {hs : Hs} {k : Nat} {f : Nat → Int32} {x : Int32} {z : Nat → Nat → Int32} {h : Nat → Int32} {a b c : Int32} (hR : RIs f) (h9 : bN f < 11) (h1 : ∀ q, q < 10 → h (bN f * 10 + q) = nv (adbF f (bN f) a b c) (bN f) q) (hn : ∀ j, j < bN f * 10 ∨ bN f * 10 + 10 ≤ j → h j = gF f z 1 j) : TT w hs k (sF f x) (upA (gF f z) 1 h) (upR (rF f) 1 (bN f + 1)) = TH w hs k (adbF f (bN f) a b c) x z := by
  have h6 := hR.1.2.1
  obtain ⟨v0, v1, v2, v3⟩ := adb_v (f := f) (a := a) (b := b) (c := c) h9
  have E : ∀ j, j < 24 + 10 * bN f ∨ 24 + 10 * bN f + 9 < j → j ≠ 147 → adbF f (bN f) a b c j = f j := fun j => adbF_n
  have e6 : gN (adbF f (bN f) a b c) = gN f := gN_e (E _ (by omega) (by omega))
  have e7 : bN (adbF f (bN f) a b c) = bN f + 1 := by
    show (adbF f (bN f) a b c 147).toNatClampNeg = _
    rw [v3, nI_clamp (by omega)]
  refine TH_of ⟨(E _ (by omega) (by omega)).symm, (E _ (by omega) (by omega)).symm, (E _ (by omega) (by omega)).symm, (E _ (by omega) (by omega)).symm, (E _ (by omega) (by omega)).symm, (E _ (by omega) (by omega)).symm, rfl⟩ ⟨e6.symm, e7.symm, rfl⟩ ⟨fun j hj => ?_, fun j hj => ?_⟩ ⟨fun b' q hb hc => ?_, fun j hj => ?_⟩ ⟨fun j hj => ?_, fun j hj => gF_2n hj⟩
  · rw [e6] at hj
    exact (gF_0 hj).trans (E _ (by omega) (by omega)).symm
  · rw [e6] at hj
    exact gF_0n hj
  · rw [e7] at hb
    show h (b' * 10 + q) = _
    by_cases e : b' = bN f
    · rw [e]; exact h1 q hc
    · rw [hn _ (by omega), gF_1 (by omega) hc]
      exact (nv_e (fun c hc => E _ (by omega) (by omega)) hc).symm
  · rw [e7] at hj
    show h j = _
    rw [hn _ (by omega)]; exact gF_1n (by omega)
  · exact (gF_2 hj).trans (E _ (by omega) (by omega)).symm
set_option maxHeartbeats 4000000 in
set_option maxRecDepth 100000 in
theorem t_addB {l : Launch} {w : Wt} {hs : Hs} {n : Option Nat} {k : Nat} {f : Nat → Int32} {x : Int32} {z : Nat → Nat → Int32} (hR : RIs f) (h9 : bN f < 11) (a b y : Int32) : Cn l w mX4_addBoat 0 0 [.ref (wB w + k), .int a, .int b, .int y] (TH w hs k f x z) n (TH w hs k (adbF f (bN f) a b y) x z) n (some (.int (nI (bN f)))) := by
  refine Cn.of (d := mX4_addBoat) (by decide +kernel) (Nat.le_of_ble_eq_true rfl) ?_
  intro p e R s m args below meth c CX
  replace CX : Ctx p s m args meth c R w RX4 "addBoat" cX4_addBoat 5 (some .int) 2 46 0 0 := CX
  show ZW p l e R s m args below meth c w 5 _ _ 0 0 (MQ below (Qn w _ _ _) args s 0 0 (wA w)) 0 [(0, .ref (wB w + k)), (1, .int _), (2, .int _), (3, .int _)] []
  refine z_aload_n CX 0 dX4_addBoat_0 rfl rfl ?_
  refine z_get CX dX4_addBoat_1 fg_X4_20 to_0 rfl ?_
  refine z_callV1 CX dX4_addBoat_4 cv_X4_33 (tB_add (show rF f 1 < 11 from h9)) to_3 rfl rfl (Nat.le_of_ble_eq_true rfl) ⟨Nat.le_of_ble_eq_true rfl, Nat.le_of_ble_eq_true rfl⟩ ⟨Nat.le_refl _, Nat.le_refl _⟩ ?_
  refine z_istore CX dX4_addBoat_7 (by decide) ?_
  refine z_aload_n CX 0 dX4_addBoat_9 rfl rfl ?_
  refine z_get CX dX4_addBoat_10 fg_X4_20 to_0 rfl ?_
  refine z_iload CX dX4_addBoat_13 rfl ?_
  refine z_iconst CX (v := 0) dX4_addBoat_15 (by decide) ?_
  refine z_iload_n CX 1 dX4_addBoat_16 rfl rfl ?_
  refine z_callV0 CX dX4_addBoat_17 cv_X4_37 (tB_put (r := upR (rF f) 1 (bN f + 1)) (show bN f + 1 ≤ 11 by omega) (b := bN f) (c := 0) (show bN f < bN f + 1 by omega) (by omega) _) to_3 rfl rfl (Nat.le_of_ble_eq_true rfl) ⟨Nat.le_of_ble_eq_true rfl, Nat.le_of_ble_eq_true rfl⟩ ⟨Nat.le_refl _, Nat.le_refl _⟩ ?_
  refine z_heap (congrArg (fun z => TT _ _ _ _ z _) upA_up) ?_
  refine z_aload_n CX 0 dX4_addBoat_20 rfl rfl ?_
  refine z_get CX dX4_addBoat_21 fg_X4_20 to_0 rfl ?_
  refine z_iload CX dX4_addBoat_24 rfl ?_
  refine z_iconst CX (v := 1) dX4_addBoat_26 (by decide) ?_
  refine z_iload_n CX 2 dX4_addBoat_27 rfl rfl ?_
  refine z_callV0 CX dX4_addBoat_28 cv_X4_37 (tB_put (r := upR (rF f) 1 (bN f + 1)) (show bN f + 1 ≤ 11 by omega) (b := bN f) (c := 1) (show bN f < bN f + 1 by omega) (by omega) _) to_3 rfl rfl (Nat.le_of_ble_eq_true rfl) ⟨Nat.le_of_ble_eq_true rfl, Nat.le_of_ble_eq_true rfl⟩ ⟨Nat.le_refl _, Nat.le_refl _⟩ ?_
  refine z_heap (congrArg (fun z => TT _ _ _ _ z _) upA_up) ?_
  refine z_aload_n CX 0 dX4_addBoat_31 rfl rfl ?_
  refine z_get CX dX4_addBoat_32 fg_X4_20 to_0 rfl ?_
  refine z_iload CX dX4_addBoat_35 rfl ?_
  refine z_iconst CX (v := 2) dX4_addBoat_37 (by decide) ?_
  refine z_iload_n CX 3 dX4_addBoat_38 rfl rfl ?_
  refine z_callV0 CX dX4_addBoat_39 cv_X4_37 (tB_put (r := upR (rF f) 1 (bN f + 1)) (show bN f + 1 ≤ 11 by omega) (b := bN f) (c := 2) (show bN f < bN f + 1 by omega) (by omega) _) to_3 rfl rfl (Nat.le_of_ble_eq_true rfl) ⟨Nat.le_of_ble_eq_true rfl, Nat.le_of_ble_eq_true rfl⟩ ⟨Nat.le_refl _, Nat.le_refl _⟩ ?_
  refine z_heap (congrArg (fun z => TT _ _ _ _ z _) upA_up) ?_
  refine z_aload_n CX 0 dX4_addBoat_42 rfl rfl ?_
  refine z_iload CX dX4_addBoat_43 rfl ?_
  refine z_iconst CX (v := 0) dX4_addBoat_45 (by decide) ?_
  refine z_callV0 CX dX4_addBoat_46 cv_X4_133 (t_take (r9 := upR (rF f) 1 (bN f + 1)) (show bN f + 1 ≤ 11 by omega) (show bN f < bN f + 1 by omega) _) to_0 rfl rfl (Nat.le_of_ble_eq_true rfl) ⟨Nat.le_of_ble_eq_true rfl, Nat.le_of_ble_eq_true rfl⟩ ⟨Nat.le_refl _, Nat.le_refl _⟩ ?_
  refine z_heap (congrArg (fun z => TT _ _ _ _ z _) upA_up) ?_
  refine z_iload CX dX4_addBoat_49 rfl ?_
  exact z_iret CX dX4_addBoat_51 rfl rfl (TH_nb (h := tkO (upd (upd (upd (clrF (bN f * 10) (bN f * 10 + 10) (gF f z 1)) (bN f * 10 + 0) a) (bN f * 10 + 1) b) (bN f * 10 + 2) y) (bN f) 0) hR h9 (fun q hq => by
        obtain ⟨v0, v1, v2, v3⟩ := adb_v (f := f) (a := a) (b := b) (c := y) h9
        have v9 : adbF f (bN f) a b y (24 + 10 * bN f + 3) = 0 := adbF_c h9 (by omega) (by omega)
        rcases c10 hq with e | e | e | e | e | e | e | e | e | e <;> subst e
        · rw [tkO_n (by omega) (by omega) (by omega) (by omega), pk_un (by omega), pk_un (by omega), pk_us, nv_o (by omega), v0]
        · rw [tkO_n (by omega) (by omega) (by omega) (by omega), pk_un (by omega), pk_us, nv_o (by omega), v1]
        · rw [tkO_n (by omega) (by omega) (by omega) (by omega), pk_us, nv_o (by omega), v2]
        · rw [tkO_3, nv_o (by omega), v9]
        · rw [tkO_4, nv4n (by rw [v9]; decide)]
        · rw [tkO_5, nv5n (by rw [v9]; decide)]
        · rw [tkO_n (by omega) (by omega) (by omega) (by omega), pk_un (by omega), pk_un (by omega), pk_un (by omega), nv_o (by omega), adbF_c h9 (by omega) (by omega)]; exact if_pos (by omega)
        · rw [tkO_7, nv7n (by rw [v9]; decide)]
        · rw [tkO_n (by omega) (by omega) (by omega) (by omega), pk_un (by omega), pk_un (by omega), pk_un (by omega), nv_o (by omega), adbF_c h9 (by omega) (by omega)]; exact if_pos (by omega)
        · rw [tkO_n (by omega) (by omega) (by omega) (by omega), pk_un (by omega), pk_un (by omega), pk_un (by omega), nv_o (by omega), adbF_c h9 (by omega) (by omega)]; exact if_pos (by omega)) (fun j hj => by
        rw [tkO_n (by omega) (by omega) (by omega) (by omega), pk_un (by omega), pk_un (by omega), pk_un (by omega), clrF_n (by omega)])) (Or.inl rfl)
theorem ln1_v {f : Nat → Int32} {nb : Nat} (h : cntS f nb 1 + cntS f nb 2 = 0) : ln1 f nb 149 = f 149 + 1 ∧ ln1 f nb 150 = 1 := by
  unfold ln1; rw [if_pos h]
  exact ⟨by rw [pk_un (by omega), pk_un (by omega), pk_us], by rw [pk_un (by omega), pk_us]⟩
theorem lnF_v {f : Nat → Int32} {nb b : Nat} {g : Int32} : lnF f nb b g (24 + 10 * b + 3) = 1 ∧ lnF f nb b g (24 + 10 * b + 4) = g ∧ lnF f nb b g (24 + 10 * b + 5) = 0 ∧ lnF f nb b g (24 + 10 * b + 6) = 0 := by
  unfold lnF
  exact ⟨by rw [pk_un (by omega), pk_un (by omega), pk_un (by omega), pk_us], by rw [pk_un (by omega), pk_un (by omega), pk_us], by rw [pk_un (by omega), pk_us], pk_us⟩
theorem TH_ln {w : Wt} {hs : Hs} {k : Nat} {f : Nat → Int32} {x : Int32} {z : Nat → Nat → Int32} {b g : Nat} {s' : Nat → Int32} (hR : RIs f) (hb : b < bN f) (hs0 : f (24 + 10 * b + 3) = 0) (e0 : s' 0 = f 154 ∧ s' 1 = f 155 ∧ s' 2 = f 156 ∧ s' 3 = f 148 ∧ s' 6 = x) (e4 : s' 4 = ln1 f (bN f) 149) (e5 : s' 5 = ln1 f (bN f) 150) : TT w hs k s' (upA (gF f z) 1 (upd (upd (upd (upd (gF f z 1) (b * 10 + 3) 1) (b * 10 + 4) (nI g)) (b * 10 + 5) 0) (b * 10 + 6) 0)) (rF f) = TH w hs k (lnF f (bN f) b (nI g)) x z := by
  have h9 := hR.2.2.1
  have h6 := hR.1.2.1
  obtain ⟨v3, v4, v5, v6⟩ := lnF_v (f := f) (nb := bN f) (b := b) (g := nI g)
  have E : ∀ j, j ≠ 149 → j ≠ 150 → j ≠ 153 → (j < 24 + 10 * b + 3 ∨ 24 + 10 * b + 6 < j) → lnF f (bN f) b (nI g) j = f j := fun j => lnF_n
  have L : ∀ j, (j < 24 + 10 * b + 3 ∨ 24 + 10 * b + 6 < j) → lnF f (bN f) b (nI g) j = ln1 f (bN f) j := fun j q => by unfold lnF; rw [pk_un (by omega), pk_un (by omega), pk_un (by omega), pk_un (by omega)]
  have e6 : gN (lnF f (bN f) b (nI g)) = gN f := gN_e (E _ (by omega) (by omega) (by omega) (by omega))
  have e7 : bN (lnF f (bN f) b (nI g)) = bN f := bN_e (E _ (by omega) (by omega) (by omega) (by omega))
  refine TH_of ⟨e0.1.trans (E _ (by omega) (by omega) (by omega) (by omega)).symm, e0.2.1.trans (E _ (by omega) (by omega) (by omega) (by omega)).symm, e0.2.2.1.trans (E _ (by omega) (by omega) (by omega) (by omega)).symm, e0.2.2.2.1.trans (E _ (by omega) (by omega) (by omega) (by omega)).symm, e4.trans (L _ (by omega)).symm, e5.trans (L _ (by omega)).symm, e0.2.2.2.2⟩ ⟨e6.symm, e7.symm, rfl⟩ ⟨fun j hj => ?_, fun j hj => ?_⟩ ⟨fun b' c hb' hc => ?_, fun j hj => ?_⟩ ⟨fun j hj => ?_, fun j hj => gF_2n hj⟩
  · exact (gF_0 (by omega)).trans (E _ (by omega) (by omega) (by omega) (by omega)).symm
  · exact gF_0n (by omega)
  · show upd (upd (upd (upd (gF f z 1) (b * 10 + 3) 1) (b * 10 + 4) (nI g)) (b * 10 + 5) 0) (b * 10 + 6) 0 (b' * 10 + c) = _
    rw [e7] at hb'
    by_cases e : b' = b
    · subst e
      rcases c10 hc with e | e | e | e | e | e | e | e | e | e <;> subst e
      · rw [pk_un (by omega), pk_un (by omega), pk_un (by omega), pk_un (by omega), gF_1 hb (by omega), nv_o (by omega), nv_o (by omega), E _ (by omega) (by omega) (by omega) (by omega)]
      · rw [pk_un (by omega), pk_un (by omega), pk_un (by omega), pk_un (by omega), gF_1 hb (by omega), nv_o (by omega), nv_o (by omega), E _ (by omega) (by omega) (by omega) (by omega)]
      · rw [pk_un (by omega), pk_un (by omega), pk_un (by omega), pk_un (by omega), gF_1 hb (by omega), nv_o (by omega), nv_o (by omega), E _ (by omega) (by omega) (by omega) (by omega)]
      · rw [pk_un (by omega), pk_un (by omega), pk_un (by omega), pk_us, nv_o (by omega), v3]
      · rw [pk_un (by omega), pk_un (by omega), pk_us, nv4 (Or.inl v3), v4]
      · rw [pk_un (by omega), pk_us, nv5 (Or.inl v3), v5]
      · rw [pk_us, nv_o (by omega), v6]
      · rw [pk_un (by omega), pk_un (by omega), pk_un (by omega), pk_un (by omega), gF_1 hb (by omega), nv7n (by rw [hs0]; decide), nv7n (by rw [v3]; decide)]
      · rw [pk_un (by omega), pk_un (by omega), pk_un (by omega), pk_un (by omega), gF_1 hb (by omega), nv_o (by omega), nv_o (by omega), E _ (by omega) (by omega) (by omega) (by omega)]
      · rw [pk_un (by omega), pk_un (by omega), pk_un (by omega), pk_un (by omega), gF_1 hb (by omega), nv_o (by omega), nv_o (by omega), E _ (by omega) (by omega) (by omega) (by omega)]
    · rw [pk_un (by omega), pk_un (by omega), pk_un (by omega), pk_un (by omega), gF_1 hb' hc]
      exact (nv_e (fun c hc => E _ (by omega) (by omega) (by omega) (by omega)) hc).symm
  · show upd (upd (upd (upd (gF f z 1) (b * 10 + 3) 1) (b * 10 + 4) (nI g)) (b * 10 + 5) 0) (b * 10 + 6) 0 j = _
    rw [e7] at hj
    rw [pk_un (by omega), pk_un (by omega), pk_un (by omega), pk_un (by omega)]
    exact gF_1n hj
  · exact (gF_2 hj).trans (E _ (by omega) (by omega) (by omega) (by omega)).symm
theorem cz2 {f : Nat → Int32} {nb : Nat} {x : Int32} (h9 : nb ≤ 11) (h : nI (cntN (fun b => decide (f (24 + 10 * b + 3) = x)) nb) = 0) : cntS f nb x = 0 := cnz (cntN_le _ _) h (by omega)
theorem cz3 {f : Nat → Int32} {nb : Nat} {x : Int32} (h : ¬ nI (cntN (fun b => decide (f (24 + 10 * b + 3) = x)) nb) = 0) : cntS f nb x ≠ 0 := fun q => h (show nI (cntS f nb x) = 0 by rw [q]; rfl)
set_option maxHeartbeats 4000000 in
set_option maxRecDepth 100000 in
theorem t_launch {l : Launch} {w : Wt} {hs : Hs} {n : Option Nat} {k : Nat} {f : Nat → Int32} {x : Int32} {z : Nat → Nat → Int32} (hR : RIs f) {b g : Nat} (hb : b < bN f) (hg : g < gN f) (hs0 : f (24 + 10 * b + 3) = 0) : Cn l w mX4_launchBoat 0 0 [.ref (wB w + k), .int (nI b), .int (nI g)] (TH w hs k f x z) n (TH w hs k (lnF f (bN f) b (nI g)) x z) n (some (.int (drn f 6 0 g 0))) := by
  have h9 := hR.2.2.1
  have h6 := hR.1.2.1
  have hR2 : RIs (lnF f (bN f) b (nI g)) := RIs.of (RI_lnF hR hb hg hs0)
  have hg2 : g < gN (lnF f (bN f) b (nI g)) := by rw [gN_e (lnF_n (by omega) (by omega) (by omega) (by omega))]; exact hg
  refine Cn.of (d := mX4_launchBoat) (by decide +kernel) (Nat.le_of_ble_eq_true rfl) ?_
  intro p e R s m args below meth c CX
  replace CX : Ctx p s m args meth c R w RX4 "launchBoat" cX4_launchBoat 3 (some .int) 2 49 0 0 := CX
  show ZW p l e R s m args below meth c w 3 _ _ 0 0 (MQ below (Qn w _ _ _) args s 0 0 (wA w)) 0 [(0, .ref (wB w + k)), (1, .int _), (2, .int _)] []
  have TL : ∀ (s' : Nat → Int32), (s' 0 = f 154 ∧ s' 1 = f 155 ∧ s' 2 = f 156 ∧ s' 3 = f 148 ∧ s' 6 = x) → s' 4 = ln1 f (bN f) 149 → s' 5 = ln1 f (bN f) 150 → ZW p l e R s m args below meth c w 3 (TT w hs k s' (gF f z) (rF f)) n 0 0 (MQ below (Qn w (TH w hs k (lnF f (bN f) b (nI g)) x z) n (some (.int (drn f 6 0 g 0)))) args s 0 0 (wA w)) 39 [(0, .ref (wB w + k)), (1, .int (nI b)), (2, .int (nI g))] [] := by
    intro s' e0 e4 e5
    refine z_aload_n CX 0 dX4_launchBoat_39 rfl rfl ?_
    refine z_get CX dX4_launchBoat_40 fg_X4_20 to_0 rfl ?_
    refine z_iload_n CX 1 dX4_launchBoat_43 rfl rfl ?_
    refine z_iconst CX (v := 3) dX4_launchBoat_44 (by decide) ?_
    refine z_iconst CX (v := 1) dX4_launchBoat_45 (by decide) ?_
    refine z_callV0 CX dX4_launchBoat_46 cv_X4_37 (tB_put (show bN f ≤ 11 from h9) (b := b) (c := 3) hb (by omega) _) to_3 rfl rfl (Nat.le_of_ble_eq_true rfl) ⟨Nat.le_of_ble_eq_true rfl, Nat.le_of_ble_eq_true rfl⟩ ⟨Nat.le_refl _, Nat.le_refl _⟩ ?_
    refine z_aload_n CX 0 dX4_launchBoat_49 rfl rfl ?_
    refine z_get CX dX4_launchBoat_50 fg_X4_20 to_0 rfl ?_
    refine z_iload_n CX 1 dX4_launchBoat_53 rfl rfl ?_
    refine z_iconst CX (v := 4) dX4_launchBoat_54 (by decide) ?_
    refine z_iload_n CX 2 dX4_launchBoat_55 rfl rfl ?_
    refine z_callV0 CX dX4_launchBoat_56 cv_X4_37 (tB_put (show bN f ≤ 11 from h9) (b := b) (c := 4) hb (by omega) _) to_3 rfl rfl (Nat.le_of_ble_eq_true rfl) ⟨Nat.le_of_ble_eq_true rfl, Nat.le_of_ble_eq_true rfl⟩ ⟨Nat.le_refl _, Nat.le_refl _⟩ ?_
    refine z_heap (congrArg (fun z => TT _ _ _ _ z _) upA_up) ?_
    refine z_aload_n CX 0 dX4_launchBoat_59 rfl rfl ?_
    refine z_get CX dX4_launchBoat_60 fg_X4_20 to_0 rfl ?_
    refine z_iload_n CX 1 dX4_launchBoat_63 rfl rfl ?_
    refine z_iconst CX (v := 5) dX4_launchBoat_64 (by decide) ?_
    refine z_iconst CX (v := 0) dX4_launchBoat_65 (by decide) ?_
    refine z_callV0 CX dX4_launchBoat_66 cv_X4_37 (tB_put (show bN f ≤ 11 from h9) (b := b) (c := 5) hb (by omega) _) to_3 rfl rfl (Nat.le_of_ble_eq_true rfl) ⟨Nat.le_of_ble_eq_true rfl, Nat.le_of_ble_eq_true rfl⟩ ⟨Nat.le_refl _, Nat.le_refl _⟩ ?_
    refine z_heap (congrArg (fun z => TT _ _ _ _ z _) upA_up) ?_
    refine z_aload_n CX 0 dX4_launchBoat_69 rfl rfl ?_
    refine z_get CX dX4_launchBoat_70 fg_X4_20 to_0 rfl ?_
    refine z_iload_n CX 1 dX4_launchBoat_73 rfl rfl ?_
    refine z_bipush CX (v := 6) dX4_launchBoat_74 (by decide) ?_
    refine z_iconst CX (v := 0) dX4_launchBoat_76 (by decide) ?_
    refine z_callV0 CX dX4_launchBoat_77 cv_X4_37 (tB_put (show bN f ≤ 11 from h9) (b := b) (c := 6) hb (by omega) _) to_3 rfl rfl (Nat.le_of_ble_eq_true rfl) ⟨Nat.le_of_ble_eq_true rfl, Nat.le_of_ble_eq_true rfl⟩ ⟨Nat.le_refl _, Nat.le_refl _⟩ ?_
    refine z_heap (congrArg (fun z => TT _ _ _ _ z _) upA_up) ?_
    refine z_heap (TH_ln hR hb hs0 e0 e4 e5) ?_
    refine z_aload_n CX 0 dX4_launchBoat_80 rfl rfl ?_
    refine z_iload_n CX 2 dX4_launchBoat_81 rfl rfl ?_
    refine z_iconst CX (v := 0) dX4_launchBoat_82 (by decide) ?_
    refine z_callV1 CX dX4_launchBoat_83 cv_X4_139 (t_wayG hR2 hg2 0) to_0 rfl rfl (Nat.le_of_ble_eq_true rfl) ⟨Nat.le_of_ble_eq_true rfl, Nat.le_of_ble_eq_true rfl⟩ ⟨Nat.le_refl _, Nat.le_refl _⟩ ?_
    exact z_iret CX dX4_launchBoat_86 rfl (congrArg Value.int (drn_ln hR.1 hg).symm) rfl (Or.inl rfl)
  refine z_aload_n CX 0 dX4_launchBoat_0 rfl rfl ?_
  refine z_get CX dX4_launchBoat_1 fg_X4_20 to_0 rfl ?_
  refine z_iconst CX (v := 3) dX4_launchBoat_4 (by decide) ?_
  refine z_iconst CX (v := 1) dX4_launchBoat_5 (by decide) ?_
  refine z_callV1 CX dX4_launchBoat_6 cv_X4_136 (hB_cnt hR (c := 3) (by omega) (by decide) 1) to_3 rfl rfl (Nat.le_of_ble_eq_true rfl) ⟨Nat.le_of_ble_eq_true rfl, Nat.le_of_ble_eq_true rfl⟩ ⟨Nat.le_refl _, Nat.le_refl _⟩ ?_
  refine z_if_ne CX 39 dX4_launchBoat_9 (by decide) (fun c_9 => ?_) (fun c_9 => ?_)
  · skip
    exact TL _ ⟨rfl, rfl, rfl, rfl, rfl⟩ (show f 149 = _ by unfold ln1; rw [if_neg (fun q => cz3 c_9 (by omega))]) (show f 150 = _ by unfold ln1; rw [if_neg (fun q => cz3 c_9 (by omega))])
  · skip
    refine z_aload_n CX 0 dX4_launchBoat_12 rfl rfl ?_
    refine z_get CX dX4_launchBoat_13 fg_X4_20 to_0 rfl ?_
    refine z_iconst CX (v := 3) dX4_launchBoat_16 (by decide) ?_
    refine z_iconst CX (v := 2) dX4_launchBoat_17 (by decide) ?_
    refine z_callV1 CX dX4_launchBoat_18 cv_X4_136 (hB_cnt hR (c := 3) (by omega) (by decide) 2) to_3 rfl rfl (Nat.le_of_ble_eq_true rfl) ⟨Nat.le_of_ble_eq_true rfl, Nat.le_of_ble_eq_true rfl⟩ ⟨Nat.le_refl _, Nat.le_refl _⟩ ?_
    refine z_if_ne CX 39 dX4_launchBoat_21 (by decide) (fun c_21 => ?_) (fun c_21 => ?_)
    · skip
      exact TL _ ⟨rfl, rfl, rfl, rfl, rfl⟩ (show f 149 = _ by unfold ln1; rw [if_neg (fun q => cz3 c_21 (by omega))]) (show f 150 = _ by unfold ln1; rw [if_neg (fun q => cz3 c_21 (by omega))])
    · skip
      refine z_aload_n CX 0 dX4_launchBoat_24 rfl rfl ?_
      refine z_dup CX dX4_launchBoat_25 rfl ?_
      refine z_get CX dX4_launchBoat_26 fg_X4_53 to_0 rfl ?_
      refine z_iconst CX (v := 1) dX4_launchBoat_29 (by decide) ?_
      refine z_iadd CX dX4_launchBoat_30 ?_
      refine z_put CX dX4_launchBoat_31 fg_X4_53 fp_X4_7 to_0 (Nat.le_of_ble_eq_true rfl) rfl rfl ?_
      refine z_heap to_f4 ?_
      refine z_aload_n CX 0 dX4_launchBoat_34 rfl rfl ?_
      refine z_iconst CX (v := 1) dX4_launchBoat_35 (by decide) ?_
      refine z_put CX dX4_launchBoat_36 fg_X4_56 fp_X4_8 to_0 (Nat.le_of_ble_eq_true rfl) rfl rfl ?_
      refine z_heap to_f5 ?_
      have z9 : cntS f (bN f) 1 + cntS f (bN f) 2 = 0 := by rw [cz2 h9 c_9, cz2 h9 c_21]
      exact TL _ ⟨rfl, rfl, rfl, rfl, rfl⟩ (ln1_v z9).1.symm (ln1_v z9).2.symm
theorem TH_tk {w : Wt} {hs : Hs} {k : Nat} {f : Nat → Int32} {x : Int32} {z : Nat → Nat → Int32} {o b : Nat} (hR : RIs f) (ho : o < 4) (hb : b < bN f) (hw : whyF f o b = 0) : TT w hs k (sF f x) (upA (upA (gF f z) 2 (upd (gF f z 2) (o * 3 + 0) (gF f z 2 (o * 3 + 0) + f (24 + 10 * b + 0)))) 1 (tkO (gF f z 1) b 4)) (rF f) = TH w hs k (clmF f o b) x z := by
  have h9 := hR.2.2.1
  have h6 := hR.1.2.1
  have v3 : clmF f o b (24 + 10 * b + 3) = 4 := (clmF_3 (by omega)).trans (if_pos hw)
  have vo : clmF f o b (134 + 3 * o) = f (134 + 3 * o) + f (24 + 10 * b + 0) := by unfold clmF; rw [if_pos hw, pk_us]
  have E : ∀ j, j ≠ 24 + 10 * b + 3 → j ≠ 134 + 3 * o → j ≠ 152 → clmF f o b j = f j := fun j => clmF_n
  have e6 : gN (clmF f o b) = gN f := gN_e (E _ (by omega) (by omega) (by omega))
  have e7 : bN (clmF f o b) = bN f := bN_e (E _ (by omega) (by omega) (by omega))
  refine TH_of ⟨(E _ (by omega) (by omega) (by omega)).symm, (E _ (by omega) (by omega) (by omega)).symm, (E _ (by omega) (by omega) (by omega)).symm, (E _ (by omega) (by omega) (by omega)).symm, (E _ (by omega) (by omega) (by omega)).symm, (E _ (by omega) (by omega) (by omega)).symm, rfl⟩ ⟨e6.symm, e7.symm, rfl⟩ ⟨fun j hj => ?_, fun j hj => ?_⟩ ⟨fun b' c hb' hc => ?_, fun j hj => ?_⟩ ⟨fun j hj => ?_, fun j hj => ?_⟩
  · exact (gF_0 (by omega)).trans (E _ (by omega) (by omega) (by omega)).symm
  · exact gF_0n (by omega)
  · show tkO (gF f z 1) b 4 (b' * 10 + c) = _
    rw [e7] at hb'
    by_cases e : b' = b
    · subst e
      rcases c10 hc with e | e | e | e | e | e | e | e | e | e <;> subst e
      · rw [tkO_n (by omega) (by omega) (by omega) (by omega), gF_1 hb (by omega), nv_o (by omega), nv_o (by omega), E _ (by omega) (by omega) (by omega)]
      · rw [tkO_n (by omega) (by omega) (by omega) (by omega), gF_1 hb (by omega), nv_o (by omega), nv_o (by omega), E _ (by omega) (by omega) (by omega)]
      · rw [tkO_n (by omega) (by omega) (by omega) (by omega), gF_1 hb (by omega), nv_o (by omega), nv_o (by omega), E _ (by omega) (by omega) (by omega)]
      · rw [tkO_3, nv_o (by omega), v3]
      · rw [tkO_4, nv4n (by rw [v3]; decide)]
      · rw [tkO_5, nv5n (by rw [v3]; decide)]
      · rw [tkO_n (by omega) (by omega) (by omega) (by omega), gF_1 hb (by omega), nv_o (by omega), nv_o (by omega), E _ (by omega) (by omega) (by omega)]
      · rw [tkO_7, nv7n (by rw [v3]; decide)]
      · rw [tkO_n (by omega) (by omega) (by omega) (by omega), gF_1 hb (by omega), nv_o (by omega), nv_o (by omega), E _ (by omega) (by omega) (by omega)]
      · rw [tkO_n (by omega) (by omega) (by omega) (by omega), gF_1 hb (by omega), nv_o (by omega), nv_o (by omega), E _ (by omega) (by omega) (by omega)]
    · rw [tkO_n (by omega) (by omega) (by omega) (by omega), gF_1 hb' hc]
      exact (nv_e (fun c hc => E _ (by omega) (by omega) (by omega)) hc).symm
  · show tkO (gF f z 1) b 4 j = _
    rw [e7] at hj
    rw [tkO_n (by omega) (by omega) (by omega) (by omega)]
    exact gF_1n hj
  · show upd (gF f z 2) (o * 3 + 0) _ j = _
    by_cases e : j = o * 3 + 0
    · subst e
      rw [pk_us, gF_2 (by omega), show 134 + (o * 3 + 0) = 134 + 3 * o by omega, vo]
    · rw [pk_un e, gF_2 hj, E _ (by omega) (by omega) (by omega)]
  · show upd (gF f z 2) (o * 3 + 0) _ j = _
    rw [pk_un (by omega)]; exact gF_2n hj
set_option maxHeartbeats 4000000 in
set_option maxRecDepth 100000 in
theorem t_tkW {l : Launch} {w : Wt} {hs : Hs} {n : Option Nat} {k : Nat} {f : Nat → Int32} {x : Int32} {z : Nat → Nat → Int32} (hR : RIs f) {o b : Nat} (ho : o < 4) (hb : b < bN f) (hw : whyF f o b = 0) : Cn l w mX4_takeWreck 0 0 [.ref (wB w + k), .int (nI o), .int (nI b)] (TH w hs k f x z) n (TH w hs k (clmF f o b) x z) n (some (.int (f (24 + 10 * b + 0)))) := by
  refine Cn.of (d := mX4_takeWreck) (by decide +kernel) (Nat.le_of_ble_eq_true rfl) ?_
  intro p e R s m args below meth c CX
  replace CX : Ctx p s m args meth c R w RX4 "takeWreck" cX4_takeWreck 4 (some .int) 2 47 0 0 := CX
  show ZW p l e R s m args below meth c w 4 _ _ 0 0 (MQ below (Qn w _ _ _) args s 0 0 (wA w)) 0 [(0, .ref (wB w + k)), (1, .int _), (2, .int _)] []
  have h9 := hR.2.2.1
  refine z_aload_n CX 0 dX4_takeWreck_0 rfl rfl ?_
  refine z_get CX dX4_takeWreck_1 fg_X4_20 to_0 rfl ?_
  refine z_iload_n CX 2 dX4_takeWreck_4 rfl rfl ?_
  refine z_iconst CX (v := 0) dX4_takeWreck_5 (by decide) ?_
  refine z_callV1 CX dX4_takeWreck_6 cv_X4_71 (hB_o hR (b := b) (c := 0) (by omega) (by omega) (by decide)) to_3 rfl rfl (Nat.le_of_ble_eq_true rfl) ⟨Nat.le_of_ble_eq_true rfl, Nat.le_of_ble_eq_true rfl⟩ ⟨Nat.le_refl _, Nat.le_refl _⟩ ?_
  refine z_istore_n CX 3 dX4_takeWreck_9 rfl (by decide) ?_
  refine z_aload_n CX 0 dX4_takeWreck_10 rfl rfl ?_
  refine z_get CX dX4_takeWreck_11 fg_X4_23 to_0 rfl ?_
  refine z_iload_n CX 1 dX4_takeWreck_14 rfl rfl ?_
  refine z_iconst CX (v := 0) dX4_takeWreck_15 (by decide) ?_
  refine z_iload_n CX 3 dX4_takeWreck_16 rfl rfl ?_
  refine z_callV0 CX dX4_takeWreck_17 cv_X4_142 (tO_inc (Nat.le_refl 4) (b := o) (c := 0) ho (by omega) _) to_5 rfl rfl (Nat.le_of_ble_eq_true rfl) ⟨Nat.le_of_ble_eq_true rfl, Nat.le_of_ble_eq_true rfl⟩ ⟨Nat.le_refl _, Nat.le_refl _⟩ ?_
  refine z_aload_n CX 0 dX4_takeWreck_20 rfl rfl ?_
  refine z_iload_n CX 2 dX4_takeWreck_21 rfl rfl ?_
  refine z_iconst CX (v := 4) dX4_takeWreck_22 (by decide) ?_
  refine z_callV0 CX dX4_takeWreck_23 cv_X4_133 (t_take (show bN f ≤ 11 from h9) hb _) to_0 rfl rfl (Nat.le_of_ble_eq_true rfl) ⟨Nat.le_of_ble_eq_true rfl, Nat.le_of_ble_eq_true rfl⟩ ⟨Nat.le_refl _, Nat.le_refl _⟩ ?_
  refine z_iload_n CX 3 dX4_takeWreck_26 rfl rfl ?_
  exact z_iret CX dX4_takeWreck_27 rfl rfl (TH_tk hR ho hb hw) (Or.inl rfl)
