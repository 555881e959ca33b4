/-! a shelf's methods -/
set_option maxHeartbeats 4000000 in
set_option maxRecDepth 100000 in
theorem h_holds {l : Launch} {w : Wt} {hs : Hs} {n : Option Nat} {k N : Nat} {b9 : Nat → Int32} {F : Nat → Nat → Int32} {X : Nat → Int32} {Z : Nat → Nat → Nat → Int32} {i : Nat} (hi : i < N) (hN : N ≤ 100) : Cn l w mX1_holds 0 0 [.ref (wB w + k), .int (nI i)] (SH w hs k N b9 F X Z) n (SH w hs k N b9 F X Z) n (some (.int (bI (decide (b9 i ≠ 0))))) := by
  refine Cn.of (d := mX1_holds) (by decide +kernel) (Nat.le_of_ble_eq_true rfl) ?_
  intro p e R s m args below meth c CX
  replace CX : Ctx p s m args meth c R w RX1 "holds" cX1_holds 2 (some .boolean) 0 0 0 0 := CX
  show ZW p l e R s m args below meth c w 2 _ _ 0 0 (MQ below (Qn w _ _ _) args s 0 0 (wA w)) 0 [(0, .ref (wB w + k)), (1, .int _)] []
  refine z_iload_n CX 1 dX1_holds_0 rfl rfl ?_
  refine z_if_lt CX 26 dX1_holds_1 (by decide) (fun q9 => absurd q9 (Int32.not_lt.mpr (nI_le (a := 0) (Nat.zero_le _) (by omega)))) (fun _ => ?_)
  refine z_iload_n CX 1 dX1_holds_4 rfl rfl ?_
  refine z_aload_n CX 0 dX1_holds_5 rfl rfl ?_
  refine z_get CX dX1_holds_6 fg_X1_21 sh_0 rfl ?_
  refine z_alen CX 1 dX1_holds_9 sh_2 rfl rfl ?_
  refine z_icmp_ge CX 26 dX1_holds_10 (by decide) (fun q9 => absurd q9 (nI_ge (b := N) hi (by omega))) (fun _ => ?_)
  refine z_aload_n CX 0 dX1_holds_13 rfl rfl ?_
  refine z_get CX dX1_holds_14 fg_X1_21 sh_0 rfl ?_
  refine z_iload_n CX 1 dX1_holds_17 rfl rfl ?_
  refine z_zald CX dX1_holds_18 sh_2 (vp_in_nI hi (by omega)) (by rw [nI_clamp (by omega)]) ?_
  refine z_if_eq CX 26 dX1_holds_19 (by decide) (fun c_19 => ?_) (fun c_19 => ?_)
  · skip
    refine z_iconst CX (v := 0) dX1_holds_26 (by decide) ?_
    exact z_zret CX dX1_holds_27 rfl (by first | rfl | exact bI_nar _) (congrArg Value.int (by rw [decide_eq_false (fun q => q c_19)]; rfl)) rfl (Or.inl rfl)
  · skip
    refine z_iconst CX (v := 1) dX1_holds_22 (by decide) ?_
    refine z_goto CX 27 dX1_holds_23 (by decide) ?_
    exact z_zret CX dX1_holds_27 rfl (by first | rfl | exact bI_nar _) (congrArg Value.int (by rw [decide_eq_true c_19]; rfl)) rfl (Or.inl rfl)
set_option maxHeartbeats 4000000 in
set_option maxRecDepth 100000 in
theorem h_kept {l : Launch} {w : Wt} {hs : Hs} {n : Option Nat} {k N : Nat} {b9 : Nat → Int32} {F : Nat → Nat → Int32} {X : Nat → Int32} {Z : Nat → Nat → Nat → Int32} {i : Nat} (hi : i < N) (hN : N ≤ 100) : Cn l w mX1_keptAt 0 0 [.ref (wB w + k), .int (nI i)] (SH w hs k N b9 F X Z) n (SH w hs k N b9 F X Z) n (some (.ref (wB w + (k + 3 + 7 * i)))) := by
  refine Cn.of (d := mX1_keptAt) (by decide +kernel) (Nat.le_of_ble_eq_true rfl) ?_
  intro p e R s m args below meth c CX
  replace CX : Ctx p s m args meth c R w RX1 "keptAt" cX1_keptAt 2 (some (.object "GutterBoats$Tournament")) 0 0 0 0 := CX
  show ZW p l e R s m args below meth c w 2 _ _ 0 0 (MQ below (Qn w _ _ _) args s 0 0 (wA w)) 0 [(0, .ref (wB w + k)), (1, .int _)] []
  refine z_iload_n CX 1 dX1_keptAt_0 rfl rfl ?_
  refine z_if_lt CX 22 dX1_keptAt_1 (by decide) (fun q9 => absurd q9 (Int32.not_lt.mpr (nI_le (a := 0) (Nat.zero_le _) (by omega)))) (fun _ => ?_)
  refine z_iload_n CX 1 dX1_keptAt_4 rfl rfl ?_
  refine z_aload_n CX 0 dX1_keptAt_5 rfl rfl ?_
  refine z_get CX dX1_keptAt_6 fg_X1_15 sh_0 rfl ?_
  refine z_alen CX 3 dX1_keptAt_9 sh_1 rfl rfl ?_
  refine z_icmp_ge CX 22 dX1_keptAt_10 (by decide) (fun q9 => absurd q9 (nI_ge (b := N) hi (by omega))) (fun _ => ?_)
  refine z_aload_n CX 0 dX1_keptAt_13 rfl rfl ?_
  refine z_get CX dX1_keptAt_14 fg_X1_15 sh_0 rfl ?_
  refine z_iload_n CX 1 dX1_keptAt_17 rfl rfl ?_
  refine z_aald CX dX1_keptAt_18 sh_1 (vp_in_nI hi (by omega)) (by rw [nI_clamp (by omega), if_pos hi]) ?_
  refine z_goto CX 23 dX1_keptAt_19 (by decide) ?_
  exact z_aret CX dX1_keptAt_23 rfl (Or.inl ⟨_, rfl⟩) rfl rfl (Or.inl rfl)
theorem h_copy {l : Launch} {w : Wt} {hs : Hs} {n : Option Nat} {k N : Nat} {b9 : Nat → Int32} {F : Nat → Nat → Int32} {X : Nat → Int32} {Z : Nat → Nat → Nat → Int32} {i k2 : Nat} {f x9 : Nat → Int32} {x : Int32} {z : Nat → Nat → Int32} (hi : i < N) (hd : k2 + 7 ≤ k ∨ k + 3 + 7 * N ≤ k2) (h5 : f 150 = 0 ∨ f 150 = 1) (h2 : ∀ c, c < 7 → hs (k2 + c) = some (tcell w k2 (sF f x) (gF f z) (rF f) c)) : Cn l w mX4_copyFrom 0 0 [.ref (wB w + (k + 3 + 7 * i)), .ref (wB w + k2)] (SH w hs k N b9 F X Z) n (SH w hs k N b9 (fun q => if q = i then f else F q) (fun q => if q = i then x else X q) (fun q => if q = i then z else Z q)) n none := by
  have h : Cn l w mX4_copyFrom 0 0 [.ref (wB w + (k + 3 + 7 * i)), .ref (wB w + k2)] (TH w (SH w hs k N b9 F X Z) (k + 3 + 7 * i) (F i) (X i) (Z i)) n (TH w (SH w hs k N b9 F X Z) (k + 3 + 7 * i) f x z) n none := t_copy (by omega) h5 (fun c hc => (sh_n (by omega)).trans (h2 c hc))
  rw [sh_S hi, sh_T hi] at h
  exact h
set_option maxHeartbeats 4000000 in
set_option maxRecDepth 100000 in
theorem h_put {l : Launch} {w : Wt} {hs : Hs} {n : Option Nat} {k N : Nat} {b9 : Nat → Int32} {F : Nat → Nat → Int32} {X : Nat → Int32} {Z : Nat → Nat → Nat → Int32} {i : Nat} (hi : i < N) (hN : N ≤ 100) {k2 : Nat} {f : Nat → Int32} {x : Int32} {z : Nat → Nat → Int32} (hd : k2 + 7 ≤ k ∨ k + 3 + 7 * N ≤ k2) (h5 : f 150 = 0 ∨ f 150 = 1) (h2 : ∀ c, c < 7 → hs (k2 + c) = some (tcell w k2 (sF f x) (gF f z) (rF f) c)) : Cn l w mX1_put 0 0 [.ref (wB w + k), .int (nI i), .ref (wB w + k2)] (SH w hs k N b9 F X Z) n (SH w hs k N (upd b9 i 1) (fun q => if q = i then f else F q) (fun q => if q = i then x else X q) (fun q => if q = i then z else Z q)) n none := by
  refine Cn.of (d := mX1_put) (by decide +kernel) (Nat.le_of_ble_eq_true rfl) ?_
  intro p e R s m args below meth c CX
  replace CX : Ctx p s m args meth c R w RX1 "put" cX1_put 4 none 3 86 0 0 := CX
  show ZW p l e R s m args below meth c w 4 _ _ 0 0 (MQ below (Qn w _ _ _) args s 0 0 (wA w)) 0 [(0, .ref (wB w + k)), (1, .int _), (2, .ref _)] []
  refine z_aload_n CX 0 dX1_put_0 rfl rfl ?_
  refine z_iload_n CX 1 dX1_put_1 rfl rfl ?_
  refine z_callV1 CX dX1_put_2 cv_X1_26 (h_kept hi hN) sh_0 rfl rfl (Nat.le_of_ble_eq_true rfl) ⟨Nat.le_of_ble_eq_true rfl, Nat.le_of_ble_eq_true rfl⟩ ⟨Nat.le_refl _, Nat.le_refl _⟩ ?_
  refine z_astore_n CX 3 dX1_put_5 rfl (by decide) ?_
  refine z_aload_n CX 3 dX1_put_6 rfl rfl ?_
  refine z_ifnull CX dX1_put_7 ?_
  refine z_iload_n CX 1 dX1_put_10 rfl rfl ?_
  refine z_if_lt CX 35 dX1_put_11 (by decide) (fun q9 => absurd q9 (Int32.not_lt.mpr (nI_le (a := 0) (Nat.zero_le _) (by omega)))) (fun _ => ?_)
  refine z_iload_n CX 1 dX1_put_14 rfl rfl ?_
  refine z_aload_n CX 0 dX1_put_15 rfl rfl ?_
  refine z_get CX dX1_put_16 fg_X1_21 sh_0 rfl ?_
  refine z_alen CX 1 dX1_put_19 sh_2 rfl rfl ?_
  refine z_icmp_ge CX 35 dX1_put_20 (by decide) (fun q9 => absurd q9 (nI_ge (b := N) hi (by omega))) (fun _ => ?_)
  refine z_aload_n CX 3 dX1_put_23 rfl rfl ?_
  refine z_aload_n CX 2 dX1_put_24 rfl rfl ?_
  refine z_callV0 CX dX1_put_25 cv_X1_30 (h_copy (x9 := f) hi hd h5 h2) ((sh_t (c := 0) hi (by omega))) rfl rfl (Nat.le_of_ble_eq_true rfl) ⟨Nat.le_of_ble_eq_true rfl, Nat.le_of_ble_eq_true rfl⟩ ⟨Nat.le_refl _, Nat.le_refl _⟩ ?_
  refine z_aload_n CX 0 dX1_put_28 rfl rfl ?_
  refine z_get CX dX1_put_29 fg_X1_21 sh_0 rfl ?_
  refine z_iload_n CX 1 dX1_put_32 rfl rfl ?_
  refine z_iconst CX (v := 1) dX1_put_33 (by decide) ?_
  refine z_zast CX dX1_put_34 sh_2 (vp_in_nI hi (by omega)) rfl ?_
  refine z_heap (show _ = SH w hs k N (upd b9 i 1) (fun q => if q = i then f else F q) (fun q => if q = i then x else X q) (fun q => if q = i then z else Z q) from by rw [nI_clamp (by omega)]; exact sh_b) ?_
  exact z_vret CX dX1_put_35 rfl rfl (Or.inl rfl)
/-- a tournament taken from a shelf -/
theorem h_take {l : Launch} {w : Wt} {hs : Hs} {n : Option Nat} {k N : Nat} {b9 : Nat → Int32} {F : Nat → Nat → Int32} {X : Nat → Int32} {Z : Nat → Nat → Nat → Int32} {i k2 : Nat} {s9 : Nat → Int32} {g9 : Nat → Nat → Int32} {r9 : Nat → Nat} (hi : i < N) (hd : k2 + 7 ≤ k ∨ k + 3 + 7 * N ≤ k2) (h5 : F i 150 = 0 ∨ F i 150 = 1) : Cn l w mX4_copyFrom 0 0 [.ref (wB w + k2), .ref (wB w + (k + 3 + 7 * i))] (TT w (SH w hs k N b9 F X Z) k2 s9 g9 r9) n (TH w (SH w hs k N b9 F X Z) k2 (F i) (X i) (Z i)) n none := t_copy (by omega) h5 (fun c hc => sh_t hi hc)
