/-! a history: remembering, taking back -/
theorem mn14 {q : Nat} (h : q ≤ 14) : (if (14 : Int32) < nI q + 1 then 14 else nI q + 1) = nI (min (q + 1) 14) := (by decide : ∀ q, q ≤ 14 → (if (14 : Int32) < nI q + 1 then 14 else nI q + 1) = nI (min (q + 1) 14)) q h
theorem nx14 {a : Nat} (h : a < 14) : nI a + 1 - (nI a + 1) / 14 * 14 = nI ((a + 1) % 14) := (by decide : ∀ a, a < 14 → nI a + 1 - (nI a + 1) / 14 * 14 = nI ((a + 1) % 14)) a h
theorem pv14 {a : Nat} (h : a < 14) : nI a + 14 - 1 - (nI a + 14 - 1) / 14 * 14 = nI ((a + 13) % 14) := (by decide : ∀ a, a < 14 → nI a + 14 - 1 - (nI a + 14 - 1) / 14 * 14 = nI ((a + 13) % 14)) a h
theorem tt_up {w : Wt} {hs : Hs} {k k2 : Nat} {v : va_E} {s : Nat → Int32} {g : Nat → Nat → Int32} {r : Nat → Nat} (h : k < k2 ∨ k2 + 7 ≤ k) : upH (TT w hs k2 s g r) k v = TT w (upH hs k v) k2 s g r := by
  funext j; unfold upH TT
  by_cases h1 : j = k
  · rw [if_pos h1, if_neg (by omega)]
    exact (if_pos h1).symm
  · rw [if_neg h1]
    simp only [if_neg h1]
theorem hi_tt {w : Wt} {hs : Hs} {k k2 : Nat} {a c : Int32} {b : Nat → Int32} {F : Nat → Nat → Int32} {X : Nat → Int32} {Z : Nat → Nat → Nat → Int32} {s : Nat → Int32} {g : Nat → Nat → Int32} {r : Nat → Nat} (h : k < k2 ∨ k2 + 7 ≤ k) : HI w (TT w hs k2 s g r) k a c b F X Z = SH w (TT w (upH hs k (.inr (0, [.ref (wB w + (k + 1)), .int a, .int c]))) k2 s g r) (k + 1) 14 b F X Z := by unfold HI; rw [tt_up h]
set_option maxHeartbeats 4000000 in
set_option maxRecDepth 100000 in
theorem y_rem {l : Launch} {w : Wt} {hs : Hs} {n : Option Nat} {k : Nat} {b9 : Nat → Int32} {F : Nat → Nat → Int32} {X : Nat → Int32} {Z : Nat → Nat → Nat → Int32} {a ct k2 : Nat} {f : Nat → Int32} {x : Int32} {z : Nat → Nat → Int32} (ha : a < 14) (hct : ct ≤ 14) (hd : k2 + 7 ≤ k ∨ k + 102 ≤ k2) (h5 : f 150 = 0 ∨ f 150 = 1) (h2 : ∀ j, j < 7 → hs (k2 + j) = some (tcell w k2 (sF f x) (gF f z) (rF f) j)) : Cn l w mX0_remember 0 0 [.ref (wB w + k), .ref (wB w + k2)] (HI w hs k (nI a) (nI ct) b9 F X Z) n (HI w hs k (nI ((a + 1) % 14)) (nI (min (ct + 1) 14)) (upd b9 a 1) (fun q => if q = a then f else F q) (fun q => if q = a then x else X q) (fun q => if q = a then z else Z q)) n none := by
  refine Cn.of (d := mX0_remember) (by decide +kernel) (Nat.le_of_ble_eq_true rfl) ?_
  intro p e R s m args below meth c CX
  replace CX : Ctx p s m args meth c R w RX0 "remember" cX0_remember 2 none 4 109 0 0 := CX
  show ZW p l e R s m args below meth c w 2 _ _ 0 0 (MQ below (Qn w _ _ _) args s 0 0 (wA w)) 0 [(0, .ref (wB w + k)), (1, .ref (wB w + k2))] []
  refine z_aload_n CX 0 dX0_remember_0 rfl rfl ?_
  refine z_get CX dX0_remember_1 fg_X0_14 hi_0 rfl ?_
  refine z_aload_n CX 0 dX0_remember_4 rfl rfl ?_
  refine z_get CX dX0_remember_5 fg_X0_20 hi_0 rfl ?_
  refine z_aload_n CX 1 dX0_remember_8 rfl rfl ?_
  refine z_callV0 CX dX0_remember_9 cv_X0_24 (h_put (i := a) ha (by omega) (by omega) h5 (fun j hj => (upH_n (by omega)).trans (h2 j hj))) sh_0 rfl rfl (Nat.le_of_ble_eq_true rfl) ⟨Nat.le_of_ble_eq_true rfl, Nat.le_of_ble_eq_true rfl⟩ ⟨Nat.le_refl _, Nat.le_refl _⟩ ?_
  refine z_heap (show _ = HI w hs k (nI a) (nI ct) (upd b9 a 1) (fun q => if q = a then f else F q) (fun q => if q = a then x else X q) (fun q => if q = a then z else Z q) from rfl) ?_
  refine z_aload_n CX 0 dX0_remember_12 rfl rfl ?_
  refine z_aload_n CX 0 dX0_remember_13 rfl rfl ?_
  refine z_get CX dX0_remember_14 fg_X0_20 hi_0 rfl ?_
  refine z_iconst CX (v := 1) dX0_remember_17 (by decide) ?_
  refine z_iadd CX dX0_remember_18 ?_
  refine z_bipush CX (v := 14) dX0_remember_19 (by decide) ?_
  refine z_irem CX dX0_remember_21 (by decide) ?_
  rw [nx14 ha]
  refine z_put CX dX0_remember_22 fg_X0_20 fp_X0_1 hi_0 (Nat.le_of_ble_eq_true rfl) rfl rfl ?_
  refine z_heap hi_f1 ?_
  refine z_aload_n CX 0 dX0_remember_25 rfl rfl ?_
  refine z_aload_n CX 0 dX0_remember_26 rfl rfl ?_
  refine z_get CX dX0_remember_27 fg_X0_28 hi_0 rfl ?_
  refine z_iconst CX (v := 1) dX0_remember_30 (by decide) ?_
  refine z_iadd CX dX0_remember_31 ?_
  refine z_bipush CX (v := 14) dX0_remember_32 (by decide) ?_
  refine z_min CX dX0_remember_34 (wa_mem 640 (by decide +kernel) rfl) (wa_mem 513 (by decide +kernel) rfl) (wa_mem 5 (by decide +kernel) rfl) (wa_mem 514 (by decide +kernel) rfl) (by decide) (Nat.le_of_ble_eq_true rfl) (Nat.zero_le _) (Nat.zero_le _) ?_
  rw [mn14 hct]
  refine z_put CX dX0_remember_37 fg_X0_28 fp_X0_2 hi_0 (Nat.le_of_ble_eq_true rfl) rfl rfl ?_
  refine z_heap hi_f2 ?_
  exact z_vret CX dX0_remember_40 rfl rfl (Or.inl rfl)
set_option maxHeartbeats 4000000 in
set_option maxRecDepth 100000 in
theorem y_tb0 {l : Launch} {w : Wt} {hs : Hs} {n : Option Nat} {k : Nat} {b9 : Nat → Int32} {F : Nat → Nat → Int32} {X : Nat → Int32} {Z : Nat → Nat → Nat → Int32} {a : Int32} (k2 : Nat) : Cn l w mX0_takeBack 0 0 [.ref (wB w + k), .ref (wB w + k2)] (HI w hs k a 0 b9 F X Z) n (HI w hs k a 0 b9 F X Z) n (some (.int 0)) := by
  refine Cn.of (d := mX0_takeBack) (by decide +kernel) (Nat.le_of_ble_eq_true rfl) ?_
  intro p e R s m args below meth c CX
  replace CX : Ctx p s m args meth c R w RX0 "takeBack" cX0_takeBack 2 (some .int) 4 109 0 0 := CX
  show ZW p l e R s m args below meth c w 2 _ _ 0 0 (MQ below (Qn w _ _ _) args s 0 0 (wA w)) 0 [(0, .ref (wB w + k)), (1, .ref (wB w + k2))] []
  refine z_aload_n CX 0 dX0_takeBack_0 rfl rfl ?_
  refine z_get CX dX0_takeBack_1 fg_X0_28 hi_0 rfl ?_
  refine z_if_le CX 45 dX0_takeBack_4 (by decide) (fun _ => ?_) (fun q9 => absurd (by decide) q9)
  refine z_aload_n CX 0 dX0_takeBack_45 rfl rfl ?_
  refine z_get CX dX0_takeBack_46 fg_X0_28 hi_0 rfl ?_
  exact z_iret CX dX0_takeBack_49 rfl rfl rfl (Or.inl rfl)
theorem h_cp {l : Launch} {w : Wt} {hs : Hs} {n : Option Nat} {k : Nat} {b9 : Nat → Int32} {F : Nat → Nat → Int32} {X : Nat → Int32} {Z : Nat → Nat → Nat → Int32} {a ct : Int32} {i k2 : Nat} {s9 : Nat → Int32} {g9 : Nat → Nat → Int32} {r9 : Nat → Nat} (hi : i < 14) (hd : k2 + 7 ≤ k ∨ k + 102 ≤ k2) (h5 : F i 150 = 0 ∨ F i 150 = 1) : Cn l w mX1_copyTo 0 0 [.ref (wB w + (k + 1)), .int (nI i), .ref (wB w + k2)] (HI w (TT w hs k2 s9 g9 r9) k a ct b9 F X Z) n (HI w (TH w hs k2 (F i) (X i) (Z i)) k a ct b9 F X Z) n none := by
  rw [hi_tt (by omega), hi_tt (by omega)]
  exact h_copyTo hi (by omega) (by omega) h5
set_option maxHeartbeats 4000000 in
set_option maxRecDepth 100000 in
theorem y_tb {l : Launch} {w : Wt} {hs : Hs} {n : Option Nat} {k : Nat} {b9 : Nat → Int32} {F : Nat → Nat → Int32} {X : Nat → Int32} {Z : Nat → Nat → Nat → Int32} {a ct k2 : Nat} {s9 : Nat → Int32} {g9 : Nat → Nat → Int32} {r9 : Nat → Nat} (ha : a < 14) (hct : ct < 14) (hd : k2 + 7 ≤ k ∨ k + 102 ≤ k2) (h5 : F ((a + 13) % 14) 150 = 0 ∨ F ((a + 13) % 14) 150 = 1) : Cn l w mX0_takeBack 0 0 [.ref (wB w + k), .ref (wB w + k2)] (HI w (TT w hs k2 s9 g9 r9) k (nI a) (nI (ct + 1)) b9 F X Z) n (HI w (TH w hs k2 (F ((a + 13) % 14)) (X ((a + 13) % 14)) (Z ((a + 13) % 14))) k (nI ((a + 13) % 14)) (nI ct) b9 F X Z) n (some (.int (nI ct))) := by
  refine Cn.of (d := mX0_takeBack) (by decide +kernel) (Nat.le_of_ble_eq_true rfl) ?_
  intro p e R s m args below meth c CX
  replace CX : Ctx p s m args meth c R w RX0 "takeBack" cX0_takeBack 2 (some .int) 4 109 0 0 := CX
  show ZW p l e R s m args below meth c w 2 _ _ 0 0 (MQ below (Qn w _ _ _) args s 0 0 (wA w)) 0 [(0, .ref (wB w + k)), (1, .ref (wB w + k2))] []
  refine z_aload_n CX 0 dX0_takeBack_0 rfl rfl ?_
  refine z_get CX dX0_takeBack_1 fg_X0_28 hi_0 rfl ?_
  refine z_if_le CX 45 dX0_takeBack_4 (by decide) (fun q9 => absurd q9 (nI_ge (a := 0) (by omega) (by omega))) (fun _ => ?_)
  refine z_aload_n CX 0 dX0_takeBack_7 rfl rfl ?_
  refine z_aload_n CX 0 dX0_takeBack_8 rfl rfl ?_
  refine z_get CX dX0_takeBack_9 fg_X0_20 hi_0 rfl ?_
  refine z_bipush CX (v := 14) dX0_takeBack_12 (by decide) ?_
  refine z_iadd CX dX0_takeBack_14 ?_
  refine z_iconst CX (v := 1) dX0_takeBack_15 (by decide) ?_
  refine z_isub CX dX0_takeBack_16 ?_
  refine z_bipush CX (v := 14) dX0_takeBack_17 (by decide) ?_
  refine z_irem CX dX0_takeBack_19 (by decide) ?_
  rw [pv14 ha]
  refine z_put CX dX0_takeBack_20 fg_X0_20 fp_X0_1 hi_0 (Nat.le_of_ble_eq_true rfl) rfl rfl ?_
  refine z_heap hi_f1 ?_
  refine z_aload_n CX 0 dX0_takeBack_23 rfl rfl ?_
  refine z_dup CX dX0_takeBack_24 rfl ?_
  refine z_get CX dX0_takeBack_25 fg_X0_28 hi_0 rfl ?_
  refine z_iconst CX (v := 1) dX0_takeBack_28 (by decide) ?_
  refine z_isub CX dX0_takeBack_29 ?_
  rw [nI_pred]
  refine z_put CX dX0_takeBack_30 fg_X0_28 fp_X0_2 hi_0 (Nat.le_of_ble_eq_true rfl) rfl rfl ?_
  refine z_heap hi_f2 ?_
  refine z_aload_n CX 0 dX0_takeBack_33 rfl rfl ?_
  refine z_get CX dX0_takeBack_34 fg_X0_14 hi_0 rfl ?_
  refine z_aload_n CX 0 dX0_takeBack_37 rfl rfl ?_
  refine z_get CX dX0_takeBack_38 fg_X0_20 hi_0 rfl ?_
  refine z_aload_n CX 1 dX0_takeBack_41 rfl rfl ?_
  refine z_callV0 CX dX0_takeBack_42 cv_X0_37 (h_cp (Nat.mod_lt _ (by omega)) hd h5) sh_0 rfl rfl (Nat.le_of_ble_eq_true rfl) ⟨Nat.le_of_ble_eq_true rfl, Nat.le_of_ble_eq_true rfl⟩ ⟨Nat.le_refl _, Nat.le_refl _⟩ ?_
  refine z_aload_n CX 0 dX0_takeBack_45 rfl rfl ?_
  refine z_get CX dX0_takeBack_46 fg_X0_28 hi_0 rfl ?_
  exact z_iret CX dX0_takeBack_49 rfl rfl rfl (Or.inl rfl)
