/-! a shelf cleared, copied from; a history: its object, its shelf of 14 -/
def clB (b : Nat → Int32) (i : Nat) : Nat → Int32 := fun j => if j < i then 0 else b j
theorem clB_s {b : Nat → Int32} {i : Nat} : upd (clB b i) i 0 = clB b (i + 1) := by
  funext j; unfold upd clB
  by_cases h : j = i
  · rw [if_pos h, if_pos (by omega)]
  · rw [if_neg h]
    by_cases h2 : j < i
    · rw [if_pos h2, if_pos (by omega)]
    · rw [if_neg h2, if_neg (by omega)]
theorem clB_0 {b : Nat → Int32} : clB b 0 = b := funext fun j => if_neg (by omega)
theorem sh_tt {w : Wt} {hs : Hs} {k N k2 : Nat} {b : Nat → Int32} {F : Nat → Nat → Int32} {X : Nat → Int32} {Z : Nat → Nat → Nat → Int32} {s : Nat → Int32} {g : Nat → Nat → Int32} {r : Nat → Nat} (hd : k2 + 7 ≤ k ∨ k + 3 + 7 * N ≤ k2) : SH w (TT w hs k2 s g r) k N b F X Z = TT w (SH w hs k N b F X Z) k2 s g r := by
  funext j
  unfold TT
  by_cases h : k2 ≤ j ∧ j < k2 + 7
  · rw [if_pos h, sh_n (by omega), if_pos h]
  · rw [if_neg h]
    unfold SH
    simp only [if_neg h]
set_option maxHeartbeats 4000000 in
set_option maxRecDepth 100000 in
theorem h_clear {l : Launch} {w : Wt} {hs : Hs} {n : Option Nat} {k N : Nat} {b9 : Nat → Int32} {F : Nat → Nat → Int32} {X : Nat → Int32} {Z : Nat → Nat → Nat → Int32} (hN : N ≤ 100) : Cn l w mX1_clear 0 0 [.ref (wB w + k)] (SH w hs k N b9 F X Z) n (SH w hs k N (clB b9 N) F X Z) n none := by
  refine Cn.of (d := mX1_clear) (by decide +kernel) (Nat.le_of_ble_eq_true rfl) ?_
  intro p e R s m args below meth c CX
  replace CX : Ctx p s m args meth c R w RX1 "clear" cX1_clear 2 none 0 0 0 0 := CX
  show ZW p l e R s m args below meth c w 2 _ _ 0 0 (MQ below (Qn w _ _ _) args s 0 0 (wA w)) 0 [(0, .ref (wB w + k))] []
  have LP : ∀ (j i : Nat), i + j = N → ZW p l e R s m args below meth c w 2 (SH w hs k N (clB b9 i) F X Z) n 0 0 (MQ below (Qn w (SH w hs k N (clB b9 N) F X Z) n none) args s 0 0 (wA w)) 2 [(0, .ref (wB w + k)), (1, .int (nI i))] [] := by
    intro j
    induction j with
    | zero =>
      intro i hi
      have hi9 : i = N := by omega
      subst hi9
      refine z_iload_n CX 1 dX1_clear_2 rfl rfl ?_
      refine z_aload_n CX 0 dX1_clear_3 rfl rfl ?_
      refine z_get CX dX1_clear_4 fg_X1_21 sh_0 rfl ?_
      refine z_alen CX 1 dX1_clear_7 sh_2 rfl rfl ?_
      refine z_icmp_ge CX 24 dX1_clear_8 (by decide) (fun _ => ?_) (fun q9 => absurd (nI_le (Nat.le_refl _) (by omega)) q9)
      exact z_vret CX dX1_clear_24 rfl rfl (Or.inl rfl)
    | succ j ih =>
      intro i hi
      refine z_iload_n CX 1 dX1_clear_2 rfl rfl ?_
      refine z_aload_n CX 0 dX1_clear_3 rfl rfl ?_
      refine z_get CX dX1_clear_4 fg_X1_21 sh_0 rfl ?_
      refine z_alen CX 1 dX1_clear_7 sh_2 rfl rfl ?_
      refine z_icmp_ge CX 24 dX1_clear_8 (by decide) (fun q9 => absurd q9 (nI_ge (b := N) (by omega) (by omega))) (fun _ => ?_)
      refine z_aload_n CX 0 dX1_clear_11 rfl rfl ?_
      refine z_get CX dX1_clear_12 fg_X1_21 sh_0 rfl ?_
      refine z_iload_n CX 1 dX1_clear_15 rfl rfl ?_
      refine z_iconst CX (v := 0) dX1_clear_16 (by decide) ?_
      refine z_zast CX dX1_clear_17 sh_2 (vp_in_nI (by omega) (by omega)) rfl ?_
      refine z_heap (show _ = SH w hs k N (clB b9 (i + 1)) F X Z from by rw [nI_clamp (by omega), clB_s]; exact sh_b) ?_
      refine z_iinc CX (v := nI (i + 1)) dX1_clear_18 rfl (nI_1 i) (by decide) ?_
      refine z_goto CX 2 dX1_clear_21 (by decide) ?_
      refine z_loc [(0, .ref (wB w + k)), (1, .int (nI (i + 1)))] ⟨rfl, rfl, trivial⟩ ?_
      exact ih (i + 1) (by omega)
  refine z_iconst CX (v := 0) dX1_clear_0 (by decide) ?_
  refine z_istore_n CX 1 dX1_clear_1 rfl (by decide) ?_
  refine z_heap (show _ = SH w hs k N (clB b9 0) F X Z from by rw [clB_0]) ?_
  refine z_loc [(0, .ref (wB w + k)), (1, .int (nI 0))] ⟨rfl, rfl, trivial⟩ ?_
  exact LP N 0 (by omega)
theorem h_tk {l : Launch} {w : Wt} {hs : Hs} {n : Option Nat} {k N : Nat} {b9 : Nat → Int32} {F : Nat → Nat → Int32} {X : Nat → Int32} {Z : Nat → Nat → Nat → Int32} {i k2 : Nat} {s9 : Nat → Int32} {g9 : Nat → Nat → Int32} {r9 : Nat → Nat} (hi : i < N) (hd : k2 + 7 ≤ k ∨ k + 3 + 7 * N ≤ k2) (h5 : F i 150 = 0 ∨ F i 150 = 1) : Cn l w mX4_copyFrom 0 0 [.ref (wB w + k2), .ref (wB w + (k + 3 + 7 * i))] (SH w (TT w hs k2 s9 g9 r9) k N b9 F X Z) n (SH w (TH w hs k2 (F i) (X i) (Z i)) k N b9 F X Z) n none := by
  rw [sh_tt hd, sh_tt hd]
  exact h_take hi hd h5
set_option maxHeartbeats 4000000 in
set_option maxRecDepth 100000 in
theorem h_copyTo {l : Launch} {w : Wt} {hs : Hs} {n : Option Nat} {k N : Nat} {b9 : Nat → Int32} {F : Nat → Nat → Int32} {X : Nat → Int32} {Z : Nat → Nat → Nat → Int32} {i : Nat} (hi : i < N) (hN : N ≤ 100) {k2 : Nat} {s9 : Nat → Int32} {g9 : Nat → Nat → Int32} {r9 : Nat → Nat} (hd : k2 + 7 ≤ k ∨ k + 3 + 7 * N ≤ k2) (h5 : F i 150 = 0 ∨ F i 150 = 1) : Cn l w mX1_copyTo 0 0 [.ref (wB w + k), .int (nI i), .ref (wB w + k2)] (SH w (TT w hs k2 s9 g9 r9) k N b9 F X Z) n (SH w (TH w hs k2 (F i) (X i) (Z i)) k N b9 F X Z) n none := by
  refine Cn.of (d := mX1_copyTo) (by decide +kernel) (Nat.le_of_ble_eq_true rfl) ?_
  intro p e R s m args below meth c CX
  replace CX : Ctx p s m args meth c R w RX1 "copyTo" cX1_copyTo 4 none 3 86 0 0 := CX
  show ZW p l e R s m args below meth c w 4 _ _ 0 0 (MQ below (Qn w _ _ _) args s 0 0 (wA w)) 0 [(0, .ref (wB w + k)), (1, .int _), (2, .ref _)] []
  refine z_aload_n CX 0 dX1_copyTo_0 rfl rfl ?_
  refine z_iload_n CX 1 dX1_copyTo_1 rfl rfl ?_
  refine z_callV1 CX dX1_copyTo_2 cv_X1_26 (h_kept hi hN) sh_0 rfl rfl (Nat.le_of_ble_eq_true rfl) ⟨Nat.le_of_ble_eq_true rfl, Nat.le_of_ble_eq_true rfl⟩ ⟨Nat.le_refl _, Nat.le_refl _⟩ ?_
  refine z_astore_n CX 3 dX1_copyTo_5 rfl (by decide) ?_
  refine z_aload_n CX 3 dX1_copyTo_6 rfl rfl ?_
  refine z_ifnull CX dX1_copyTo_7 ?_
  refine z_aload_n CX 2 dX1_copyTo_10 rfl rfl ?_
  refine z_aload_n CX 3 dX1_copyTo_11 rfl rfl ?_
  refine z_callV0 CX dX1_copyTo_12 cv_X1_30 (h_tk hi hd h5) ((sh_n (by omega)).trans to_0) rfl rfl (Nat.le_of_ble_eq_true rfl) ⟨Nat.le_of_ble_eq_true rfl, Nat.le_of_ble_eq_true rfl⟩ ⟨Nat.le_refl _, Nat.le_refl _⟩ ?_
  exact z_vret CX dX1_copyTo_15 rfl rfl (Or.inl rfl)
def HI (w : Wt) (hs : Hs) (k : Nat) (a c : Int32) (b : Nat → Int32) (F : Nat → Nat → Int32) (X : Nat → Int32) (Z : Nat → Nat → Nat → Int32) : Hs := SH w (upH hs k (.inr (0, [.ref (wB w + (k + 1)), .int a, .int c]))) (k + 1) 14 b F X Z
theorem sh_up {w : Wt} {hs : Hs} {k N i : Nat} {v : va_E} {b : Nat → Int32} {F : Nat → Nat → Int32} {X : Nat → Int32} {Z : Nat → Nat → Nat → Int32} (h : i < k) : upH (SH w hs k N b F X Z) i v = SH w (upH hs i v) k N b F X Z := by
  funext j; unfold upH
  by_cases e : j = i
  · rw [if_pos e, sh_n (by omega), if_pos e]
  · rw [if_neg e]
    unfold SH
    simp only [if_neg e]
section
variable {w : Wt} {hs : Hs} {k : Nat} {a c : Int32} {b : Nat → Int32} {F : Nat → Nat → Int32} {X : Nat → Int32} {Z : Nat → Nat → Nat → Int32}
theorem hi_0 : HI w hs k a c b F X Z k = some (.inr (0, [.ref (wB w + (k + 1)), .int a, .int c])) := (sh_n (by omega)).trans (upH_s _ _ _)
theorem hi_n {j : Nat} (h : j < k ∨ k + 102 ≤ j) : HI w hs k a c b F X Z j = hs j := (sh_n (by omega)).trans (upH_n (by omega))
theorem hi_f1 {x : Int32} : upH (HI w hs k a c b F X Z) k (.inr (0, [.ref (wB w + (k + 1)), .int x, .int c])) = HI w hs k x c b F X Z := by unfold HI; rw [sh_up (by omega), upH_up]
theorem hi_f2 {x : Int32} : upH (HI w hs k a c b F X Z) k (.inr (0, [.ref (wB w + (k + 1)), .int a, .int x])) = HI w hs k a x b F X Z := by unfold HI; rw [sh_up (by omega), upH_up]
end
set_option maxHeartbeats 4000000 in
set_option maxRecDepth 100000 in
theorem y_forget {l : Launch} {w : Wt} {hs : Hs} {n : Option Nat} {k : Nat} {a9 c9 : Int32} {b9 : Nat → Int32} {F : Nat → Nat → Int32} {X : Nat → Int32} {Z : Nat → Nat → Nat → Int32} : Cn l w mX0_forget 0 0 [.ref (wB w + k)] (HI w hs k a9 c9 b9 F X Z) n (HI w hs k a9 0 b9 F X Z) n none := by
  refine Cn.of (d := mX0_forget) (by decide +kernel) (Nat.le_of_ble_eq_true rfl) ?_
  intro p e R s m args below meth c CX
  replace CX : Ctx p s m args meth c R w RX0 "forget" cX0_forget 1 none 0 0 0 0 := CX
  show ZW p l e R s m args below meth c w 1 _ _ 0 0 (MQ below (Qn w _ _ _) args s 0 0 (wA w)) 0 [(0, .ref (wB w + k))] []
  refine z_aload_n CX 0 dX0_forget_0 rfl rfl ?_
  refine z_iconst CX (v := 0) dX0_forget_1 (by decide) ?_
  refine z_put CX dX0_forget_2 fg_X0_28 fp_X0_2 hi_0 (Nat.le_of_ble_eq_true rfl) rfl rfl ?_
  refine z_heap hi_f2 ?_
  exact z_vret CX dX0_forget_5 rfl rfl (Or.inl rfl)
