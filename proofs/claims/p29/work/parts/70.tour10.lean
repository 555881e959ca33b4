/-! the tournament: made anew, copied, made -/
/-- the owners' cells when i of them are there -/
def onC (h : Nat → Int32) (i : Nat) : Nat → Int32 := fun j => if j < 3 * i then (if j % 3 = 0 then 0 else -1) else h j
theorem onC_s {h : Nat → Int32} {i : Nat} : upd (upd (clrF (i * 3) (i * 3 + 3) (onC h i)) (i * 3 + 1) (-1)) (i * 3 + 2) (-1) = onC h (i + 1) := by
  funext j
  unfold upd clrF onC
  by_cases c2 : j = i * 3 + 2
  · rw [if_pos c2, if_pos (by omega), if_neg (by omega)]
  · rw [if_neg c2]
    by_cases c1 : j = i * 3 + 1
    · rw [if_pos c1, if_pos (by omega), if_neg (by omega)]
    · rw [if_neg c1]
      by_cases c0 : i * 3 ≤ j ∧ j < i * 3 + 3
      · rw [if_pos c0, if_pos (by omega), if_pos (by omega)]
      · rw [if_neg c0]
        by_cases c3 : j < 3 * i
        · rw [if_pos c3, if_pos (show j < 3 * (i + 1) by omega)]
        · rw [if_neg c3, if_neg (by omega)]
theorem onC_0 {h : Nat → Int32} : onC h 0 = h := funext fun j => if_neg (by omega)
theorem frF_own {f0 : Nat → Int32} {j : Nat} (h : j < 12) : frF f0 (134 + j) = if j % 3 = 0 then 0 else -1 := by
  by_cases c : j % 3 = 0
  · rw [if_pos c]
    exact frF_0 (by omega) (fun o ho => by omega) (by omega) (by omega)
  · rw [if_neg c]
    have q := frF_h (f := f0) (o := j / 3) (by omega)
    by_cases c1 : j % 3 = 1
    · rw [show 134 + j = 134 + 3 * (j / 3) + 1 by omega]; exact q.1
    · rw [show 134 + j = 134 + 3 * (j / 3) + 2 by omega]; exact q.2
theorem TH_fr {w : Wt} {hs : Hs} {k : Nat} {f0 : Nat → Int32} {s : Nat → Int32} {g : Nat → Nat → Int32} {r : Nat → Nat} (hs9 : s 0 = 0 ∧ s 1 = 3 ∧ s 2 = 2 ∧ s 3 = 0 ∧ s 4 = 0 ∧ s 5 = 0 ∧ s 6 = 0) (hr : r 0 = 0 ∧ r 1 = 0 ∧ r 2 = 4) : TT w hs k s (upA g 2 (onC (g 2) 4)) r = TH w hs k (frF f0) 0 g := by
  have z : ∀ j, j < 157 → (∀ o, o < 4 → j ≠ 134 + 3 * o + 1 ∧ j ≠ 134 + 3 * o + 2) → j ≠ 155 → j ≠ 156 → frF f0 j = 0 := fun j => frF_0
  have e6 : gN (frF f0) = 0 := by show (frF f0 146).toNatClampNeg = 0; rw [z 146 (by omega) (fun o ho => by omega) (by omega) (by omega)]; rfl
  have e7 : bN (frF f0) = 0 := by show (frF f0 147).toNatClampNeg = 0; rw [z 147 (by omega) (fun o ho => by omega) (by omega) (by omega)]; rfl
  refine TH_of ⟨hs9.1.trans (z 154 (by omega) (fun o ho => by omega) (by omega) (by omega)).symm, hs9.2.1.trans frF_155.symm, hs9.2.2.1.trans frF_156.symm, hs9.2.2.2.1.trans (z 148 (by omega) (fun o ho => by omega) (by omega) (by omega)).symm, hs9.2.2.2.2.1.trans (z 149 (by omega) (fun o ho => by omega) (by omega) (by omega)).symm, hs9.2.2.2.2.2.1.trans (z 150 (by omega) (fun o ho => by omega) (by omega) (by omega)).symm, hs9.2.2.2.2.2.2⟩ ⟨hr.1.trans e6.symm, hr.2.1.trans e7.symm, hr.2.2⟩ ⟨fun j hj => ?_, fun j hj => rfl⟩ ⟨fun b c hb hc => ?_, fun j hj => rfl⟩ ⟨fun j hj => ?_, fun j hj => ?_⟩
  · rw [e6] at hj; exact absurd hj (by omega)
  · rw [e7] at hb; exact absurd hb (by omega)
  · rw [frF_own hj]
    show onC (g 2) 4 j = _
    exact if_pos (by omega)
  · exact if_neg (by omega)
set_option maxHeartbeats 4000000 in
set_option maxRecDepth 100000 in
theorem t_mkN {l : Launch} {w : Wt} {hs : Hs} {n : Option Nat} {k : Nat} {s9 : Nat → Int32} {g9 : Nat → Nat → Int32} {r9 : Nat → Nat} (f0 : Nat → Int32) : Cn l w mX4_makeNew 0 0 [.ref (wB w + k)] (TT w hs k s9 g9 r9) n (TH w hs k (frF f0) 0 g9) n none := by
  refine Cn.of (d := mX4_makeNew) (by decide +kernel) (Nat.le_of_ble_eq_true rfl) ?_
  intro p e R s m args below meth c CX
  replace CX : Ctx p s m args meth c R w RX4 "makeNew" cX4_makeNew 3 none 1 24 0 0 := CX
  show ZW p l e R s m args below meth c w 3 _ _ 0 0 (MQ below (Qn w _ _ _) args s 0 0 (wA w)) 0 [(0, .ref (wB w + k))] []
  have LP : ∀ (j i : Nat), i + j = 4 → ZW p l e R s m args below meth c w 3 (TT w hs k s9 (upA g9 2 (onC (g9 2) i)) (upR (upR (upR r9 0 0) 1 0) 2 i)) n 0 0 (MQ below (Qn w (TH w hs k (frF f0) 0 g9) n none) args s 0 0 (wA w)) 26 [(0, .ref (wB w + k)), (1, .int (nI i))] [] := by
    intro j
    induction j with
    | zero =>
      intro i hi
      have hi9 : i = 4 := by omega
      subst hi9
      refine z_iload_n CX 1 dX4_makeNew_26 rfl rfl ?_
      refine z_iconst CX (v := 4) dX4_makeNew_27 (by decide) ?_
      refine z_icmp_ge CX 65 dX4_makeNew_28 (by decide) (fun _ => ?_) (fun q9 => absurd (by decide) q9)
      refine z_aload_n CX 0 dX4_makeNew_65 rfl rfl ?_
      refine z_iconst CX (v := 0) dX4_makeNew_66 (by decide) ?_
      refine z_put CX dX4_makeNew_67 fg_X4_41 fp_X4_3 to_0 (Nat.le_of_ble_eq_true rfl) rfl rfl ?_
      refine z_heap to_f0 ?_
      refine z_aload_n CX 0 dX4_makeNew_70 rfl rfl ?_
      refine z_iconst CX (v := 3) dX4_makeNew_71 (by decide) ?_
      refine z_put CX dX4_makeNew_72 fg_X4_44 fp_X4_4 to_0 (Nat.le_of_ble_eq_true rfl) rfl rfl ?_
      refine z_heap to_f1 ?_
      refine z_aload_n CX 0 dX4_makeNew_75 rfl rfl ?_
      refine z_iconst CX (v := 2) dX4_makeNew_76 (by decide) ?_
      refine z_put CX dX4_makeNew_77 fg_X4_47 fp_X4_5 to_0 (Nat.le_of_ble_eq_true rfl) rfl rfl ?_
      refine z_heap to_f2 ?_
      refine z_aload_n CX 0 dX4_makeNew_80 rfl rfl ?_
      refine z_iconst CX (v := 0) dX4_makeNew_81 (by decide) ?_
      refine z_put CX dX4_makeNew_82 fg_X4_50 fp_X4_6 to_0 (Nat.le_of_ble_eq_true rfl) rfl rfl ?_
      refine z_heap to_f3 ?_
      refine z_aload_n CX 0 dX4_makeNew_85 rfl rfl ?_
      refine z_iconst CX (v := 0) dX4_makeNew_86 (by decide) ?_
      refine z_put CX dX4_makeNew_87 fg_X4_53 fp_X4_7 to_0 (Nat.le_of_ble_eq_true rfl) rfl rfl ?_
      refine z_heap to_f4 ?_
      refine z_aload_n CX 0 dX4_makeNew_90 rfl rfl ?_
      refine z_iconst CX (v := 0) dX4_makeNew_91 (by decide) ?_
      refine z_put CX dX4_makeNew_92 fg_X4_56 fp_X4_8 to_0 (Nat.le_of_ble_eq_true rfl) rfl rfl ?_
      refine z_heap to_f5 ?_
      refine z_aload_n CX 0 dX4_makeNew_95 rfl rfl ?_
      refine z_iconst CX (v := 0) dX4_makeNew_96 (by decide) ?_
      refine z_put CX dX4_makeNew_97 fg_X4_60 fp_X4_9 to_0 (Nat.le_of_ble_eq_true rfl) rfl rfl ?_
      refine z_heap to_f6 ?_
      exact z_vret CX dX4_makeNew_100 rfl (TH_fr ⟨rfl, rfl, rfl, rfl, rfl, rfl, rfl⟩ ⟨rfl, rfl, rfl⟩) (Or.inl rfl)
    | succ j ih =>
      intro i hi
      refine z_iload_n CX 1 dX4_makeNew_26 rfl rfl ?_
      refine z_iconst CX (v := 4) dX4_makeNew_27 (by decide) ?_
      refine z_icmp_ge CX 65 dX4_makeNew_28 (by decide) (fun q9 => absurd q9 (nI_ge (b := 4) (by omega) (by omega))) (fun _ => ?_)
      refine z_aload_n CX 0 dX4_makeNew_31 rfl rfl ?_
      refine z_get CX dX4_makeNew_32 fg_X4_23 to_0 rfl ?_
      refine z_callV1 CX dX4_makeNew_35 cv_X4_33 (tO_add (g := (upA g9 2 (onC (g9 2) i))) (r := (upR (upR (upR r9 0 0) 1 0) 2 i)) (show i < 4 by omega)) to_5 rfl rfl (Nat.le_of_ble_eq_true rfl) ⟨Nat.le_of_ble_eq_true rfl, Nat.le_of_ble_eq_true rfl⟩ ⟨Nat.le_refl _, Nat.le_refl _⟩ ?_
      refine z_heap (show _ = TT w hs k s9 (upA g9 2 (clrF (i * 3) (i * 3 + 3) (onC (g9 2) i))) (upR (upR (upR r9 0 0) 1 0) 2 (i + 1)) from by rw [upA_up, upR_up]; rfl) ?_
      refine z_istore_n CX 2 dX4_makeNew_38 rfl (by decide) ?_
      refine z_aload_n CX 0 dX4_makeNew_39 rfl rfl ?_
      refine z_get CX dX4_makeNew_40 fg_X4_23 to_0 rfl ?_
      refine z_iload_n CX 2 dX4_makeNew_43 rfl rfl ?_
      refine z_iconst CX (v := 1) dX4_makeNew_44 (by decide) ?_
      refine z_iconst CX (v := (-1 : Int32)) dX4_makeNew_45 (by decide) ?_
      refine z_callV0 CX dX4_makeNew_46 cv_X4_37 (tO_put (g := upA g9 2 (clrF (i * 3) (i * 3 + 3) (onC (g9 2) i))) (r := (upR (upR (upR r9 0 0) 1 0) 2 (i + 1))) (show i + 1 ≤ 4 by omega) (b := i) (c := 1) (show i < i + 1 by omega) (by omega) _) to_5 rfl rfl (Nat.le_of_ble_eq_true rfl) ⟨Nat.le_of_ble_eq_true rfl, Nat.le_of_ble_eq_true rfl⟩ ⟨Nat.le_refl _, Nat.le_refl _⟩ ?_
      refine z_heap (congrArg (fun z => TT _ _ _ _ z _) upA_up) ?_
      refine z_aload_n CX 0 dX4_makeNew_49 rfl rfl ?_
      refine z_get CX dX4_makeNew_50 fg_X4_23 to_0 rfl ?_
      refine z_iload_n CX 2 dX4_makeNew_53 rfl rfl ?_
      refine z_iconst CX (v := 2) dX4_makeNew_54 (by decide) ?_
      refine z_iconst CX (v := (-1 : Int32)) dX4_makeNew_55 (by decide) ?_
      refine z_callV0 CX dX4_makeNew_56 cv_X4_37 (tO_put (g := upA g9 2 (upd (clrF (i * 3) (i * 3 + 3) (onC (g9 2) i)) (i * 3 + 1) (-1))) (r := (upR (upR (upR r9 0 0) 1 0) 2 (i + 1))) (show i + 1 ≤ 4 by omega) (b := i) (c := 2) (show i < i + 1 by omega) (by omega) _) to_5 rfl rfl (Nat.le_of_ble_eq_true rfl) ⟨Nat.le_of_ble_eq_true rfl, Nat.le_of_ble_eq_true rfl⟩ ⟨Nat.le_refl _, Nat.le_refl _⟩ ?_
      refine z_heap (show _ = TT w hs k s9 (upA g9 2 (onC (g9 2) (i + 1))) (upR (upR (upR r9 0 0) 1 0) 2 (i + 1)) from congrArg (fun z => TT w hs k s9 z (upR (upR (upR r9 0 0) 1 0) 2 (i + 1))) (upA_up.trans (congrArg (upA g9 2) onC_s))) ?_
      refine z_iinc CX (v := nI (i + 1)) dX4_makeNew_59 rfl (nI_1 i) (by decide) ?_
      refine z_goto CX 26 dX4_makeNew_62 (by decide) ?_
      refine z_loc [(0, .ref (wB w + k)), (1, .int (nI (i + 1)))] ⟨rfl, rfl, trivial⟩ ?_
      exact ih (i + 1) (by omega)
  refine z_aload_n CX 0 dX4_makeNew_0 rfl rfl ?_
  refine z_get CX dX4_makeNew_1 fg_X4_14 to_0 rfl ?_
  refine z_iconst CX (v := 0) dX4_makeNew_4 (by decide) ?_
  refine z_put CX dX4_makeNew_5 fg_X4_29 fp_X2_2 to_1 (Nat.le_of_ble_eq_true rfl) rfl rfl ?_
  refine z_heap to_r0 ?_
  refine z_aload_n CX 0 dX4_makeNew_8 rfl rfl ?_
  refine z_get CX dX4_makeNew_9 fg_X4_20 to_0 rfl ?_
  refine z_iconst CX (v := 0) dX4_makeNew_12 (by decide) ?_
  refine z_put CX dX4_makeNew_13 fg_X4_29 fp_X2_2 to_3 (Nat.le_of_ble_eq_true rfl) rfl rfl ?_
  refine z_heap to_r1 ?_
  refine z_aload_n CX 0 dX4_makeNew_16 rfl rfl ?_
  refine z_get CX dX4_makeNew_17 fg_X4_23 to_0 rfl ?_
  refine z_iconst CX (v := 0) dX4_makeNew_20 (by decide) ?_
  refine z_put CX dX4_makeNew_21 fg_X4_29 fp_X2_2 to_5 (Nat.le_of_ble_eq_true rfl) rfl rfl ?_
  refine z_heap to_r2 ?_
  refine z_iconst CX (v := 0) dX4_makeNew_24 (by decide) ?_
  refine z_istore_n CX 1 dX4_makeNew_25 rfl (by decide) ?_
  refine z_heap (congrArg (fun z => TT w hs k s9 z (upR (upR (upR r9 0 0) 1 0) 2 0)) ((congrArg (upA g9 2) onC_0).trans upA_id).symm) ?_
  refine z_loc [(0, .ref (wB w + k)), (1, .int (nI 0))] ⟨rfl, rfl, trivial⟩ ?_
  exact LP 4 0 (by omega)
theorem cpT {l : Launch} {w : Wt} {X : Hs} {n : Option Nat} {a a2 cn c2 len r r2 : Nat} {f g : Nat → Int32} {X' : Hs} (hl9 : len < 2 ^ 20) (h1 : tabH w X a cn len r f = X) (h2 : HE (tabH w X a cn len r2 (cpyF len g f)) X') (hd : a2 < a ∨ a + 1 < a2) (hd1 : a2 + 1 < a ∨ a + 1 < a2 + 1) (h20 : X a2 = some (.inr (2, [.int (nI c2), .ref (wB w + (a2 + 1)), .int (nI r2)]))) (h21 : X (a2 + 1) = some (.inl (wC w 0, len, .inl g))) : Cn l w mX2_copyFrom 0 0 [.ref (wB w + a), .ref (wB w + a2)] X n X' n none := by
  have h := c_copy (l := l) (n := n) (cn := cn) (r := r) (f := f) hl9 hd hd1 h20 h21
  rw [h1] at h
  exact h.he h2
theorem tabHE {w : Wt} {X : Hs} {a cn len r : Nat} {f f' : Nat → Int32} (h : ∀ j, j < len → f j = f' j) : HE (tabH w X a cn len r f) (tabH w X a cn len r f') := by
  intro i
  by_cases e : i = a + 1
  · subst e
    exact Or.inr ⟨_, _, _, _, tab_1, tab_1, h⟩
  · left
    unfold tabH upH
    rw [if_neg e, if_neg e]
set_option maxHeartbeats 4000000 in
set_option maxRecDepth 100000 in
theorem t_copy {l : Launch} {w : Wt} {hs : Hs} {n : Option Nat} {k : Nat} {s9 : Nat → Int32} {g9 : Nat → Nat → Int32} {r9 : Nat → Nat} {k2 : Nat} {s8 : Nat → Int32} {g8 : Nat → Nat → Int32} {r8 : Nat → Nat} (hd : k2 + 7 ≤ k ∨ k + 7 ≤ k2) (h5 : s8 5 = 0 ∨ s8 5 = 1) (h2 : ∀ i, i < 7 → hs (k2 + i) = some (tcell w k2 s8 g8 r8 i)) : Cn l w mX4_copyFrom 0 0 [.ref (wB w + k), .ref (wB w + k2)] (TT w hs k s9 g9 r9) n (TT w hs k s8 g8 r8) n none := by
  refine Cn.of (d := mX4_copyFrom) (by decide +kernel) (Nat.le_of_ble_eq_true rfl) ?_
  intro p e R s m args below meth c CX
  replace CX : Ctx p s m args meth c R w RX4 "copyFrom" cX4_copyFrom 2 none 2 65 0 0 := CX
  show ZW p l e R s m args below meth c w 2 _ _ 0 0 (MQ below (Qn w _ _ _) args s 0 0 (wA w)) 0 [(0, .ref (wB w + k)), (1, .ref (wB w + k2))] []
  refine z_aload_n CX 0 dX4_copyFrom_0 rfl rfl ?_
  refine z_get CX dX4_copyFrom_1 fg_X4_14 to_0 rfl ?_
  refine z_aload_n CX 1 dX4_copyFrom_4 rfl rfl ?_
  refine z_get CX dX4_copyFrom_5 fg_X4_14 ((to_n (by omega)).trans (h2 0 (by omega))) rfl ?_
  refine z_callV0 CX dX4_copyFrom_8 cv_X4_63 (cpT (X := TT w hs k s9 g9 r9) (X' := TT w hs k s9 (upA g9 0 (g8 0)) (upR r9 0 (r8 0))) (a := k + 1) (a2 := k2 + 1) (g := g8 0) (r2 := r8 0) (by decide) tq_0 (by rw [← tt_0]; exact tabHE (fun j hj => if_pos hj)) (by omega) (by omega) ((to_n (by omega)).trans (h2 1 (by omega))) ((to_n (by omega)).trans (h2 2 (by omega)))) to_1 rfl rfl (Nat.le_of_ble_eq_true rfl) ⟨Nat.le_of_ble_eq_true rfl, Nat.le_of_ble_eq_true rfl⟩ ⟨Nat.le_refl _, Nat.le_refl _⟩ ?_
  refine z_aload_n CX 0 dX4_copyFrom_11 rfl rfl ?_
  refine z_get CX dX4_copyFrom_12 fg_X4_20 to_0 rfl ?_
  refine z_aload_n CX 1 dX4_copyFrom_15 rfl rfl ?_
  refine z_get CX dX4_copyFrom_16 fg_X4_20 ((to_n (by omega)).trans (h2 0 (by omega))) rfl ?_
  refine z_callV0 CX dX4_copyFrom_19 cv_X4_63 (cpT (X := TT w hs k s9 (upA g9 0 (g8 0)) (upR r9 0 (r8 0))) (X' := TT w hs k s9 (upA (upA g9 0 (g8 0)) 1 (g8 1)) (upR (upR r9 0 (r8 0)) 1 (r8 1))) (a := k + 3) (a2 := k2 + 3) (g := g8 1) (r2 := r8 1) (by decide) tq_1 (by rw [← tt_1]; exact tabHE (fun j hj => if_pos hj)) (by omega) (by omega) ((to_n (by omega)).trans (h2 3 (by omega))) ((to_n (by omega)).trans (h2 4 (by omega)))) to_3 rfl rfl (Nat.le_of_ble_eq_true rfl) ⟨Nat.le_of_ble_eq_true rfl, Nat.le_of_ble_eq_true rfl⟩ ⟨Nat.le_refl _, Nat.le_refl _⟩ ?_
  refine z_aload_n CX 0 dX4_copyFrom_22 rfl rfl ?_
  refine z_get CX dX4_copyFrom_23 fg_X4_23 to_0 rfl ?_
  refine z_aload_n CX 1 dX4_copyFrom_26 rfl rfl ?_
  refine z_get CX dX4_copyFrom_27 fg_X4_23 ((to_n (by omega)).trans (h2 0 (by omega))) rfl ?_
  refine z_callV0 CX dX4_copyFrom_30 cv_X4_63 (cpT (X := TT w hs k s9 (upA (upA g9 0 (g8 0)) 1 (g8 1)) (upR (upR r9 0 (r8 0)) 1 (r8 1))) (X' := TT w hs k s9 (upA (upA (upA g9 0 (g8 0)) 1 (g8 1)) 2 (g8 2)) (upR (upR (upR r9 0 (r8 0)) 1 (r8 1)) 2 (r8 2))) (a := k + 5) (a2 := k2 + 5) (g := g8 2) (r2 := r8 2) (by decide) tq_2 (by rw [← tt_2]; exact tabHE (fun j hj => if_pos hj)) (by omega) (by omega) ((to_n (by omega)).trans (h2 5 (by omega))) ((to_n (by omega)).trans (h2 6 (by omega)))) to_5 rfl rfl (Nat.le_of_ble_eq_true rfl) ⟨Nat.le_of_ble_eq_true rfl, Nat.le_of_ble_eq_true rfl⟩ ⟨Nat.le_refl _, Nat.le_refl _⟩ ?_
  refine z_aload_n CX 0 dX4_copyFrom_33 rfl rfl ?_
  refine z_aload_n CX 1 dX4_copyFrom_34 rfl rfl ?_
  refine z_get CX dX4_copyFrom_35 fg_X4_41 ((to_n (by omega)).trans (h2 0 (by omega))) rfl ?_
  refine z_put CX dX4_copyFrom_38 fg_X4_41 fp_X4_3 to_0 (Nat.le_of_ble_eq_true rfl) rfl rfl ?_
  refine z_heap to_f0 ?_
  refine z_aload_n CX 0 dX4_copyFrom_41 rfl rfl ?_
  refine z_aload_n CX 1 dX4_copyFrom_42 rfl rfl ?_
  refine z_get CX dX4_copyFrom_43 fg_X4_44 ((to_n (by omega)).trans (h2 0 (by omega))) rfl ?_
  refine z_put CX dX4_copyFrom_46 fg_X4_44 fp_X4_4 to_0 (Nat.le_of_ble_eq_true rfl) rfl rfl ?_
  refine z_heap to_f1 ?_
  refine z_aload_n CX 0 dX4_copyFrom_49 rfl rfl ?_
  refine z_aload_n CX 1 dX4_copyFrom_50 rfl rfl ?_
  refine z_get CX dX4_copyFrom_51 fg_X4_47 ((to_n (by omega)).trans (h2 0 (by omega))) rfl ?_
  refine z_put CX dX4_copyFrom_54 fg_X4_47 fp_X4_5 to_0 (Nat.le_of_ble_eq_true rfl) rfl rfl ?_
  refine z_heap to_f2 ?_
  refine z_aload_n CX 0 dX4_copyFrom_57 rfl rfl ?_
  refine z_aload_n CX 1 dX4_copyFrom_58 rfl rfl ?_
  refine z_get CX dX4_copyFrom_59 fg_X4_50 ((to_n (by omega)).trans (h2 0 (by omega))) rfl ?_
  refine z_put CX dX4_copyFrom_62 fg_X4_50 fp_X4_6 to_0 (Nat.le_of_ble_eq_true rfl) rfl rfl ?_
  refine z_heap to_f3 ?_
  refine z_aload_n CX 0 dX4_copyFrom_65 rfl rfl ?_
  refine z_aload_n CX 1 dX4_copyFrom_66 rfl rfl ?_
  refine z_get CX dX4_copyFrom_67 fg_X4_53 ((to_n (by omega)).trans (h2 0 (by omega))) rfl ?_
  refine z_put CX dX4_copyFrom_70 fg_X4_53 fp_X4_7 to_0 (Nat.le_of_ble_eq_true rfl) rfl rfl ?_
  refine z_heap to_f4 ?_
  refine z_aload_n CX 0 dX4_copyFrom_73 rfl rfl ?_
  refine z_aload_n CX 1 dX4_copyFrom_74 rfl rfl ?_
  refine z_get CX dX4_copyFrom_75 fg_X4_56 ((to_n (by omega)).trans (h2 0 (by omega))) rfl ?_
  refine z_put CX dX4_copyFrom_78 fg_X4_56 fp_X4_8 to_0 (Nat.le_of_ble_eq_true rfl) (by rcases h5 with h5 | h5 <;> rw [h5] <;> rfl) (by rcases h5 with h5 | h5 <;> rw [h5] <;> rfl) ?_
  refine z_heap to_f5 ?_
  refine z_aload_n CX 0 dX4_copyFrom_81 rfl rfl ?_
  refine z_aload_n CX 1 dX4_copyFrom_82 rfl rfl ?_
  refine z_get CX dX4_copyFrom_83 fg_X4_60 ((to_n (by omega)).trans (h2 0 (by omega))) rfl ?_
  refine z_put CX dX4_copyFrom_86 fg_X4_60 fp_X4_9 to_0 (Nat.le_of_ble_eq_true rfl) rfl rfl ?_
  refine z_heap to_f6 ?_
  exact z_vret CX dX4_copyFrom_89 rfl (TT_eq (fun i hi => by match i, hi with | 0, _ => rfl | 1, _ => rfl | 2, _ => rfl | 3, _ => rfl | 4, _ => rfl | 5, _ => rfl | 6, _ => rfl) (fun t ht j => by match t, ht with | 0, _ => rfl | 1, _ => rfl | 2, _ => rfl) (fun t ht => by match t, ht with | 0, _ => rfl | 1, _ => rfl | 2, _ => rfl)) (Or.inl rfl)
set_option maxHeartbeats 4000000 in
set_option maxRecDepth 100000 in
theorem t_init {l : Launch} {w : Wt} {hs : Hs} {k : Nat} (f0 : Nat → Int32) (h0 : hs k = some (.inr (4, [.null, .null, .null, .int 0, .int 0, .int 0, .int 0, .int 0, .int 0, .int 0]))) : Cn l w mX4_init 6 155 [.ref (wB w + k)] hs (some (k + 1)) (TH w hs k (frF f0) 0 (fun _ _ => 0)) (some (k + 7)) none := by
  refine Cn.of (d := mX4_init) (by decide +kernel) (Nat.le_of_ble_eq_true rfl) ?_
  intro p e R s m args below meth c CX
  replace CX : Ctx p s m args meth c R w RX4 "<init>" cX4_init 1 none 2 46 6 155 := CX
  show ZW p l e R s m args below meth c w 1 _ _ 0 0 (MQ below (Qn w _ _ _) args s 6 155 (wA w)) 0 [(0, .ref (wB w + k))] []
  refine z_aload_n CX 0 dX4_init_0 rfl rfl ?_
  refine z_objinit CX dX4_init_1 (wa_mem 51 (by decide +kernel) rfl) (wa_mem 21 (by decide +kernel) rfl) (wa_mem 22 (by decide +kernel) rfl) (by decide) (Nat.le_of_ble_eq_true rfl) ?_
  refine z_aload_n CX 0 dX4_init_4 rfl rfl ?_
  refine z_new CX dX4_init_5 fn_X4_9 (by omega) (by omega) ?_
  refine z_dup CX dX4_init_8 rfl ?_
  refine z_bipush CX (v := 6) dX4_init_9 (by decide) ?_
  refine z_iconst CX (v := 4) dX4_init_11 (by decide) ?_
  refine z_callI CX dX4_init_12 ci_X4_11 (c_tinit (k := k + 1) (cap := 6) (cn := 4) (by omega) (by omega) (by omega) (by simp [upH] <;> omega)) rfl rfl (Nat.le_of_ble_eq_true rfl) ⟨Nat.le_of_ble_eq_true rfl, Nat.le_of_ble_eq_true rfl⟩ ⟨by omega, by omega⟩ ?_
  refine z_putF CX dX4_init_15 fg_X4_14 fp_X4_0 rfl fw_X4_14 (fs := [.null, .null, .null, .int 0, .int 0, .int 0, .int 0, .int 0, .int 0, .int 0]) (by simp [tabH, upH, h0, show ¬ k = k + 1 by omega, show ¬ k = k + 1 + 1 by omega, show ¬ k = k + 2 by omega, show ¬ k = k + 3 by omega, show ¬ k = k + 3 + 1 by omega, show ¬ k = k + 4 by omega, show ¬ k = k + 5 by omega, show ¬ k = k + 5 + 1 by omega, show ¬ k = k + 6 by omega]) (Nat.le_of_ble_eq_true rfl) rfl rfl ?_
  refine z_aload_n CX 0 dX4_init_18 rfl rfl ?_
  refine z_new CX dX4_init_19 fn_X4_9 (by omega) (by omega) ?_
  refine z_dup CX dX4_init_22 rfl ?_
  refine z_bipush CX (v := 11) dX4_init_23 (by decide) ?_
  refine z_bipush CX (v := 10) dX4_init_25 (by decide) ?_
  refine z_callI CX dX4_init_27 ci_X4_11 (c_tinit (k := k + 3) (cap := 11) (cn := 10) (by omega) (by omega) (by omega) (by simp [upH] <;> omega)) rfl rfl (Nat.le_of_ble_eq_true rfl) ⟨Nat.le_of_ble_eq_true rfl, Nat.le_of_ble_eq_true rfl⟩ ⟨by omega, by omega⟩ ?_
  refine z_putF CX dX4_init_30 fg_X4_20 fp_X4_1 rfl fw_X4_20 (fs := [.ref (wB w + (k + 1)), .null, .null, .int 0, .int 0, .int 0, .int 0, .int 0, .int 0, .int 0]) (by simp [tabH, upH, h0, show ¬ k = k + 1 by omega, show ¬ k = k + 1 + 1 by omega, show ¬ k = k + 2 by omega, show ¬ k = k + 3 by omega, show ¬ k = k + 3 + 1 by omega, show ¬ k = k + 4 by omega, show ¬ k = k + 5 by omega, show ¬ k = k + 5 + 1 by omega, show ¬ k = k + 6 by omega]) (Nat.le_of_ble_eq_true rfl) rfl rfl ?_
  refine z_aload_n CX 0 dX4_init_33 rfl rfl ?_
  refine z_new CX dX4_init_34 fn_X4_9 (by omega) (by omega) ?_
  refine z_dup CX dX4_init_37 rfl ?_
  refine z_iconst CX (v := 4) dX4_init_38 (by decide) ?_
  refine z_iconst CX (v := 3) dX4_init_39 (by decide) ?_
  refine z_callI CX dX4_init_40 ci_X4_11 (c_tinit (k := k + 5) (cap := 4) (cn := 3) (by omega) (by omega) (by omega) (by simp [upH] <;> omega)) rfl rfl (Nat.le_of_ble_eq_true rfl) ⟨Nat.le_of_ble_eq_true rfl, Nat.le_of_ble_eq_true rfl⟩ ⟨by omega, by omega⟩ ?_
  refine z_putF CX dX4_init_43 fg_X4_23 fp_X4_2 rfl fw_X4_23 (fs := [.ref (wB w + (k + 1)), .ref (wB w + (k + 3)), .null, .int 0, .int 0, .int 0, .int 0, .int 0, .int 0, .int 0]) (by simp [tabH, upH, h0, show ¬ k = k + 1 by omega, show ¬ k = k + 1 + 1 by omega, show ¬ k = k + 2 by omega, show ¬ k = k + 3 by omega, show ¬ k = k + 3 + 1 by omega, show ¬ k = k + 4 by omega, show ¬ k = k + 5 by omega, show ¬ k = k + 5 + 1 by omega, show ¬ k = k + 6 by omega]) (Nat.le_of_ble_eq_true rfl) rfl rfl ?_
  refine z_heap (show _ = TT w hs k (fun _ => 0) (fun _ _ => 0) (fun _ => 0) from ?_) ?_
  · funext j
    unfold TT tabH upH
    by_cases hj : k ≤ j ∧ j < k + 7
    · obtain ⟨i, hi, rfl⟩ : ∃ i, i < 7 ∧ j = k + i := ⟨j - k, by omega, by omega⟩
      rw [if_pos hj, show k + i - k = i by omega]
      match i, hi with
      | 0, _ => simp [tcell]
      | 1, _ => simp [tcell, nI]
      | 2, _ => simp [tcell]
      | 3, _ => simp [tcell, nI]
      | 4, _ => simp [tcell]
      | 5, _ => simp [tcell, nI]
      | 6, _ => simp [tcell]
    · rw [if_neg hj]
      simp [show j ≠ k by omega, show j ≠ k + 1 by omega, show j ≠ k + 2 by omega, show j ≠ k + 3 by omega, show j ≠ k + 4 by omega, show j ≠ k + 5 by omega, show j ≠ k + 6 by omega, show j ≠ k + 1 + 1 by omega, show j ≠ k + 3 + 1 by omega, show j ≠ k + 5 + 1 by omega]
  refine z_aload_n CX 0 dX4_init_46 rfl rfl ?_
  refine z_callV0 CX dX4_init_47 cv_X4_26 (t_mkN f0) to_0 rfl rfl (Nat.le_of_ble_eq_true rfl) ⟨Nat.le_of_ble_eq_true rfl, Nat.le_of_ble_eq_true rfl⟩ ⟨by omega, by omega⟩ ?_
  refine z_widen (k9 := 6) (n9 := 155) (by omega) (by omega) ?_
  exact z_vret CX dX4_init_50 rfl rfl (Or.inl rfl)
