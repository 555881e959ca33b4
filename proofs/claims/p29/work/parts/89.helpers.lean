/-! the class's own helpers: groups taken off, a command, a turn -/
theorem g_pG {l : Launch} {w : Wt} {hs : Hs} {n : Option Nat} {k : Nat} {T : TXs} {Y : HIs} {S : SHs} {N : TTs} {f : Nat → Int32} {x : Int32} {z : Nat → Nat → Int32} (hO : OKr f) (a b c d : Int32) : Cn l w mX4_perform 0 0 [.ref (wB w + (k + 11)), .int 103, .int a, .int b, .int c, .int d] (GB w hs k T N (nT f x z) Y S) n (GB w hs k T N (nT (pfG f a b c d).2 x z) Y S) n (some (.int (bI (pfG f a b c d).1))) := by
  have h := Cn.gC (k := k) (T := T) (N := N) (Y := Y) (S := S) (hs := hs) (t_perf (l := l) (w := w) (n := n) (k := k + 11) (x := x) (z := z) hO 103 a b c d)
  rw [pf_103] at h
  exact h
theorem g_pB {l : Launch} {w : Wt} {hs : Hs} {n : Option Nat} {k : Nat} {T : TXs} {Y : HIs} {S : SHs} {N : TTs} {f : Nat → Int32} {x : Int32} {z : Nat → Nat → Int32} (hO : OKr f) (a b c : Int32) : Cn l w mX4_perform 0 0 [.ref (wB w + (k + 11)), .int 98, .int a, .int b, .int c, .int 0] (GB w hs k T N (nT f x z) Y S) n (GB w hs k T N (nT (pfB f a b c).2 x z) Y S) n (some (.int (bI (pfB f a b c).1))) := by
  have h := Cn.gC (k := k) (T := T) (N := N) (Y := Y) (S := S) (hs := hs) (t_perf (l := l) (w := w) (n := n) (k := k + 11) (x := x) (z := z) hO 98 a b c 0)
  rw [pf_98] at h
  exact h
theorem g_pL {l : Launch} {w : Wt} {hs : Hs} {n : Option Nat} {k : Nat} {T : TXs} {Y : HIs} {S : SHs} {N : TTs} {f : Nat → Int32} {x : Int32} {z : Nat → Nat → Int32} (hO : OKr f) (a b : Int32) : Cn l w mX4_perform 0 0 [.ref (wB w + (k + 11)), .int 108, .int a, .int b, .int 0, .int 0] (GB w hs k T N (nT f x z) Y S) n (GB w hs k T N (nT (pfL f a b).2 x z) Y S) n (some (.int (bI (pfL f a b).1))) := by
  have h := Cn.gC (k := k) (T := T) (N := N) (Y := Y) (S := S) (hs := hs) (t_perf (l := l) (w := w) (n := n) (k := k + 11) (x := x) (z := z) hO 108 a b 0 0)
  rw [pf_108] at h
  exact h
theorem g_pM {l : Launch} {w : Wt} {hs : Hs} {n : Option Nat} {k : Nat} {T : TXs} {Y : HIs} {S : SHs} {N : TTs} {f : Nat → Int32} {x : Int32} {z : Nat → Nat → Int32} (hO : OKr f) (a : Int32) : Cn l w mX4_perform 0 0 [.ref (wB w + (k + 11)), .int 109, .int a, .int 0, .int 0, .int 0] (GB w hs k T N (nT f x z) Y S) n (GB w hs k T N (nT (pfM f a).2 x z) Y S) n (some (.int (bI (pfM f a).1))) := by
  have h := Cn.gC (k := k) (T := T) (N := N) (Y := Y) (S := S) (hs := hs) (t_perf (l := l) (w := w) (n := n) (k := k + 11) (x := x) (z := z) hO 109 a 0 0 0)
  rw [pf_109] at h
  exact h
theorem g_pH {l : Launch} {w : Wt} {hs : Hs} {n : Option Nat} {k : Nat} {T : TXs} {Y : HIs} {S : SHs} {N : TTs} {f : Nat → Int32} {x : Int32} {z : Nat → Nat → Int32} (hO : OKr f) (a b c : Int32) : Cn l w mX4_perform 0 0 [.ref (wB w + (k + 11)), .int 104, .int a, .int b, .int c, .int 0] (GB w hs k T N (nT f x z) Y S) n (GB w hs k T N (nT (pfH f a b c).2 x z) Y S) n (some (.int (bI (pfH f a b c).1))) := by
  have h := Cn.gC (k := k) (T := T) (N := N) (Y := Y) (S := S) (hs := hs) (t_perf (l := l) (w := w) (n := n) (k := k + 11) (x := x) (z := z) hO 104 a b c 0)
  rw [pf_104] at h
  exact h
theorem g_pS {l : Launch} {w : Wt} {hs : Hs} {n : Option Nat} {k : Nat} {T : TXs} {Y : HIs} {S : SHs} {N : TTs} {f : Nat → Int32} {x : Int32} {z : Nat → Nat → Int32} (hO : OKr f) (a b : Int32) : Cn l w mX4_perform 0 0 [.ref (wB w + (k + 11)), .int 115, .int a, .int b, .int 0, .int 0] (GB w hs k T N (nT f x z) Y S) n (GB w hs k T N (nT (pfS f a b).2 x z) Y S) n (some (.int (bI (pfS f a b).1))) := by
  have h := Cn.gC (k := k) (T := T) (N := N) (Y := Y) (S := S) (hs := hs) (t_perf (l := l) (w := w) (n := n) (k := k + 11) (x := x) (z := z) hO 115 a b 0 0)
  rw [pf_115] at h
  exact h
theorem pfT_C {f : Nat → Int32} {a b : Int32} : (pfT f a b).1 = (pfC f a b).1 ∧ ∀ j, j ≠ 152 → (pfT f a b).2 j = (pfC f a b).2 j := by
  unfold pfT pfC
  by_cases h : (0 ≤ a ∧ a ≤ 3) ∧ (0 ≤ b ∧ b < nI (bN f))
  · rw [if_pos h]
    by_cases h2 : whyF f a.toNatClampNeg b.toNatClampNeg = 0
    · rw [if_pos ⟨h, h2⟩]; exact ⟨decide_eq_true h2, fun _ _ => rfl⟩
    · rw [if_neg (fun q => h2 q.2)]
      refine ⟨decide_eq_false h2, fun j hj => ?_⟩
      show clmF f a.toNatClampNeg b.toNatClampNeg j = f j
      unfold clmF; rw [if_neg h2, pk_un hj]
  · rw [if_neg h, if_neg (fun q => h q.1)]; exact ⟨rfl, fun _ _ => rfl⟩
theorem g_pT {l : Launch} {w : Wt} {hs : Hs} {n : Option Nat} {k : Nat} {T : TXs} {Y : HIs} {S : SHs} {N : TTs} {f : Nat → Int32} {x : Int32} {z : Nat → Nat → Int32} (hO : OKr f) (a b : Int32) : Cn l w mX4_perform 0 0 [.ref (wB w + (k + 11)), .int 99, .int a, .int b, .int 0, .int 0] (GB w hs k T N (nT f x z) Y S) n (GB w hs k T N (nT (pfT f a b).2 x z) Y S) n (some (.int (bI (pfT f a b).1))) := by
  have h := Cn.gC (k := k) (T := T) (N := N) (Y := Y) (S := S) (hs := hs) (t_perf (l := l) (w := w) (n := n) (k := k + 11) (x := x) (z := z) hO 99 a b 0 0)
  rw [pf_99] at h
  have hO2 : OKr (pfC f a b).2 := by have q := pf_ok (z := 99) (a := a) (b := b) (c := 0) (d := 0) hO; rw [pf_99] at q; exact q
  have e : ∀ hs9, TH w hs9 (k + 11) (pfC f a b).2 x z = TH w hs9 (k + 11) (pfT f a b).2 x z := fun hs9 => TH_ext hO2.1.1.2.1 (by have := hO2.2.2; omega) (fun j _ h1 _ _ => pfT_C.2 j h1)
  have e2 : GB w hs k T N (nT (pfC f a b).2 x z) Y S = GB w hs k T N (nT (pfT f a b).2 x z) Y S := by
    have h1 := gb_C (w := w) (hs := hs) (k := k) (T := T) (N := N) (C := (sF f x, gF f z, rF f)) (Y := Y) (S := S) (s := sF (pfC f a b).2 x) (g := gF (pfC f a b).2 z) (r := rF (pfC f a b).2)
    have h2 := gb_C (w := w) (hs := hs) (k := k) (T := T) (N := N) (C := (sF f x, gF f z, rF f)) (Y := Y) (S := S) (s := sF (pfT f a b).2 x) (g := gF (pfT f a b).2 z) (r := rF (pfT f a b).2)
    exact h1.symm.trans ((e _).trans h2)
  rw [show GB w hs k T N (sF (pfC f a b).2 x, gF (pfC f a b).2 z, rF (pfC f a b).2) Y S = GB w hs k T N (nT (pfT f a b).2 x z) Y S from e2, ← pfT_C.1] at h
  exact h
def lwN (S : Nat) : Nat → Nat
  | 0 => S
  | j + 1 => lwN S j / 100000
theorem lwN_e {S : Nat} : ∀ j, lwN S j = S / 100000 ^ j
  | 0 => by rw [Nat.pow_zero, Nat.div_one]; rfl
  | j + 1 => by show lwN S j / 100000 = _; rw [lwN_e j, Nat.div_div_eq_div_mul, Nat.pow_succ]
theorem lwN_le {S : Nat} : ∀ j, lwN S j ≤ S
  | 0 => Nat.le_refl _
  | j + 1 => Nat.le_trans (Nat.div_le_self _ _) (lwN_le j)
set_option maxHeartbeats 4000000 in
set_option maxRecDepth 100000 in
theorem g_low {l : Launch} {w : Wt} {hs : Hs} {n : Option Nat} {S9 N9 : Nat} (hS : S9 < 2 ^ 63) (hN : N9 < 1000) : Cn l w mX5_withoutLowest 0 0 [.long (lN S9), .int (nI N9)] hs n hs n (some (.long (lN (lwN S9 N9)))) := by
  obtain ⟨z0, hz0⟩ : ∃ z0, lN S9 = z0 := ⟨_, rfl⟩
  refine Cn.of (d := mX5_withoutLowest) (by decide +kernel) (Nat.le_of_ble_eq_true rfl) ?_
  intro p e R s m args below meth c CX
  replace CX : Ctx p s m args meth c R w RX5 "withoutLowest" cX5_withoutLowest 6 (some .long) 0 0 0 0 := CX
  show ZW p l e R s m args below meth c w 6 _ _ 0 0 (MQ below (Qn w _ _ _) args s 0 0 (wA w)) 0 [(0, .long (lN S9)), (2, .int _)] []
  have LP : ∀ (j i : Nat), i + j = N9 → ZW p l e R s m args below meth c w 6 hs n 0 0 (MQ below (Qn w hs n (some (.long (lN (lwN S9 N9))))) args s 0 0 (wA w)) 5 [(0, .long (lN S9)), (2, .int (nI N9)), (3, .long (lN (lwN S9 i))), (5, .int (nI i))] [] := by
    intro j
    induction j with
    | zero =>
      intro i hi
      have hi9 : i = N9 := by omega
      subst hi9
      refine z_iload CX dX5_withoutLowest_5 rfl ?_
      refine z_iload_n CX 2 dX5_withoutLowest_7 rfl rfl ?_
      refine z_icmp_ge CX 23 dX5_withoutLowest_8 (by decide) (fun _ => ?_) (fun q9 => absurd (nI_le (Nat.le_refl _) (by omega)) q9)
      refine z_lload_n CX 3 dX5_withoutLowest_23 rfl rfl ?_
      exact z_lret CX dX5_withoutLowest_24 rfl rfl rfl (Or.inl rfl)
    | succ j ih =>
      intro i hi
      refine z_iload CX dX5_withoutLowest_5 rfl ?_
      refine z_iload_n CX 2 dX5_withoutLowest_7 rfl rfl ?_
      refine z_icmp_ge CX 23 dX5_withoutLowest_8 (by decide) (fun q9 => absurd q9 (nI_ge (by omega) (by omega))) (fun _ => ?_)
      refine z_lload_n CX 3 dX5_withoutLowest_11 rfl rfl ?_
      refine z_ldc2 CX (v := 100000) dX5_withoutLowest_12 (wa_mem 734 (by decide +kernel) rfl) ?_
      refine z_ldiv CX dX5_withoutLowest_15 (by decide) ?_
      rw [show lN (lwN S9 i) / 100000 = lN (lwN S9 (i + 1)) from pk_lDiv (b := 100000) (Nat.lt_of_le_of_lt (lwN_le i) hS) (by omega) (by omega)]
      refine z_lstore_n CX 3 dX5_withoutLowest_16 rfl (by decide) ?_
      refine z_iinc CX (v := nI (i + 1)) dX5_withoutLowest_17 rfl (nI_1 i) (by decide) ?_
      refine z_goto CX 5 dX5_withoutLowest_20 (by decide) ?_
      refine z_loc [(0, .long (lN S9)), (2, .int (nI N9)), (3, .long (lN (lwN S9 (i + 1)))), (5, .int (nI (i + 1)))] ⟨rfl, rfl, rfl, rfl, trivial⟩ ?_
      exact ih (i + 1) (by omega)
  refine z_lload_n CX 0 dX5_withoutLowest_0 rfl rfl ?_
  refine z_lstore_n CX 3 dX5_withoutLowest_1 rfl (by decide) ?_
  refine z_iconst CX (v := 0) dX5_withoutLowest_2 (by decide) ?_
  refine z_istore CX dX5_withoutLowest_3 (by decide) ?_
  refine z_loc [(0, .long (lN S9)), (2, .int (nI N9)), (3, .long (lN S9)), (5, .int (nI 0))] ⟨rfl, rfl, rfl, rfl, trivial⟩ ?_
  exact LP N9 0 (by omega)
theorem gq9 {G : Nat} (h : G < 100000) : (10 : Int32) * nI (G / 10 % 10) + nI (G % 10) = nI (G % 100) := by
  rw [show (10 : Int32) = nI 10 from rfl, pk_mul, nI_add, show 10 * (G / 10 % 10) + G % 10 = G % 100 by omega]
theorem ge0 {E : Nat} (h : E = 0) : ¬ (nI E ≠ 0) := fun z => z (by rw [h]; rfl)
theorem gn0 {E : Nat} (h : ¬ E = 0) (h2 : E < 2 ^ 31) : nI E ≠ 0 := nI_ne0 (by omega) h2
set_option maxHeartbeats 4000000 in
set_option maxRecDepth 100000 in
theorem g_suc {l : Launch} {w : Wt} {hs : Hs} {n : Option Nat} {k : Nat} {T : TXs} {Y : HIs} {S : SHs} {N : TTs} {f : Nat → Int32} {x : Int32} {z : Nat → Nat → Int32} (hO : OKr f) {G : Nat} (hG : G < 100000) : Cn l w mX5_succeeds 0 0 [.ref (wB w + k), .int (nI G)] (GB w hs k T N (nT f x z) Y S) n (GB w hs k T N (nT (cmdF f G).2 x z) Y S) n (some (.int (bI (cmdF f G).1))) := by
  have hR : RIs f := hO.1
  have h9 := hO.2.2
  obtain ⟨q, hq⟩ : ∃ q, G / 10000 = q := ⟨_, rfl⟩
  have hq9 : q < 10 := by omega
  match q, hq9, hq with
  | 0, _, hq =>
    rw [show cmdF f G = (false, f) by unfold cmdF; rw [hq]; exact rfl]
    refine Cn.of (d := mX5_succeeds) (by decide +kernel) (Nat.le_of_ble_eq_true rfl) ?_
    intro p e R s m args below meth c CX
    replace CX : Ctx p s m args meth c R w RX5 "succeeds" cX5_succeeds 7 (some .boolean) 5 121 0 0 := CX
    show ZW p l e R s m args below meth c w 7 _ _ 0 0 (MQ below (Qn w _ _ _) args s 0 0 (wA w)) 0 [(0, .ref (wB w + k)), (1, .int _)] []
    refine z_iload_n CX 1 dX5_succeeds_0 rfl rfl ?_
    refine z_sipush CX (v := 1000) dX5_succeeds_1 (by decide) ?_
    refine z_idiv CX dX5_succeeds_4 (by decide) ?_
    refine z_bipush CX (v := 10) dX5_succeeds_5 (by decide) ?_
    refine z_irem CX dX5_succeeds_7 (by decide) ?_
    rw [gq1 hG]
    refine z_istore_n CX 2 dX5_succeeds_8 rfl (by decide) ?_
    refine z_iload_n CX 1 dX5_succeeds_9 rfl rfl ?_
    refine z_bipush CX (v := 100) dX5_succeeds_10 (by decide) ?_
    refine z_idiv CX dX5_succeeds_12 (by decide) ?_
    refine z_bipush CX (v := 10) dX5_succeeds_13 (by decide) ?_
    refine z_irem CX dX5_succeeds_15 (by decide) ?_
    rw [gq2 hG]
    refine z_istore_n CX 3 dX5_succeeds_16 rfl (by decide) ?_
    refine z_iload_n CX 1 dX5_succeeds_17 rfl rfl ?_
    refine z_bipush CX (v := 10) dX5_succeeds_18 (by decide) ?_
    refine z_idiv CX dX5_succeeds_20 (by decide) ?_
    refine z_bipush CX (v := 10) dX5_succeeds_21 (by decide) ?_
    refine z_irem CX dX5_succeeds_23 (by decide) ?_
    rw [gq3 hG]
    refine z_istore CX dX5_succeeds_24 (by decide) ?_
    refine z_iload_n CX 1 dX5_succeeds_26 rfl rfl ?_
    refine z_bipush CX (v := 10) dX5_succeeds_27 (by decide) ?_
    refine z_irem CX dX5_succeeds_29 (by decide) ?_
    rw [gq5 hG]
    refine z_istore CX dX5_succeeds_30 (by decide) ?_
    refine z_bipush CX (v := 10) dX5_succeeds_32 (by decide) ?_
    refine z_iload CX dX5_succeeds_34 rfl ?_
    refine z_imul CX dX5_succeeds_36 ?_
    refine z_iload CX dX5_succeeds_37 rfl ?_
    refine z_iadd CX dX5_succeeds_39 ?_
    rw [gq9 hG]
    refine z_istore CX dX5_succeeds_40 (by decide) ?_
    refine z_iload_n CX 1 dX5_succeeds_42 rfl rfl ?_
    refine z_sipush CX (v := 10000) dX5_succeeds_43 (by decide) ?_
    refine z_idiv CX dX5_succeeds_46 (by decide) ?_
    rw [gq7 hG, hq]
    refine z_tabOut CX 376 dX5_succeeds_47 (by decide) (by decide) ?_
    refine z_iconst CX (v := 0) dX5_succeeds_376 (by decide) ?_
    exact z_zret CX dX5_succeeds_377 rfl (by first | rfl | exact bI_nar _) rfl rfl (Or.inl rfl)
  | 1, _, hq =>
    by_cases hc : G % 100 = 0
    · rw [show cmdF f G = pfL f (nI (G / 1000 % 10)) (nI (G / 100 % 10)) by unfold cmdF; rw [hq]; exact if_pos hc]
      refine Cn.of (d := mX5_succeeds) (by decide +kernel) (Nat.le_of_ble_eq_true rfl) ?_
      intro p e R s m args below meth c CX
      replace CX : Ctx p s m args meth c R w RX5 "succeeds" cX5_succeeds 7 (some .boolean) 5 121 0 0 := CX
      show ZW p l e R s m args below meth c w 7 _ _ 0 0 (MQ below (Qn w _ _ _) args s 0 0 (wA w)) 0 [(0, .ref (wB w + k)), (1, .int _)] []
      refine z_iload_n CX 1 dX5_succeeds_0 rfl rfl ?_
      refine z_sipush CX (v := 1000) dX5_succeeds_1 (by decide) ?_
      refine z_idiv CX dX5_succeeds_4 (by decide) ?_
      refine z_bipush CX (v := 10) dX5_succeeds_5 (by decide) ?_
      refine z_irem CX dX5_succeeds_7 (by decide) ?_
      rw [gq1 hG]
      refine z_istore_n CX 2 dX5_succeeds_8 rfl (by decide) ?_
      refine z_iload_n CX 1 dX5_succeeds_9 rfl rfl ?_
      refine z_bipush CX (v := 100) dX5_succeeds_10 (by decide) ?_
      refine z_idiv CX dX5_succeeds_12 (by decide) ?_
      refine z_bipush CX (v := 10) dX5_succeeds_13 (by decide) ?_
      refine z_irem CX dX5_succeeds_15 (by decide) ?_
      rw [gq2 hG]
      refine z_istore_n CX 3 dX5_succeeds_16 rfl (by decide) ?_
      refine z_iload_n CX 1 dX5_succeeds_17 rfl rfl ?_
      refine z_bipush CX (v := 10) dX5_succeeds_18 (by decide) ?_
      refine z_idiv CX dX5_succeeds_20 (by decide) ?_
      refine z_bipush CX (v := 10) dX5_succeeds_21 (by decide) ?_
      refine z_irem CX dX5_succeeds_23 (by decide) ?_
      rw [gq3 hG]
      refine z_istore CX dX5_succeeds_24 (by decide) ?_
      refine z_iload_n CX 1 dX5_succeeds_26 rfl rfl ?_
      refine z_bipush CX (v := 10) dX5_succeeds_27 (by decide) ?_
      refine z_irem CX dX5_succeeds_29 (by decide) ?_
      rw [gq5 hG]
      refine z_istore CX dX5_succeeds_30 (by decide) ?_
      refine z_bipush CX (v := 10) dX5_succeeds_32 (by decide) ?_
      refine z_iload CX dX5_succeeds_34 rfl ?_
      refine z_imul CX dX5_succeeds_36 ?_
      refine z_iload CX dX5_succeeds_37 rfl ?_
      refine z_iadd CX dX5_succeeds_39 ?_
      rw [gq9 hG]
      refine z_istore CX dX5_succeeds_40 (by decide) ?_
      refine z_iload_n CX 1 dX5_succeeds_42 rfl rfl ?_
      refine z_sipush CX (v := 10000) dX5_succeeds_43 (by decide) ?_
      refine z_idiv CX dX5_succeeds_46 (by decide) ?_
      rw [gq7 hG, hq]
      refine z_tabIn CX 96 dX5_succeeds_47 (by decide) (by decide) rfl (by decide) ?_
      refine z_iload CX dX5_succeeds_96 rfl ?_
      refine z_if_ne CX 121 dX5_succeeds_98 (by decide) (fun q9 => absurd q9 (ge0 (show (G % 100) = 0 by omega))) (fun _ => ?_)
      refine z_aload_n CX 0 dX5_succeeds_101 rfl rfl ?_
      refine z_get CX dX5_succeeds_102 fg_X5_23 gb_0 rfl ?_
      refine z_bipush CX (v := 108) dX5_succeeds_105 (by decide) ?_
      refine z_iload_n CX 2 dX5_succeeds_107 rfl rfl ?_
      refine z_iload_n CX 3 dX5_succeeds_108 rfl rfl ?_
      refine z_iconst CX (v := 0) dX5_succeeds_109 (by decide) ?_
      refine z_iconst CX (v := 0) dX5_succeeds_110 (by decide) ?_
      refine z_callV1 CX dX5_succeeds_111 cv_X5_252 (g_pL hO (nI (G / 1000 % 10)) (nI (G / 100 % 10))) gb_c0 rfl rfl (Nat.le_of_ble_eq_true rfl) ⟨Nat.le_of_ble_eq_true rfl, Nat.le_of_ble_eq_true rfl⟩ ⟨Nat.le_refl _, Nat.le_refl _⟩ ?_
      refine z_if_eq CX 121 dX5_succeeds_114 (by decide) (fun c_114 => ?_) (fun c_114 => ?_)
      · skip
        refine z_iconst CX (v := 0) dX5_succeeds_121 (by decide) ?_
        exact z_zret CX dX5_succeeds_122 rfl (by first | rfl | exact bI_nar _) (congrArg Value.int (by rw [bI_f c_114]; rfl)) rfl (Or.inl rfl)
      · skip
        refine z_iconst CX (v := 1) dX5_succeeds_117 (by decide) ?_
        refine z_goto CX 122 dX5_succeeds_118 (by decide) ?_
        exact z_zret CX dX5_succeeds_122 rfl (by first | rfl | exact bI_nar _) (congrArg Value.int (by rw [bI_t c_114]; rfl)) rfl (Or.inl rfl)
    · rw [show cmdF f G = (false, f) by unfold cmdF; rw [hq]; exact if_neg hc]
      refine Cn.of (d := mX5_succeeds) (by decide +kernel) (Nat.le_of_ble_eq_true rfl) ?_
      intro p e R s m args below meth c CX
      replace CX : Ctx p s m args meth c R w RX5 "succeeds" cX5_succeeds 7 (some .boolean) 5 121 0 0 := CX
      show ZW p l e R s m args below meth c w 7 _ _ 0 0 (MQ below (Qn w _ _ _) args s 0 0 (wA w)) 0 [(0, .ref (wB w + k)), (1, .int _)] []
      refine z_iload_n CX 1 dX5_succeeds_0 rfl rfl ?_
      refine z_sipush CX (v := 1000) dX5_succeeds_1 (by decide) ?_
      refine z_idiv CX dX5_succeeds_4 (by decide) ?_
      refine z_bipush CX (v := 10) dX5_succeeds_5 (by decide) ?_
      refine z_irem CX dX5_succeeds_7 (by decide) ?_
      rw [gq1 hG]
      refine z_istore_n CX 2 dX5_succeeds_8 rfl (by decide) ?_
      refine z_iload_n CX 1 dX5_succeeds_9 rfl rfl ?_
      refine z_bipush CX (v := 100) dX5_succeeds_10 (by decide) ?_
      refine z_idiv CX dX5_succeeds_12 (by decide) ?_
      refine z_bipush CX (v := 10) dX5_succeeds_13 (by decide) ?_
      refine z_irem CX dX5_succeeds_15 (by decide) ?_
      rw [gq2 hG]
      refine z_istore_n CX 3 dX5_succeeds_16 rfl (by decide) ?_
      refine z_iload_n CX 1 dX5_succeeds_17 rfl rfl ?_
      refine z_bipush CX (v := 10) dX5_succeeds_18 (by decide) ?_
      refine z_idiv CX dX5_succeeds_20 (by decide) ?_
      refine z_bipush CX (v := 10) dX5_succeeds_21 (by decide) ?_
      refine z_irem CX dX5_succeeds_23 (by decide) ?_
      rw [gq3 hG]
      refine z_istore CX dX5_succeeds_24 (by decide) ?_
      refine z_iload_n CX 1 dX5_succeeds_26 rfl rfl ?_
      refine z_bipush CX (v := 10) dX5_succeeds_27 (by decide) ?_
      refine z_irem CX dX5_succeeds_29 (by decide) ?_
      rw [gq5 hG]
      refine z_istore CX dX5_succeeds_30 (by decide) ?_
      refine z_bipush CX (v := 10) dX5_succeeds_32 (by decide) ?_
      refine z_iload CX dX5_succeeds_34 rfl ?_
      refine z_imul CX dX5_succeeds_36 ?_
      refine z_iload CX dX5_succeeds_37 rfl ?_
      refine z_iadd CX dX5_succeeds_39 ?_
      rw [gq9 hG]
      refine z_istore CX dX5_succeeds_40 (by decide) ?_
      refine z_iload_n CX 1 dX5_succeeds_42 rfl rfl ?_
      refine z_sipush CX (v := 10000) dX5_succeeds_43 (by decide) ?_
      refine z_idiv CX dX5_succeeds_46 (by decide) ?_
      rw [gq7 hG, hq]
      refine z_tabIn CX 96 dX5_succeeds_47 (by decide) (by decide) rfl (by decide) ?_
      refine z_iload CX dX5_succeeds_96 rfl ?_
      refine z_if_ne CX 121 dX5_succeeds_98 (by decide) (fun _ => ?_) (fun q9 => absurd q9 (gn0 (show ¬ (G % 100) = 0 by omega) (by omega)))
      refine z_iconst CX (v := 0) dX5_succeeds_121 (by decide) ?_
      exact z_zret CX dX5_succeeds_122 rfl (by first | rfl | exact bI_nar _) rfl rfl (Or.inl rfl)
  | 2, _, hq =>
    by_cases hc : G % 10000 < 100
    · rw [show cmdF f G = pfM f (nI (G % 100)) by unfold cmdF; rw [hq]; exact if_pos hc]
      refine Cn.of (d := mX5_succeeds) (by decide +kernel) (Nat.le_of_ble_eq_true rfl) ?_
      intro p e R s m args below meth c CX
      replace CX : Ctx p s m args meth c R w RX5 "succeeds" cX5_succeeds 7 (some .boolean) 5 121 0 0 := CX
      show ZW p l e R s m args below meth c w 7 _ _ 0 0 (MQ below (Qn w _ _ _) args s 0 0 (wA w)) 0 [(0, .ref (wB w + k)), (1, .int _)] []
      refine z_iload_n CX 1 dX5_succeeds_0 rfl rfl ?_
      refine z_sipush CX (v := 1000) dX5_succeeds_1 (by decide) ?_
      refine z_idiv CX dX5_succeeds_4 (by decide) ?_
      refine z_bipush CX (v := 10) dX5_succeeds_5 (by decide) ?_
      refine z_irem CX dX5_succeeds_7 (by decide) ?_
      rw [gq1 hG]
      refine z_istore_n CX 2 dX5_succeeds_8 rfl (by decide) ?_
      refine z_iload_n CX 1 dX5_succeeds_9 rfl rfl ?_
      refine z_bipush CX (v := 100) dX5_succeeds_10 (by decide) ?_
      refine z_idiv CX dX5_succeeds_12 (by decide) ?_
      refine z_bipush CX (v := 10) dX5_succeeds_13 (by decide) ?_
      refine z_irem CX dX5_succeeds_15 (by decide) ?_
      rw [gq2 hG]
      refine z_istore_n CX 3 dX5_succeeds_16 rfl (by decide) ?_
      refine z_iload_n CX 1 dX5_succeeds_17 rfl rfl ?_
      refine z_bipush CX (v := 10) dX5_succeeds_18 (by decide) ?_
      refine z_idiv CX dX5_succeeds_20 (by decide) ?_
      refine z_bipush CX (v := 10) dX5_succeeds_21 (by decide) ?_
      refine z_irem CX dX5_succeeds_23 (by decide) ?_
      rw [gq3 hG]
      refine z_istore CX dX5_succeeds_24 (by decide) ?_
      refine z_iload_n CX 1 dX5_succeeds_26 rfl rfl ?_
      refine z_bipush CX (v := 10) dX5_succeeds_27 (by decide) ?_
      refine z_irem CX dX5_succeeds_29 (by decide) ?_
      rw [gq5 hG]
      refine z_istore CX dX5_succeeds_30 (by decide) ?_
      refine z_bipush CX (v := 10) dX5_succeeds_32 (by decide) ?_
      refine z_iload CX dX5_succeeds_34 rfl ?_
      refine z_imul CX dX5_succeeds_36 ?_
      refine z_iload CX dX5_succeeds_37 rfl ?_
      refine z_iadd CX dX5_succeeds_39 ?_
      rw [gq9 hG]
      refine z_istore CX dX5_succeeds_40 (by decide) ?_
      refine z_iload_n CX 1 dX5_succeeds_42 rfl rfl ?_
      refine z_sipush CX (v := 10000) dX5_succeeds_43 (by decide) ?_
      refine z_idiv CX dX5_succeeds_46 (by decide) ?_
      rw [gq7 hG, hq]
      refine z_tabIn CX 123 dX5_succeeds_47 (by decide) (by decide) rfl (by decide) ?_
      refine z_iload_n CX 2 dX5_succeeds_123 rfl rfl ?_
      refine z_if_ne CX 152 dX5_succeeds_124 (by decide) (fun q9 => absurd q9 (ge0 (show (G / 1000 % 10) = 0 by omega))) (fun _ => ?_)
      refine z_iload_n CX 3 dX5_succeeds_127 rfl rfl ?_
      refine z_if_ne CX 152 dX5_succeeds_128 (by decide) (fun q9 => absurd q9 (ge0 (show (G / 100 % 10) = 0 by omega))) (fun _ => ?_)
      refine z_aload_n CX 0 dX5_succeeds_131 rfl rfl ?_
      refine z_get CX dX5_succeeds_132 fg_X5_23 gb_0 rfl ?_
      refine z_bipush CX (v := 109) dX5_succeeds_135 (by decide) ?_
      refine z_iload CX dX5_succeeds_137 rfl ?_
      refine z_iconst CX (v := 0) dX5_succeeds_139 (by decide) ?_
      refine z_iconst CX (v := 0) dX5_succeeds_140 (by decide) ?_
      refine z_iconst CX (v := 0) dX5_succeeds_141 (by decide) ?_
      refine z_callV1 CX dX5_succeeds_142 cv_X5_252 (g_pM hO (nI (G % 100))) gb_c0 rfl rfl (Nat.le_of_ble_eq_true rfl) ⟨Nat.le_of_ble_eq_true rfl, Nat.le_of_ble_eq_true rfl⟩ ⟨Nat.le_refl _, Nat.le_refl _⟩ ?_
      refine z_if_eq CX 152 dX5_succeeds_145 (by decide) (fun c_145 => ?_) (fun c_145 => ?_)
      · skip
        refine z_iconst CX (v := 0) dX5_succeeds_152 (by decide) ?_
        exact z_zret CX dX5_succeeds_153 rfl (by first | rfl | exact bI_nar _) (congrArg Value.int (by rw [bI_f c_145]; rfl)) rfl (Or.inl rfl)
      · skip
        refine z_iconst CX (v := 1) dX5_succeeds_148 (by decide) ?_
        refine z_goto CX 153 dX5_succeeds_149 (by decide) ?_
        exact z_zret CX dX5_succeeds_153 rfl (by first | rfl | exact bI_nar _) (congrArg Value.int (by rw [bI_t c_145]; rfl)) rfl (Or.inl rfl)
    · rw [show cmdF f G = (false, f) by unfold cmdF; rw [hq]; exact if_neg hc]
      by_cases hd : (G / 1000 % 10) = 0
      · skip
        refine Cn.of (d := mX5_succeeds) (by decide +kernel) (Nat.le_of_ble_eq_true rfl) ?_
        intro p e R s m args below meth c CX
        replace CX : Ctx p s m args meth c R w RX5 "succeeds" cX5_succeeds 7 (some .boolean) 5 121 0 0 := CX
        show ZW p l e R s m args below meth c w 7 _ _ 0 0 (MQ below (Qn w _ _ _) args s 0 0 (wA w)) 0 [(0, .ref (wB w + k)), (1, .int _)] []
        refine z_iload_n CX 1 dX5_succeeds_0 rfl rfl ?_
        refine z_sipush CX (v := 1000) dX5_succeeds_1 (by decide) ?_
        refine z_idiv CX dX5_succeeds_4 (by decide) ?_
        refine z_bipush CX (v := 10) dX5_succeeds_5 (by decide) ?_
        refine z_irem CX dX5_succeeds_7 (by decide) ?_
        rw [gq1 hG]
        refine z_istore_n CX 2 dX5_succeeds_8 rfl (by decide) ?_
        refine z_iload_n CX 1 dX5_succeeds_9 rfl rfl ?_
        refine z_bipush CX (v := 100) dX5_succeeds_10 (by decide) ?_
        refine z_idiv CX dX5_succeeds_12 (by decide) ?_
        refine z_bipush CX (v := 10) dX5_succeeds_13 (by decide) ?_
        refine z_irem CX dX5_succeeds_15 (by decide) ?_
        rw [gq2 hG]
        refine z_istore_n CX 3 dX5_succeeds_16 rfl (by decide) ?_
        refine z_iload_n CX 1 dX5_succeeds_17 rfl rfl ?_
        refine z_bipush CX (v := 10) dX5_succeeds_18 (by decide) ?_
        refine z_idiv CX dX5_succeeds_20 (by decide) ?_
        refine z_bipush CX (v := 10) dX5_succeeds_21 (by decide) ?_
        refine z_irem CX dX5_succeeds_23 (by decide) ?_
        rw [gq3 hG]
        refine z_istore CX dX5_succeeds_24 (by decide) ?_
        refine z_iload_n CX 1 dX5_succeeds_26 rfl rfl ?_
        refine z_bipush CX (v := 10) dX5_succeeds_27 (by decide) ?_
        refine z_irem CX dX5_succeeds_29 (by decide) ?_
        rw [gq5 hG]
        refine z_istore CX dX5_succeeds_30 (by decide) ?_
        refine z_bipush CX (v := 10) dX5_succeeds_32 (by decide) ?_
        refine z_iload CX dX5_succeeds_34 rfl ?_
        refine z_imul CX dX5_succeeds_36 ?_
        refine z_iload CX dX5_succeeds_37 rfl ?_
        refine z_iadd CX dX5_succeeds_39 ?_
        rw [gq9 hG]
        refine z_istore CX dX5_succeeds_40 (by decide) ?_
        refine z_iload_n CX 1 dX5_succeeds_42 rfl rfl ?_
        refine z_sipush CX (v := 10000) dX5_succeeds_43 (by decide) ?_
        refine z_idiv CX dX5_succeeds_46 (by decide) ?_
        rw [gq7 hG, hq]
        refine z_tabIn CX 123 dX5_succeeds_47 (by decide) (by decide) rfl (by decide) ?_
        refine z_iload_n CX 2 dX5_succeeds_123 rfl rfl ?_
        refine z_if_ne CX 152 dX5_succeeds_124 (by decide) (fun q9 => absurd q9 (ge0 hd)) (fun _ => ?_)
        refine z_iload_n CX 3 dX5_succeeds_127 rfl rfl ?_
        refine z_if_ne CX 152 dX5_succeeds_128 (by decide) (fun _ => ?_) (fun q9 => absurd q9 (gn0 (show ¬ (G / 100 % 10) = 0 by omega) (by omega)))
        refine z_iconst CX (v := 0) dX5_succeeds_152 (by decide) ?_
        exact z_zret CX dX5_succeeds_153 rfl (by first | rfl | exact bI_nar _) rfl rfl (Or.inl rfl)
      · skip
        refine Cn.of (d := mX5_succeeds) (by decide +kernel) (Nat.le_of_ble_eq_true rfl) ?_
        intro p e R s m args below meth c CX
        replace CX : Ctx p s m args meth c R w RX5 "succeeds" cX5_succeeds 7 (some .boolean) 5 121 0 0 := CX
        show ZW p l e R s m args below meth c w 7 _ _ 0 0 (MQ below (Qn w _ _ _) args s 0 0 (wA w)) 0 [(0, .ref (wB w + k)), (1, .int _)] []
        refine z_iload_n CX 1 dX5_succeeds_0 rfl rfl ?_
        refine z_sipush CX (v := 1000) dX5_succeeds_1 (by decide) ?_
        refine z_idiv CX dX5_succeeds_4 (by decide) ?_
        refine z_bipush CX (v := 10) dX5_succeeds_5 (by decide) ?_
        refine z_irem CX dX5_succeeds_7 (by decide) ?_
        rw [gq1 hG]
        refine z_istore_n CX 2 dX5_succeeds_8 rfl (by decide) ?_
        refine z_iload_n CX 1 dX5_succeeds_9 rfl rfl ?_
        refine z_bipush CX (v := 100) dX5_succeeds_10 (by decide) ?_
        refine z_idiv CX dX5_succeeds_12 (by decide) ?_
        refine z_bipush CX (v := 10) dX5_succeeds_13 (by decide) ?_
        refine z_irem CX dX5_succeeds_15 (by decide) ?_
        rw [gq2 hG]
        refine z_istore_n CX 3 dX5_succeeds_16 rfl (by decide) ?_
        refine z_iload_n CX 1 dX5_succeeds_17 rfl rfl ?_
        refine z_bipush CX (v := 10) dX5_succeeds_18 (by decide) ?_
        refine z_idiv CX dX5_succeeds_20 (by decide) ?_
        refine z_bipush CX (v := 10) dX5_succeeds_21 (by decide) ?_
        refine z_irem CX dX5_succeeds_23 (by decide) ?_
        rw [gq3 hG]
        refine z_istore CX dX5_succeeds_24 (by decide) ?_
        refine z_iload_n CX 1 dX5_succeeds_26 rfl rfl ?_
        refine z_bipush CX (v := 10) dX5_succeeds_27 (by decide) ?_
        refine z_irem CX dX5_succeeds_29 (by decide) ?_
        rw [gq5 hG]
        refine z_istore CX dX5_succeeds_30 (by decide) ?_
        refine z_bipush CX (v := 10) dX5_succeeds_32 (by decide) ?_
        refine z_iload CX dX5_succeeds_34 rfl ?_
        refine z_imul CX dX5_succeeds_36 ?_
        refine z_iload CX dX5_succeeds_37 rfl ?_
        refine z_iadd CX dX5_succeeds_39 ?_
        rw [gq9 hG]
        refine z_istore CX dX5_succeeds_40 (by decide) ?_
        refine z_iload_n CX 1 dX5_succeeds_42 rfl rfl ?_
        refine z_sipush CX (v := 10000) dX5_succeeds_43 (by decide) ?_
        refine z_idiv CX dX5_succeeds_46 (by decide) ?_
        rw [gq7 hG, hq]
        refine z_tabIn CX 123 dX5_succeeds_47 (by decide) (by decide) rfl (by decide) ?_
        refine z_iload_n CX 2 dX5_succeeds_123 rfl rfl ?_
        refine z_if_ne CX 152 dX5_succeeds_124 (by decide) (fun _ => ?_) (fun q9 => absurd q9 (gn0 hd (by omega)))
        refine z_iconst CX (v := 0) dX5_succeeds_152 (by decide) ?_
        exact z_zret CX dX5_succeeds_153 rfl (by first | rfl | exact bI_nar _) rfl rfl (Or.inl rfl)
  | 3, _, hq =>
    rw [show cmdF f G = pfH f (nI (G / 1000 % 10)) (nI (G / 100 % 10)) (nI (G % 100)) by unfold cmdF; rw [hq]; exact rfl]
    refine Cn.of (d := mX5_succeeds) (by decide +kernel) (Nat.le_of_ble_eq_true rfl) ?_
    intro p e R s m args below meth c CX
    replace CX : Ctx p s m args meth c R w RX5 "succeeds" cX5_succeeds 7 (some .boolean) 5 121 0 0 := CX
    show ZW p l e R s m args below meth c w 7 _ _ 0 0 (MQ below (Qn w _ _ _) args s 0 0 (wA w)) 0 [(0, .ref (wB w + k)), (1, .int _)] []
    refine z_iload_n CX 1 dX5_succeeds_0 rfl rfl ?_
    refine z_sipush CX (v := 1000) dX5_succeeds_1 (by decide) ?_
    refine z_idiv CX dX5_succeeds_4 (by decide) ?_
    refine z_bipush CX (v := 10) dX5_succeeds_5 (by decide) ?_
    refine z_irem CX dX5_succeeds_7 (by decide) ?_
    rw [gq1 hG]
    refine z_istore_n CX 2 dX5_succeeds_8 rfl (by decide) ?_
    refine z_iload_n CX 1 dX5_succeeds_9 rfl rfl ?_
    refine z_bipush CX (v := 100) dX5_succeeds_10 (by decide) ?_
    refine z_idiv CX dX5_succeeds_12 (by decide) ?_
    refine z_bipush CX (v := 10) dX5_succeeds_13 (by decide) ?_
    refine z_irem CX dX5_succeeds_15 (by decide) ?_
    rw [gq2 hG]
    refine z_istore_n CX 3 dX5_succeeds_16 rfl (by decide) ?_
    refine z_iload_n CX 1 dX5_succeeds_17 rfl rfl ?_
    refine z_bipush CX (v := 10) dX5_succeeds_18 (by decide) ?_
    refine z_idiv CX dX5_succeeds_20 (by decide) ?_
    refine z_bipush CX (v := 10) dX5_succeeds_21 (by decide) ?_
    refine z_irem CX dX5_succeeds_23 (by decide) ?_
    rw [gq3 hG]
    refine z_istore CX dX5_succeeds_24 (by decide) ?_
    refine z_iload_n CX 1 dX5_succeeds_26 rfl rfl ?_
    refine z_bipush CX (v := 10) dX5_succeeds_27 (by decide) ?_
    refine z_irem CX dX5_succeeds_29 (by decide) ?_
    rw [gq5 hG]
    refine z_istore CX dX5_succeeds_30 (by decide) ?_
    refine z_bipush CX (v := 10) dX5_succeeds_32 (by decide) ?_
    refine z_iload CX dX5_succeeds_34 rfl ?_
    refine z_imul CX dX5_succeeds_36 ?_
    refine z_iload CX dX5_succeeds_37 rfl ?_
    refine z_iadd CX dX5_succeeds_39 ?_
    rw [gq9 hG]
    refine z_istore CX dX5_succeeds_40 (by decide) ?_
    refine z_iload_n CX 1 dX5_succeeds_42 rfl rfl ?_
    refine z_sipush CX (v := 10000) dX5_succeeds_43 (by decide) ?_
    refine z_idiv CX dX5_succeeds_46 (by decide) ?_
    rw [gq7 hG, hq]
    refine z_tabIn CX 154 dX5_succeeds_47 (by decide) (by decide) rfl (by decide) ?_
    refine z_aload_n CX 0 dX5_succeeds_154 rfl rfl ?_
    refine z_get CX dX5_succeeds_155 fg_X5_23 gb_0 rfl ?_
    refine z_bipush CX (v := 104) dX5_succeeds_158 (by decide) ?_
    refine z_iload_n CX 2 dX5_succeeds_160 rfl rfl ?_
    refine z_iload_n CX 3 dX5_succeeds_161 rfl rfl ?_
    refine z_iload CX dX5_succeeds_162 rfl ?_
    refine z_iconst CX (v := 0) dX5_succeeds_164 (by decide) ?_
    refine z_callV1 CX dX5_succeeds_165 cv_X5_252 (g_pH hO (nI (G / 1000 % 10)) (nI (G / 100 % 10)) (nI (G % 100))) gb_c0 rfl rfl (Nat.le_of_ble_eq_true rfl) ⟨Nat.le_of_ble_eq_true rfl, Nat.le_of_ble_eq_true rfl⟩ ⟨Nat.le_refl _, Nat.le_refl _⟩ ?_
    exact z_zret CX dX5_succeeds_168 rfl (by first | rfl | exact bI_nar _) rfl rfl (Or.inl rfl)
  | 4, _, hq =>
    by_cases hc : G % 100 = 0
    · rw [show cmdF f G = pfT f (nI (G / 1000 % 10)) (nI (G / 100 % 10)) by unfold cmdF; rw [hq]; exact if_pos hc]
      refine Cn.of (d := mX5_succeeds) (by decide +kernel) (Nat.le_of_ble_eq_true rfl) ?_
      intro p e R s m args below meth c CX
      replace CX : Ctx p s m args meth c R w RX5 "succeeds" cX5_succeeds 7 (some .boolean) 5 121 0 0 := CX
      show ZW p l e R s m args below meth c w 7 _ _ 0 0 (MQ below (Qn w _ _ _) args s 0 0 (wA w)) 0 [(0, .ref (wB w + k)), (1, .int _)] []
      refine z_iload_n CX 1 dX5_succeeds_0 rfl rfl ?_
      refine z_sipush CX (v := 1000) dX5_succeeds_1 (by decide) ?_
      refine z_idiv CX dX5_succeeds_4 (by decide) ?_
      refine z_bipush CX (v := 10) dX5_succeeds_5 (by decide) ?_
      refine z_irem CX dX5_succeeds_7 (by decide) ?_
      rw [gq1 hG]
      refine z_istore_n CX 2 dX5_succeeds_8 rfl (by decide) ?_
      refine z_iload_n CX 1 dX5_succeeds_9 rfl rfl ?_
      refine z_bipush CX (v := 100) dX5_succeeds_10 (by decide) ?_
      refine z_idiv CX dX5_succeeds_12 (by decide) ?_
      refine z_bipush CX (v := 10) dX5_succeeds_13 (by decide) ?_
      refine z_irem CX dX5_succeeds_15 (by decide) ?_
      rw [gq2 hG]
      refine z_istore_n CX 3 dX5_succeeds_16 rfl (by decide) ?_
      refine z_iload_n CX 1 dX5_succeeds_17 rfl rfl ?_
      refine z_bipush CX (v := 10) dX5_succeeds_18 (by decide) ?_
      refine z_idiv CX dX5_succeeds_20 (by decide) ?_
      refine z_bipush CX (v := 10) dX5_succeeds_21 (by decide) ?_
      refine z_irem CX dX5_succeeds_23 (by decide) ?_
      rw [gq3 hG]
      refine z_istore CX dX5_succeeds_24 (by decide) ?_
      refine z_iload_n CX 1 dX5_succeeds_26 rfl rfl ?_
      refine z_bipush CX (v := 10) dX5_succeeds_27 (by decide) ?_
      refine z_irem CX dX5_succeeds_29 (by decide) ?_
      rw [gq5 hG]
      refine z_istore CX dX5_succeeds_30 (by decide) ?_
      refine z_bipush CX (v := 10) dX5_succeeds_32 (by decide) ?_
      refine z_iload CX dX5_succeeds_34 rfl ?_
      refine z_imul CX dX5_succeeds_36 ?_
      refine z_iload CX dX5_succeeds_37 rfl ?_
      refine z_iadd CX dX5_succeeds_39 ?_
      rw [gq9 hG]
      refine z_istore CX dX5_succeeds_40 (by decide) ?_
      refine z_iload_n CX 1 dX5_succeeds_42 rfl rfl ?_
      refine z_sipush CX (v := 10000) dX5_succeeds_43 (by decide) ?_
      refine z_idiv CX dX5_succeeds_46 (by decide) ?_
      rw [gq7 hG, hq]
      refine z_tabIn CX 169 dX5_succeeds_47 (by decide) (by decide) rfl (by decide) ?_
      refine z_iload CX dX5_succeeds_169 rfl ?_
      refine z_if_ne CX 194 dX5_succeeds_171 (by decide) (fun q9 => absurd q9 (ge0 (show (G % 100) = 0 by omega))) (fun _ => ?_)
      refine z_aload_n CX 0 dX5_succeeds_174 rfl rfl ?_
      refine z_get CX dX5_succeeds_175 fg_X5_23 gb_0 rfl ?_
      refine z_bipush CX (v := 99) dX5_succeeds_178 (by decide) ?_
      refine z_iload_n CX 2 dX5_succeeds_180 rfl rfl ?_
      refine z_iload_n CX 3 dX5_succeeds_181 rfl rfl ?_
      refine z_iconst CX (v := 0) dX5_succeeds_182 (by decide) ?_
      refine z_iconst CX (v := 0) dX5_succeeds_183 (by decide) ?_
      refine z_callV1 CX dX5_succeeds_184 cv_X5_252 (g_pT hO (nI (G / 1000 % 10)) (nI (G / 100 % 10))) gb_c0 rfl rfl (Nat.le_of_ble_eq_true rfl) ⟨Nat.le_of_ble_eq_true rfl, Nat.le_of_ble_eq_true rfl⟩ ⟨Nat.le_refl _, Nat.le_refl _⟩ ?_
      refine z_if_eq CX 194 dX5_succeeds_187 (by decide) (fun c_187 => ?_) (fun c_187 => ?_)
      · skip
        refine z_iconst CX (v := 0) dX5_succeeds_194 (by decide) ?_
        exact z_zret CX dX5_succeeds_195 rfl (by first | rfl | exact bI_nar _) (congrArg Value.int (by rw [bI_f c_187]; rfl)) rfl (Or.inl rfl)
      · skip
        refine z_iconst CX (v := 1) dX5_succeeds_190 (by decide) ?_
        refine z_goto CX 195 dX5_succeeds_191 (by decide) ?_
        exact z_zret CX dX5_succeeds_195 rfl (by first | rfl | exact bI_nar _) (congrArg Value.int (by rw [bI_t c_187]; rfl)) rfl (Or.inl rfl)
    · rw [show cmdF f G = (false, f) by unfold cmdF; rw [hq]; exact if_neg hc]
      refine Cn.of (d := mX5_succeeds) (by decide +kernel) (Nat.le_of_ble_eq_true rfl) ?_
      intro p e R s m args below meth c CX
      replace CX : Ctx p s m args meth c R w RX5 "succeeds" cX5_succeeds 7 (some .boolean) 5 121 0 0 := CX
      show ZW p l e R s m args below meth c w 7 _ _ 0 0 (MQ below (Qn w _ _ _) args s 0 0 (wA w)) 0 [(0, .ref (wB w + k)), (1, .int _)] []
      refine z_iload_n CX 1 dX5_succeeds_0 rfl rfl ?_
      refine z_sipush CX (v := 1000) dX5_succeeds_1 (by decide) ?_
      refine z_idiv CX dX5_succeeds_4 (by decide) ?_
      refine z_bipush CX (v := 10) dX5_succeeds_5 (by decide) ?_
      refine z_irem CX dX5_succeeds_7 (by decide) ?_
      rw [gq1 hG]
      refine z_istore_n CX 2 dX5_succeeds_8 rfl (by decide) ?_
      refine z_iload_n CX 1 dX5_succeeds_9 rfl rfl ?_
      refine z_bipush CX (v := 100) dX5_succeeds_10 (by decide) ?_
      refine z_idiv CX dX5_succeeds_12 (by decide) ?_
      refine z_bipush CX (v := 10) dX5_succeeds_13 (by decide) ?_
      refine z_irem CX dX5_succeeds_15 (by decide) ?_
      rw [gq2 hG]
      refine z_istore_n CX 3 dX5_succeeds_16 rfl (by decide) ?_
      refine z_iload_n CX 1 dX5_succeeds_17 rfl rfl ?_
      refine z_bipush CX (v := 10) dX5_succeeds_18 (by decide) ?_
      refine z_idiv CX dX5_succeeds_20 (by decide) ?_
      refine z_bipush CX (v := 10) dX5_succeeds_21 (by decide) ?_
      refine z_irem CX dX5_succeeds_23 (by decide) ?_
      rw [gq3 hG]
      refine z_istore CX dX5_succeeds_24 (by decide) ?_
      refine z_iload_n CX 1 dX5_succeeds_26 rfl rfl ?_
      refine z_bipush CX (v := 10) dX5_succeeds_27 (by decide) ?_
      refine z_irem CX dX5_succeeds_29 (by decide) ?_
      rw [gq5 hG]
      refine z_istore CX dX5_succeeds_30 (by decide) ?_
      refine z_bipush CX (v := 10) dX5_succeeds_32 (by decide) ?_
      refine z_iload CX dX5_succeeds_34 rfl ?_
      refine z_imul CX dX5_succeeds_36 ?_
      refine z_iload CX dX5_succeeds_37 rfl ?_
      refine z_iadd CX dX5_succeeds_39 ?_
      rw [gq9 hG]
      refine z_istore CX dX5_succeeds_40 (by decide) ?_
      refine z_iload_n CX 1 dX5_succeeds_42 rfl rfl ?_
      refine z_sipush CX (v := 10000) dX5_succeeds_43 (by decide) ?_
      refine z_idiv CX dX5_succeeds_46 (by decide) ?_
      rw [gq7 hG, hq]
      refine z_tabIn CX 169 dX5_succeeds_47 (by decide) (by decide) rfl (by decide) ?_
      refine z_iload CX dX5_succeeds_169 rfl ?_
      refine z_if_ne CX 194 dX5_succeeds_171 (by decide) (fun _ => ?_) (fun q9 => absurd q9 (gn0 (show ¬ (G % 100) = 0 by omega) (by omega)))
      refine z_iconst CX (v := 0) dX5_succeeds_194 (by decide) ?_
      exact z_zret CX dX5_succeeds_195 rfl (by first | rfl | exact bI_nar _) rfl rfl (Or.inl rfl)
  | 5, _, hq =>
    by_cases hc : G % 1000 < 10
    · rw [show cmdF f G = pfS f (nI (G / 1000 % 10)) (nI (G % 10)) by unfold cmdF; rw [hq]; exact if_pos hc]
      refine Cn.of (d := mX5_succeeds) (by decide +kernel) (Nat.le_of_ble_eq_true rfl) ?_
      intro p e R s m args below meth c CX
      replace CX : Ctx p s m args meth c R w RX5 "succeeds" cX5_succeeds 7 (some .boolean) 5 121 0 0 := CX
      show ZW p l e R s m args below meth c w 7 _ _ 0 0 (MQ below (Qn w _ _ _) args s 0 0 (wA w)) 0 [(0, .ref (wB w + k)), (1, .int _)] []
      refine z_iload_n CX 1 dX5_succeeds_0 rfl rfl ?_
      refine z_sipush CX (v := 1000) dX5_succeeds_1 (by decide) ?_
      refine z_idiv CX dX5_succeeds_4 (by decide) ?_
      refine z_bipush CX (v := 10) dX5_succeeds_5 (by decide) ?_
      refine z_irem CX dX5_succeeds_7 (by decide) ?_
      rw [gq1 hG]
      refine z_istore_n CX 2 dX5_succeeds_8 rfl (by decide) ?_
      refine z_iload_n CX 1 dX5_succeeds_9 rfl rfl ?_
      refine z_bipush CX (v := 100) dX5_succeeds_10 (by decide) ?_
      refine z_idiv CX dX5_succeeds_12 (by decide) ?_
      refine z_bipush CX (v := 10) dX5_succeeds_13 (by decide) ?_
      refine z_irem CX dX5_succeeds_15 (by decide) ?_
      rw [gq2 hG]
      refine z_istore_n CX 3 dX5_succeeds_16 rfl (by decide) ?_
      refine z_iload_n CX 1 dX5_succeeds_17 rfl rfl ?_
      refine z_bipush CX (v := 10) dX5_succeeds_18 (by decide) ?_
      refine z_idiv CX dX5_succeeds_20 (by decide) ?_
      refine z_bipush CX (v := 10) dX5_succeeds_21 (by decide) ?_
      refine z_irem CX dX5_succeeds_23 (by decide) ?_
      rw [gq3 hG]
      refine z_istore CX dX5_succeeds_24 (by decide) ?_
      refine z_iload_n CX 1 dX5_succeeds_26 rfl rfl ?_
      refine z_bipush CX (v := 10) dX5_succeeds_27 (by decide) ?_
      refine z_irem CX dX5_succeeds_29 (by decide) ?_
      rw [gq5 hG]
      refine z_istore CX dX5_succeeds_30 (by decide) ?_
      refine z_bipush CX (v := 10) dX5_succeeds_32 (by decide) ?_
      refine z_iload CX dX5_succeeds_34 rfl ?_
      refine z_imul CX dX5_succeeds_36 ?_
      refine z_iload CX dX5_succeeds_37 rfl ?_
      refine z_iadd CX dX5_succeeds_39 ?_
      rw [gq9 hG]
      refine z_istore CX dX5_succeeds_40 (by decide) ?_
      refine z_iload_n CX 1 dX5_succeeds_42 rfl rfl ?_
      refine z_sipush CX (v := 10000) dX5_succeeds_43 (by decide) ?_
      refine z_idiv CX dX5_succeeds_46 (by decide) ?_
      rw [gq7 hG, hq]
      refine z_tabIn CX 196 dX5_succeeds_47 (by decide) (by decide) rfl (by decide) ?_
      refine z_iload_n CX 3 dX5_succeeds_196 rfl rfl ?_
      refine z_if_ne CX 226 dX5_succeeds_197 (by decide) (fun q9 => absurd q9 (ge0 (show (G / 100 % 10) = 0 by omega))) (fun _ => ?_)
      refine z_iload CX dX5_succeeds_200 rfl ?_
      refine z_if_ne CX 226 dX5_succeeds_202 (by decide) (fun q9 => absurd q9 (ge0 (show (G / 10 % 10) = 0 by omega))) (fun _ => ?_)
      refine z_aload_n CX 0 dX5_succeeds_205 rfl rfl ?_
      refine z_get CX dX5_succeeds_206 fg_X5_23 gb_0 rfl ?_
      refine z_bipush CX (v := 115) dX5_succeeds_209 (by decide) ?_
      refine z_iload_n CX 2 dX5_succeeds_211 rfl rfl ?_
      refine z_iload CX dX5_succeeds_212 rfl ?_
      refine z_iconst CX (v := 0) dX5_succeeds_214 (by decide) ?_
      refine z_iconst CX (v := 0) dX5_succeeds_215 (by decide) ?_
      refine z_callV1 CX dX5_succeeds_216 cv_X5_252 (g_pS hO (nI (G / 1000 % 10)) (nI (G % 10))) gb_c0 rfl rfl (Nat.le_of_ble_eq_true rfl) ⟨Nat.le_of_ble_eq_true rfl, Nat.le_of_ble_eq_true rfl⟩ ⟨Nat.le_refl _, Nat.le_refl _⟩ ?_
      refine z_if_eq CX 226 dX5_succeeds_219 (by decide) (fun c_219 => ?_) (fun c_219 => ?_)
      · skip
        refine z_iconst CX (v := 0) dX5_succeeds_226 (by decide) ?_
        exact z_zret CX dX5_succeeds_227 rfl (by first | rfl | exact bI_nar _) (congrArg Value.int (by rw [bI_f c_219]; rfl)) rfl (Or.inl rfl)
      · skip
        refine z_iconst CX (v := 1) dX5_succeeds_222 (by decide) ?_
        refine z_goto CX 227 dX5_succeeds_223 (by decide) ?_
        exact z_zret CX dX5_succeeds_227 rfl (by first | rfl | exact bI_nar _) (congrArg Value.int (by rw [bI_t c_219]; rfl)) rfl (Or.inl rfl)
    · rw [show cmdF f G = (false, f) by unfold cmdF; rw [hq]; exact if_neg hc]
      by_cases hd : (G / 100 % 10) = 0
      · skip
        refine Cn.of (d := mX5_succeeds) (by decide +kernel) (Nat.le_of_ble_eq_true rfl) ?_
        intro p e R s m args below meth c CX
        replace CX : Ctx p s m args meth c R w RX5 "succeeds" cX5_succeeds 7 (some .boolean) 5 121 0 0 := CX
        show ZW p l e R s m args below meth c w 7 _ _ 0 0 (MQ below (Qn w _ _ _) args s 0 0 (wA w)) 0 [(0, .ref (wB w + k)), (1, .int _)] []
        refine z_iload_n CX 1 dX5_succeeds_0 rfl rfl ?_
        refine z_sipush CX (v := 1000) dX5_succeeds_1 (by decide) ?_
        refine z_idiv CX dX5_succeeds_4 (by decide) ?_
        refine z_bipush CX (v := 10) dX5_succeeds_5 (by decide) ?_
        refine z_irem CX dX5_succeeds_7 (by decide) ?_
        rw [gq1 hG]
        refine z_istore_n CX 2 dX5_succeeds_8 rfl (by decide) ?_
        refine z_iload_n CX 1 dX5_succeeds_9 rfl rfl ?_
        refine z_bipush CX (v := 100) dX5_succeeds_10 (by decide) ?_
        refine z_idiv CX dX5_succeeds_12 (by decide) ?_
        refine z_bipush CX (v := 10) dX5_succeeds_13 (by decide) ?_
        refine z_irem CX dX5_succeeds_15 (by decide) ?_
        rw [gq2 hG]
        refine z_istore_n CX 3 dX5_succeeds_16 rfl (by decide) ?_
        refine z_iload_n CX 1 dX5_succeeds_17 rfl rfl ?_
        refine z_bipush CX (v := 10) dX5_succeeds_18 (by decide) ?_
        refine z_idiv CX dX5_succeeds_20 (by decide) ?_
        refine z_bipush CX (v := 10) dX5_succeeds_21 (by decide) ?_
        refine z_irem CX dX5_succeeds_23 (by decide) ?_
        rw [gq3 hG]
        refine z_istore CX dX5_succeeds_24 (by decide) ?_
        refine z_iload_n CX 1 dX5_succeeds_26 rfl rfl ?_
        refine z_bipush CX (v := 10) dX5_succeeds_27 (by decide) ?_
        refine z_irem CX dX5_succeeds_29 (by decide) ?_
        rw [gq5 hG]
        refine z_istore CX dX5_succeeds_30 (by decide) ?_
        refine z_bipush CX (v := 10) dX5_succeeds_32 (by decide) ?_
        refine z_iload CX dX5_succeeds_34 rfl ?_
        refine z_imul CX dX5_succeeds_36 ?_
        refine z_iload CX dX5_succeeds_37 rfl ?_
        refine z_iadd CX dX5_succeeds_39 ?_
        rw [gq9 hG]
        refine z_istore CX dX5_succeeds_40 (by decide) ?_
        refine z_iload_n CX 1 dX5_succeeds_42 rfl rfl ?_
        refine z_sipush CX (v := 10000) dX5_succeeds_43 (by decide) ?_
        refine z_idiv CX dX5_succeeds_46 (by decide) ?_
        rw [gq7 hG, hq]
        refine z_tabIn CX 196 dX5_succeeds_47 (by decide) (by decide) rfl (by decide) ?_
        refine z_iload_n CX 3 dX5_succeeds_196 rfl rfl ?_
        refine z_if_ne CX 226 dX5_succeeds_197 (by decide) (fun q9 => absurd q9 (ge0 hd)) (fun _ => ?_)
        refine z_iload CX dX5_succeeds_200 rfl ?_
        refine z_if_ne CX 226 dX5_succeeds_202 (by decide) (fun _ => ?_) (fun q9 => absurd q9 (gn0 (show ¬ (G / 10 % 10) = 0 by omega) (by omega)))
        refine z_iconst CX (v := 0) dX5_succeeds_226 (by decide) ?_
        exact z_zret CX dX5_succeeds_227 rfl (by first | rfl | exact bI_nar _) rfl rfl (Or.inl rfl)
      · skip
        refine Cn.of (d := mX5_succeeds) (by decide +kernel) (Nat.le_of_ble_eq_true rfl) ?_
        intro p e R s m args below meth c CX
        replace CX : Ctx p s m args meth c R w RX5 "succeeds" cX5_succeeds 7 (some .boolean) 5 121 0 0 := CX
        show ZW p l e R s m args below meth c w 7 _ _ 0 0 (MQ below (Qn w _ _ _) args s 0 0 (wA w)) 0 [(0, .ref (wB w + k)), (1, .int _)] []
        refine z_iload_n CX 1 dX5_succeeds_0 rfl rfl ?_
        refine z_sipush CX (v := 1000) dX5_succeeds_1 (by decide) ?_
        refine z_idiv CX dX5_succeeds_4 (by decide) ?_
        refine z_bipush CX (v := 10) dX5_succeeds_5 (by decide) ?_
        refine z_irem CX dX5_succeeds_7 (by decide) ?_
        rw [gq1 hG]
        refine z_istore_n CX 2 dX5_succeeds_8 rfl (by decide) ?_
        refine z_iload_n CX 1 dX5_succeeds_9 rfl rfl ?_
        refine z_bipush CX (v := 100) dX5_succeeds_10 (by decide) ?_
        refine z_idiv CX dX5_succeeds_12 (by decide) ?_
        refine z_bipush CX (v := 10) dX5_succeeds_13 (by decide) ?_
        refine z_irem CX dX5_succeeds_15 (by decide) ?_
        rw [gq2 hG]
        refine z_istore_n CX 3 dX5_succeeds_16 rfl (by decide) ?_
        refine z_iload_n CX 1 dX5_succeeds_17 rfl rfl ?_
        refine z_bipush CX (v := 10) dX5_succeeds_18 (by decide) ?_
        refine z_idiv CX dX5_succeeds_20 (by decide) ?_
        refine z_bipush CX (v := 10) dX5_succeeds_21 (by decide) ?_
        refine z_irem CX dX5_succeeds_23 (by decide) ?_
        rw [gq3 hG]
        refine z_istore CX dX5_succeeds_24 (by decide) ?_
        refine z_iload_n CX 1 dX5_succeeds_26 rfl rfl ?_
        refine z_bipush CX (v := 10) dX5_succeeds_27 (by decide) ?_
        refine z_irem CX dX5_succeeds_29 (by decide) ?_
        rw [gq5 hG]
        refine z_istore CX dX5_succeeds_30 (by decide) ?_
        refine z_bipush CX (v := 10) dX5_succeeds_32 (by decide) ?_
        refine z_iload CX dX5_succeeds_34 rfl ?_
        refine z_imul CX dX5_succeeds_36 ?_
        refine z_iload CX dX5_succeeds_37 rfl ?_
        refine z_iadd CX dX5_succeeds_39 ?_
        rw [gq9 hG]
        refine z_istore CX dX5_succeeds_40 (by decide) ?_
        refine z_iload_n CX 1 dX5_succeeds_42 rfl rfl ?_
        refine z_sipush CX (v := 10000) dX5_succeeds_43 (by decide) ?_
        refine z_idiv CX dX5_succeeds_46 (by decide) ?_
        rw [gq7 hG, hq]
        refine z_tabIn CX 196 dX5_succeeds_47 (by decide) (by decide) rfl (by decide) ?_
        refine z_iload_n CX 3 dX5_succeeds_196 rfl rfl ?_
        refine z_if_ne CX 226 dX5_succeeds_197 (by decide) (fun _ => ?_) (fun q9 => absurd q9 (gn0 hd (by omega)))
        refine z_iconst CX (v := 0) dX5_succeeds_226 (by decide) ?_
        exact z_zret CX dX5_succeeds_227 rfl (by first | rfl | exact bI_nar _) rfl rfl (Or.inl rfl)
  | 6, _, hq =>
    by_cases hc : G % 10 = 0
    · rw [show cmdF f G = pfB f (nI (G / 1000 % 10)) (nI (G / 100 % 10)) (nI (G / 10 % 10)) by unfold cmdF; rw [hq]; exact if_pos hc]
      refine Cn.of (d := mX5_succeeds) (by decide +kernel) (Nat.le_of_ble_eq_true rfl) ?_
      intro p e R s m args below meth c CX
      replace CX : Ctx p s m args meth c R w RX5 "succeeds" cX5_succeeds 7 (some .boolean) 5 121 0 0 := CX
      show ZW p l e R s m args below meth c w 7 _ _ 0 0 (MQ below (Qn w _ _ _) args s 0 0 (wA w)) 0 [(0, .ref (wB w + k)), (1, .int _)] []
      refine z_iload_n CX 1 dX5_succeeds_0 rfl rfl ?_
      refine z_sipush CX (v := 1000) dX5_succeeds_1 (by decide) ?_
      refine z_idiv CX dX5_succeeds_4 (by decide) ?_
      refine z_bipush CX (v := 10) dX5_succeeds_5 (by decide) ?_
      refine z_irem CX dX5_succeeds_7 (by decide) ?_
      rw [gq1 hG]
      refine z_istore_n CX 2 dX5_succeeds_8 rfl (by decide) ?_
      refine z_iload_n CX 1 dX5_succeeds_9 rfl rfl ?_
      refine z_bipush CX (v := 100) dX5_succeeds_10 (by decide) ?_
      refine z_idiv CX dX5_succeeds_12 (by decide) ?_
      refine z_bipush CX (v := 10) dX5_succeeds_13 (by decide) ?_
      refine z_irem CX dX5_succeeds_15 (by decide) ?_
      rw [gq2 hG]
      refine z_istore_n CX 3 dX5_succeeds_16 rfl (by decide) ?_
      refine z_iload_n CX 1 dX5_succeeds_17 rfl rfl ?_
      refine z_bipush CX (v := 10) dX5_succeeds_18 (by decide) ?_
      refine z_idiv CX dX5_succeeds_20 (by decide) ?_
      refine z_bipush CX (v := 10) dX5_succeeds_21 (by decide) ?_
      refine z_irem CX dX5_succeeds_23 (by decide) ?_
      rw [gq3 hG]
      refine z_istore CX dX5_succeeds_24 (by decide) ?_
      refine z_iload_n CX 1 dX5_succeeds_26 rfl rfl ?_
      refine z_bipush CX (v := 10) dX5_succeeds_27 (by decide) ?_
      refine z_irem CX dX5_succeeds_29 (by decide) ?_
      rw [gq5 hG]
      refine z_istore CX dX5_succeeds_30 (by decide) ?_
      refine z_bipush CX (v := 10) dX5_succeeds_32 (by decide) ?_
      refine z_iload CX dX5_succeeds_34 rfl ?_
      refine z_imul CX dX5_succeeds_36 ?_
      refine z_iload CX dX5_succeeds_37 rfl ?_
      refine z_iadd CX dX5_succeeds_39 ?_
      rw [gq9 hG]
      refine z_istore CX dX5_succeeds_40 (by decide) ?_
      refine z_iload_n CX 1 dX5_succeeds_42 rfl rfl ?_
      refine z_sipush CX (v := 10000) dX5_succeeds_43 (by decide) ?_
      refine z_idiv CX dX5_succeeds_46 (by decide) ?_
      rw [gq7 hG, hq]
      refine z_tabIn CX 228 dX5_succeeds_47 (by decide) (by decide) rfl (by decide) ?_
      refine z_iload CX dX5_succeeds_228 rfl ?_
      refine z_if_ne CX 254 dX5_succeeds_230 (by decide) (fun q9 => absurd q9 (ge0 (show (G % 10) = 0 by omega))) (fun _ => ?_)
      refine z_aload_n CX 0 dX5_succeeds_233 rfl rfl ?_
      refine z_get CX dX5_succeeds_234 fg_X5_23 gb_0 rfl ?_
      refine z_bipush CX (v := 98) dX5_succeeds_237 (by decide) ?_
      refine z_iload_n CX 2 dX5_succeeds_239 rfl rfl ?_
      refine z_iload_n CX 3 dX5_succeeds_240 rfl rfl ?_
      refine z_iload CX dX5_succeeds_241 rfl ?_
      refine z_iconst CX (v := 0) dX5_succeeds_243 (by decide) ?_
      refine z_callV1 CX dX5_succeeds_244 cv_X5_252 (g_pB hO (nI (G / 1000 % 10)) (nI (G / 100 % 10)) (nI (G / 10 % 10))) gb_c0 rfl rfl (Nat.le_of_ble_eq_true rfl) ⟨Nat.le_of_ble_eq_true rfl, Nat.le_of_ble_eq_true rfl⟩ ⟨Nat.le_refl _, Nat.le_refl _⟩ ?_
      refine z_if_eq CX 254 dX5_succeeds_247 (by decide) (fun c_247 => ?_) (fun c_247 => ?_)
      · skip
        refine z_iconst CX (v := 0) dX5_succeeds_254 (by decide) ?_
        exact z_zret CX dX5_succeeds_255 rfl (by first | rfl | exact bI_nar _) (congrArg Value.int (by rw [bI_f c_247]; rfl)) rfl (Or.inl rfl)
      · skip
        refine z_iconst CX (v := 1) dX5_succeeds_250 (by decide) ?_
        refine z_goto CX 255 dX5_succeeds_251 (by decide) ?_
        exact z_zret CX dX5_succeeds_255 rfl (by first | rfl | exact bI_nar _) (congrArg Value.int (by rw [bI_t c_247]; rfl)) rfl (Or.inl rfl)
    · rw [show cmdF f G = (false, f) by unfold cmdF; rw [hq]; exact if_neg hc]
      refine Cn.of (d := mX5_succeeds) (by decide +kernel) (Nat.le_of_ble_eq_true rfl) ?_
      intro p e R s m args below meth c CX
      replace CX : Ctx p s m args meth c R w RX5 "succeeds" cX5_succeeds 7 (some .boolean) 5 121 0 0 := CX
      show ZW p l e R s m args below meth c w 7 _ _ 0 0 (MQ below (Qn w _ _ _) args s 0 0 (wA w)) 0 [(0, .ref (wB w + k)), (1, .int _)] []
      refine z_iload_n CX 1 dX5_succeeds_0 rfl rfl ?_
      refine z_sipush CX (v := 1000) dX5_succeeds_1 (by decide) ?_
      refine z_idiv CX dX5_succeeds_4 (by decide) ?_
      refine z_bipush CX (v := 10) dX5_succeeds_5 (by decide) ?_
      refine z_irem CX dX5_succeeds_7 (by decide) ?_
      rw [gq1 hG]
      refine z_istore_n CX 2 dX5_succeeds_8 rfl (by decide) ?_
      refine z_iload_n CX 1 dX5_succeeds_9 rfl rfl ?_
      refine z_bipush CX (v := 100) dX5_succeeds_10 (by decide) ?_
      refine z_idiv CX dX5_succeeds_12 (by decide) ?_
      refine z_bipush CX (v := 10) dX5_succeeds_13 (by decide) ?_
      refine z_irem CX dX5_succeeds_15 (by decide) ?_
      rw [gq2 hG]
      refine z_istore_n CX 3 dX5_succeeds_16 rfl (by decide) ?_
      refine z_iload_n CX 1 dX5_succeeds_17 rfl rfl ?_
      refine z_bipush CX (v := 10) dX5_succeeds_18 (by decide) ?_
      refine z_idiv CX dX5_succeeds_20 (by decide) ?_
      refine z_bipush CX (v := 10) dX5_succeeds_21 (by decide) ?_
      refine z_irem CX dX5_succeeds_23 (by decide) ?_
      rw [gq3 hG]
      refine z_istore CX dX5_succeeds_24 (by decide) ?_
      refine z_iload_n CX 1 dX5_succeeds_26 rfl rfl ?_
      refine z_bipush CX (v := 10) dX5_succeeds_27 (by decide) ?_
      refine z_irem CX dX5_succeeds_29 (by decide) ?_
      rw [gq5 hG]
      refine z_istore CX dX5_succeeds_30 (by decide) ?_
      refine z_bipush CX (v := 10) dX5_succeeds_32 (by decide) ?_
      refine z_iload CX dX5_succeeds_34 rfl ?_
      refine z_imul CX dX5_succeeds_36 ?_
      refine z_iload CX dX5_succeeds_37 rfl ?_
      refine z_iadd CX dX5_succeeds_39 ?_
      rw [gq9 hG]
      refine z_istore CX dX5_succeeds_40 (by decide) ?_
      refine z_iload_n CX 1 dX5_succeeds_42 rfl rfl ?_
      refine z_sipush CX (v := 10000) dX5_succeeds_43 (by decide) ?_
      refine z_idiv CX dX5_succeeds_46 (by decide) ?_
      rw [gq7 hG, hq]
      refine z_tabIn CX 228 dX5_succeeds_47 (by decide) (by decide) rfl (by decide) ?_
      refine z_iload CX dX5_succeeds_228 rfl ?_
      refine z_if_ne CX 254 dX5_succeeds_230 (by decide) (fun _ => ?_) (fun q9 => absurd q9 (gn0 (show ¬ (G % 10) = 0 by omega) (by omega)))
      refine z_iconst CX (v := 0) dX5_succeeds_254 (by decide) ?_
      exact z_zret CX dX5_succeeds_255 rfl (by first | rfl | exact bI_nar _) rfl rfl (Or.inl rfl)
  | 7, _, hq =>
    rw [show cmdF f G = (decide (G % 1000 < 10 ∧ (G / 1000 % 10) < bN f ∧ f (24 + 10 * (G / 1000 % 10) + 3) = nI (G % 10)), f) by unfold cmdF; rw [hq]; exact rfl]
    by_cases hc : G % 1000 < 10
    · by_cases hb : (G / 1000 % 10) < bN f
      · skip
        refine Cn.of (d := mX5_succeeds) (by decide +kernel) (Nat.le_of_ble_eq_true rfl) ?_
        intro p e R s m args below meth c CX
        replace CX : Ctx p s m args meth c R w RX5 "succeeds" cX5_succeeds 7 (some .boolean) 5 121 0 0 := CX
        show ZW p l e R s m args below meth c w 7 _ _ 0 0 (MQ below (Qn w _ _ _) args s 0 0 (wA w)) 0 [(0, .ref (wB w + k)), (1, .int _)] []
        refine z_iload_n CX 1 dX5_succeeds_0 rfl rfl ?_
        refine z_sipush CX (v := 1000) dX5_succeeds_1 (by decide) ?_
        refine z_idiv CX dX5_succeeds_4 (by decide) ?_
        refine z_bipush CX (v := 10) dX5_succeeds_5 (by decide) ?_
        refine z_irem CX dX5_succeeds_7 (by decide) ?_
        rw [gq1 hG]
        refine z_istore_n CX 2 dX5_succeeds_8 rfl (by decide) ?_
        refine z_iload_n CX 1 dX5_succeeds_9 rfl rfl ?_
        refine z_bipush CX (v := 100) dX5_succeeds_10 (by decide) ?_
        refine z_idiv CX dX5_succeeds_12 (by decide) ?_
        refine z_bipush CX (v := 10) dX5_succeeds_13 (by decide) ?_
        refine z_irem CX dX5_succeeds_15 (by decide) ?_
        rw [gq2 hG]
        refine z_istore_n CX 3 dX5_succeeds_16 rfl (by decide) ?_
        refine z_iload_n CX 1 dX5_succeeds_17 rfl rfl ?_
        refine z_bipush CX (v := 10) dX5_succeeds_18 (by decide) ?_
        refine z_idiv CX dX5_succeeds_20 (by decide) ?_
        refine z_bipush CX (v := 10) dX5_succeeds_21 (by decide) ?_
        refine z_irem CX dX5_succeeds_23 (by decide) ?_
        rw [gq3 hG]
        refine z_istore CX dX5_succeeds_24 (by decide) ?_
        refine z_iload_n CX 1 dX5_succeeds_26 rfl rfl ?_
        refine z_bipush CX (v := 10) dX5_succeeds_27 (by decide) ?_
        refine z_irem CX dX5_succeeds_29 (by decide) ?_
        rw [gq5 hG]
        refine z_istore CX dX5_succeeds_30 (by decide) ?_
        refine z_bipush CX (v := 10) dX5_succeeds_32 (by decide) ?_
        refine z_iload CX dX5_succeeds_34 rfl ?_
        refine z_imul CX dX5_succeeds_36 ?_
        refine z_iload CX dX5_succeeds_37 rfl ?_
        refine z_iadd CX dX5_succeeds_39 ?_
        rw [gq9 hG]
        refine z_istore CX dX5_succeeds_40 (by decide) ?_
        refine z_iload_n CX 1 dX5_succeeds_42 rfl rfl ?_
        refine z_sipush CX (v := 10000) dX5_succeeds_43 (by decide) ?_
        refine z_idiv CX dX5_succeeds_46 (by decide) ?_
        rw [gq7 hG, hq]
        refine z_tabIn CX 256 dX5_succeeds_47 (by decide) (by decide) rfl (by decide) ?_
        refine z_iload_n CX 3 dX5_succeeds_256 rfl rfl ?_
        refine z_if_ne CX 297 dX5_succeeds_257 (by decide) (fun q9 => absurd q9 (ge0 (show (G / 100 % 10) = 0 by omega))) (fun _ => ?_)
        refine z_iload CX dX5_succeeds_260 rfl ?_
        refine z_if_ne CX 297 dX5_succeeds_262 (by decide) (fun q9 => absurd q9 (ge0 (show (G / 10 % 10) = 0 by omega))) (fun _ => ?_)
        refine z_aload_n CX 0 dX5_succeeds_265 rfl rfl ?_
        refine z_get CX dX5_succeeds_266 fg_X5_23 gb_0 rfl ?_
        refine z_iload_n CX 2 dX5_succeeds_269 rfl rfl ?_
        refine z_callV1 CX dX5_succeeds_270 cv_X5_84 (Cn.gC (t_hasB (nI (G / 1000 % 10)))) gb_c0 rfl rfl (Nat.le_of_ble_eq_true rfl) ⟨Nat.le_of_ble_eq_true rfl, Nat.le_of_ble_eq_true rfl⟩ ⟨Nat.le_refl _, Nat.le_refl _⟩ ?_
        refine z_if_eq CX 297 dX5_succeeds_273 (by decide) (fun q9 => absurd q9 (by rw [bI_1 (show 0 ≤ nI (G / 1000 % 10) ∧ nI (G / 1000 % 10) < nI (bN f) from ⟨nI_pos' (by omega), nI_lt hb (by omega)⟩)]; decide)) (fun _ => ?_)
        refine z_aload_n CX 0 dX5_succeeds_276 rfl rfl ?_
        refine z_get CX dX5_succeeds_277 fg_X5_23 gb_0 rfl ?_
        refine z_get CX dX5_succeeds_280 fg_X5_90 gb_c0 rfl ?_
        refine z_iload_n CX 2 dX5_succeeds_283 rfl rfl ?_
        refine z_iconst CX (v := 3) dX5_succeeds_284 (by decide) ?_
        refine z_callV1 CX dX5_succeeds_285 cv_X5_94 (Cn.gC (hB_o hR (b := (G / 1000 % 10)) (c := 3) hb (by omega) (by decide))) gb_c3 rfl rfl (Nat.le_of_ble_eq_true rfl) ⟨Nat.le_of_ble_eq_true rfl, Nat.le_of_ble_eq_true rfl⟩ ⟨Nat.le_refl _, Nat.le_refl _⟩ ?_
        refine z_iload CX dX5_succeeds_288 rfl ?_
        refine z_icmp_ne CX 297 dX5_succeeds_290 (by decide) (fun c_290 => ?_) (fun c_290 => ?_)
        · skip
          refine z_iconst CX (v := 0) dX5_succeeds_297 (by decide) ?_
          exact z_zret CX dX5_succeeds_298 rfl (by first | rfl | exact bI_nar _) (congrArg Value.int (by rw [decide_eq_false (fun z => absurd z.2.2 c_290)]; rfl)) rfl (Or.inl rfl)
        · skip
          refine z_iconst CX (v := 1) dX5_succeeds_293 (by decide) ?_
          refine z_goto CX 298 dX5_succeeds_294 (by decide) ?_
          exact z_zret CX dX5_succeeds_298 rfl (by first | rfl | exact bI_nar _) (congrArg Value.int (by rw [decide_eq_true ⟨hc, hb, c_290⟩]; rfl)) rfl (Or.inl rfl)
      · skip
        refine Cn.of (d := mX5_succeeds) (by decide +kernel) (Nat.le_of_ble_eq_true rfl) ?_
        intro p e R s m args below meth c CX
        replace CX : Ctx p s m args meth c R w RX5 "succeeds" cX5_succeeds 7 (some .boolean) 5 121 0 0 := CX
        show ZW p l e R s m args below meth c w 7 _ _ 0 0 (MQ below (Qn w _ _ _) args s 0 0 (wA w)) 0 [(0, .ref (wB w + k)), (1, .int _)] []
        refine z_iload_n CX 1 dX5_succeeds_0 rfl rfl ?_
        refine z_sipush CX (v := 1000) dX5_succeeds_1 (by decide) ?_
        refine z_idiv CX dX5_succeeds_4 (by decide) ?_
        refine z_bipush CX (v := 10) dX5_succeeds_5 (by decide) ?_
        refine z_irem CX dX5_succeeds_7 (by decide) ?_
        rw [gq1 hG]
        refine z_istore_n CX 2 dX5_succeeds_8 rfl (by decide) ?_
        refine z_iload_n CX 1 dX5_succeeds_9 rfl rfl ?_
        refine z_bipush CX (v := 100) dX5_succeeds_10 (by decide) ?_
        refine z_idiv CX dX5_succeeds_12 (by decide) ?_
        refine z_bipush CX (v := 10) dX5_succeeds_13 (by decide) ?_
        refine z_irem CX dX5_succeeds_15 (by decide) ?_
        rw [gq2 hG]
        refine z_istore_n CX 3 dX5_succeeds_16 rfl (by decide) ?_
        refine z_iload_n CX 1 dX5_succeeds_17 rfl rfl ?_
        refine z_bipush CX (v := 10) dX5_succeeds_18 (by decide) ?_
        refine z_idiv CX dX5_succeeds_20 (by decide) ?_
        refine z_bipush CX (v := 10) dX5_succeeds_21 (by decide) ?_
        refine z_irem CX dX5_succeeds_23 (by decide) ?_
        rw [gq3 hG]
        refine z_istore CX dX5_succeeds_24 (by decide) ?_
        refine z_iload_n CX 1 dX5_succeeds_26 rfl rfl ?_
        refine z_bipush CX (v := 10) dX5_succeeds_27 (by decide) ?_
        refine z_irem CX dX5_succeeds_29 (by decide) ?_
        rw [gq5 hG]
        refine z_istore CX dX5_succeeds_30 (by decide) ?_
        refine z_bipush CX (v := 10) dX5_succeeds_32 (by decide) ?_
        refine z_iload CX dX5_succeeds_34 rfl ?_
        refine z_imul CX dX5_succeeds_36 ?_
        refine z_iload CX dX5_succeeds_37 rfl ?_
        refine z_iadd CX dX5_succeeds_39 ?_
        rw [gq9 hG]
        refine z_istore CX dX5_succeeds_40 (by decide) ?_
        refine z_iload_n CX 1 dX5_succeeds_42 rfl rfl ?_
        refine z_sipush CX (v := 10000) dX5_succeeds_43 (by decide) ?_
        refine z_idiv CX dX5_succeeds_46 (by decide) ?_
        rw [gq7 hG, hq]
        refine z_tabIn CX 256 dX5_succeeds_47 (by decide) (by decide) rfl (by decide) ?_
        refine z_iload_n CX 3 dX5_succeeds_256 rfl rfl ?_
        refine z_if_ne CX 297 dX5_succeeds_257 (by decide) (fun q9 => absurd q9 (ge0 (show (G / 100 % 10) = 0 by omega))) (fun _ => ?_)
        refine z_iload CX dX5_succeeds_260 rfl ?_
        refine z_if_ne CX 297 dX5_succeeds_262 (by decide) (fun q9 => absurd q9 (ge0 (show (G / 10 % 10) = 0 by omega))) (fun _ => ?_)
        refine z_aload_n CX 0 dX5_succeeds_265 rfl rfl ?_
        refine z_get CX dX5_succeeds_266 fg_X5_23 gb_0 rfl ?_
        refine z_iload_n CX 2 dX5_succeeds_269 rfl rfl ?_
        refine z_callV1 CX dX5_succeeds_270 cv_X5_84 (Cn.gC (t_hasB (nI (G / 1000 % 10)))) gb_c0 rfl rfl (Nat.le_of_ble_eq_true rfl) ⟨Nat.le_of_ble_eq_true rfl, Nat.le_of_ble_eq_true rfl⟩ ⟨Nat.le_refl _, Nat.le_refl _⟩ ?_
        refine z_if_eq CX 297 dX5_succeeds_273 (by decide) (fun _ => ?_) (fun q9 => absurd (bI_0 (fun z => hb ((nI_ltI (by omega) (by omega)).mp z.2))) q9)
        refine z_iconst CX (v := 0) dX5_succeeds_297 (by decide) ?_
        exact z_zret CX dX5_succeeds_298 rfl (by first | rfl | exact bI_nar _) (congrArg Value.int (by rw [decide_eq_false (fun z => hb z.2.1)]; rfl)) rfl (Or.inl rfl)
    · by_cases hd : (G / 100 % 10) = 0
      · skip
        refine Cn.of (d := mX5_succeeds) (by decide +kernel) (Nat.le_of_ble_eq_true rfl) ?_
        intro p e R s m args below meth c CX
        replace CX : Ctx p s m args meth c R w RX5 "succeeds" cX5_succeeds 7 (some .boolean) 5 121 0 0 := CX
        show ZW p l e R s m args below meth c w 7 _ _ 0 0 (MQ below (Qn w _ _ _) args s 0 0 (wA w)) 0 [(0, .ref (wB w + k)), (1, .int _)] []
        refine z_iload_n CX 1 dX5_succeeds_0 rfl rfl ?_
        refine z_sipush CX (v := 1000) dX5_succeeds_1 (by decide) ?_
        refine z_idiv CX dX5_succeeds_4 (by decide) ?_
        refine z_bipush CX (v := 10) dX5_succeeds_5 (by decide) ?_
        refine z_irem CX dX5_succeeds_7 (by decide) ?_
        rw [gq1 hG]
        refine z_istore_n CX 2 dX5_succeeds_8 rfl (by decide) ?_
        refine z_iload_n CX 1 dX5_succeeds_9 rfl rfl ?_
        refine z_bipush CX (v := 100) dX5_succeeds_10 (by decide) ?_
        refine z_idiv CX dX5_succeeds_12 (by decide) ?_
        refine z_bipush CX (v := 10) dX5_succeeds_13 (by decide) ?_
        refine z_irem CX dX5_succeeds_15 (by decide) ?_
        rw [gq2 hG]
        refine z_istore_n CX 3 dX5_succeeds_16 rfl (by decide) ?_
        refine z_iload_n CX 1 dX5_succeeds_17 rfl rfl ?_
        refine z_bipush CX (v := 10) dX5_succeeds_18 (by decide) ?_
        refine z_idiv CX dX5_succeeds_20 (by decide) ?_
        refine z_bipush CX (v := 10) dX5_succeeds_21 (by decide) ?_
        refine z_irem CX dX5_succeeds_23 (by decide) ?_
        rw [gq3 hG]
        refine z_istore CX dX5_succeeds_24 (by decide) ?_
        refine z_iload_n CX 1 dX5_succeeds_26 rfl rfl ?_
        refine z_bipush CX (v := 10) dX5_succeeds_27 (by decide) ?_
        refine z_irem CX dX5_succeeds_29 (by decide) ?_
        rw [gq5 hG]
        refine z_istore CX dX5_succeeds_30 (by decide) ?_
        refine z_bipush CX (v := 10) dX5_succeeds_32 (by decide) ?_
        refine z_iload CX dX5_succeeds_34 rfl ?_
        refine z_imul CX dX5_succeeds_36 ?_
        refine z_iload CX dX5_succeeds_37 rfl ?_
        refine z_iadd CX dX5_succeeds_39 ?_
        rw [gq9 hG]
        refine z_istore CX dX5_succeeds_40 (by decide) ?_
        refine z_iload_n CX 1 dX5_succeeds_42 rfl rfl ?_
        refine z_sipush CX (v := 10000) dX5_succeeds_43 (by decide) ?_
        refine z_idiv CX dX5_succeeds_46 (by decide) ?_
        rw [gq7 hG, hq]
        refine z_tabIn CX 256 dX5_succeeds_47 (by decide) (by decide) rfl (by decide) ?_
        refine z_iload_n CX 3 dX5_succeeds_256 rfl rfl ?_
        refine z_if_ne CX 297 dX5_succeeds_257 (by decide) (fun q9 => absurd q9 (ge0 hd)) (fun _ => ?_)
        refine z_iload CX dX5_succeeds_260 rfl ?_
        refine z_if_ne CX 297 dX5_succeeds_262 (by decide) (fun _ => ?_) (fun q9 => absurd q9 (gn0 (show ¬ (G / 10 % 10) = 0 by omega) (by omega)))
        refine z_iconst CX (v := 0) dX5_succeeds_297 (by decide) ?_
        exact z_zret CX dX5_succeeds_298 rfl (by first | rfl | exact bI_nar _) (congrArg Value.int (by rw [decide_eq_false (fun z => hc z.1)]; rfl)) rfl (Or.inl rfl)
      · skip
        refine Cn.of (d := mX5_succeeds) (by decide +kernel) (Nat.le_of_ble_eq_true rfl) ?_
        intro p e R s m args below meth c CX
        replace CX : Ctx p s m args meth c R w RX5 "succeeds" cX5_succeeds 7 (some .boolean) 5 121 0 0 := CX
        show ZW p l e R s m args below meth c w 7 _ _ 0 0 (MQ below (Qn w _ _ _) args s 0 0 (wA w)) 0 [(0, .ref (wB w + k)), (1, .int _)] []
        refine z_iload_n CX 1 dX5_succeeds_0 rfl rfl ?_
        refine z_sipush CX (v := 1000) dX5_succeeds_1 (by decide) ?_
        refine z_idiv CX dX5_succeeds_4 (by decide) ?_
        refine z_bipush CX (v := 10) dX5_succeeds_5 (by decide) ?_
        refine z_irem CX dX5_succeeds_7 (by decide) ?_
        rw [gq1 hG]
        refine z_istore_n CX 2 dX5_succeeds_8 rfl (by decide) ?_
        refine z_iload_n CX 1 dX5_succeeds_9 rfl rfl ?_
        refine z_bipush CX (v := 100) dX5_succeeds_10 (by decide) ?_
        refine z_idiv CX dX5_succeeds_12 (by decide) ?_
        refine z_bipush CX (v := 10) dX5_succeeds_13 (by decide) ?_
        refine z_irem CX dX5_succeeds_15 (by decide) ?_
        rw [gq2 hG]
        refine z_istore_n CX 3 dX5_succeeds_16 rfl (by decide) ?_
        refine z_iload_n CX 1 dX5_succeeds_17 rfl rfl ?_
        refine z_bipush CX (v := 10) dX5_succeeds_18 (by decide) ?_
        refine z_idiv CX dX5_succeeds_20 (by decide) ?_
        refine z_bipush CX (v := 10) dX5_succeeds_21 (by decide) ?_
        refine z_irem CX dX5_succeeds_23 (by decide) ?_
        rw [gq3 hG]
        refine z_istore CX dX5_succeeds_24 (by decide) ?_
        refine z_iload_n CX 1 dX5_succeeds_26 rfl rfl ?_
        refine z_bipush CX (v := 10) dX5_succeeds_27 (by decide) ?_
        refine z_irem CX dX5_succeeds_29 (by decide) ?_
        rw [gq5 hG]
        refine z_istore CX dX5_succeeds_30 (by decide) ?_
        refine z_bipush CX (v := 10) dX5_succeeds_32 (by decide) ?_
        refine z_iload CX dX5_succeeds_34 rfl ?_
        refine z_imul CX dX5_succeeds_36 ?_
        refine z_iload CX dX5_succeeds_37 rfl ?_
        refine z_iadd CX dX5_succeeds_39 ?_
        rw [gq9 hG]
        refine z_istore CX dX5_succeeds_40 (by decide) ?_
        refine z_iload_n CX 1 dX5_succeeds_42 rfl rfl ?_
        refine z_sipush CX (v := 10000) dX5_succeeds_43 (by decide) ?_
        refine z_idiv CX dX5_succeeds_46 (by decide) ?_
        rw [gq7 hG, hq]
        refine z_tabIn CX 256 dX5_succeeds_47 (by decide) (by decide) rfl (by decide) ?_
        refine z_iload_n CX 3 dX5_succeeds_256 rfl rfl ?_
        refine z_if_ne CX 297 dX5_succeeds_257 (by decide) (fun _ => ?_) (fun q9 => absurd q9 (gn0 hd (by omega)))
        refine z_iconst CX (v := 0) dX5_succeeds_297 (by decide) ?_
        exact z_zret CX dX5_succeeds_298 rfl (by first | rfl | exact bI_nar _) (congrArg Value.int (by rw [decide_eq_false (fun z => hc z.1)]; rfl)) rfl (Or.inl rfl)
  | 8, _, hq =>
    rw [show cmdF f G = (decide ((G / 100 % 10) = 0 ∧ (G / 1000 % 10) ≤ 3 ∧ nI (G % 100) ≤ f (134 + 3 * (G / 1000 % 10))), f) by unfold cmdF; rw [hq]; exact rfl]
    by_cases hc : G / 100 % 10 = 0
    · by_cases hb : (G / 1000 % 10) ≤ 3
      · skip
        refine Cn.of (d := mX5_succeeds) (by decide +kernel) (Nat.le_of_ble_eq_true rfl) ?_
        intro p e R s m args below meth c CX
        replace CX : Ctx p s m args meth c R w RX5 "succeeds" cX5_succeeds 7 (some .boolean) 5 121 0 0 := CX
        show ZW p l e R s m args below meth c w 7 _ _ 0 0 (MQ below (Qn w _ _ _) args s 0 0 (wA w)) 0 [(0, .ref (wB w + k)), (1, .int _)] []
        refine z_iload_n CX 1 dX5_succeeds_0 rfl rfl ?_
        refine z_sipush CX (v := 1000) dX5_succeeds_1 (by decide) ?_
        refine z_idiv CX dX5_succeeds_4 (by decide) ?_
        refine z_bipush CX (v := 10) dX5_succeeds_5 (by decide) ?_
        refine z_irem CX dX5_succeeds_7 (by decide) ?_
        rw [gq1 hG]
        refine z_istore_n CX 2 dX5_succeeds_8 rfl (by decide) ?_
        refine z_iload_n CX 1 dX5_succeeds_9 rfl rfl ?_
        refine z_bipush CX (v := 100) dX5_succeeds_10 (by decide) ?_
        refine z_idiv CX dX5_succeeds_12 (by decide) ?_
        refine z_bipush CX (v := 10) dX5_succeeds_13 (by decide) ?_
        refine z_irem CX dX5_succeeds_15 (by decide) ?_
        rw [gq2 hG]
        refine z_istore_n CX 3 dX5_succeeds_16 rfl (by decide) ?_
        refine z_iload_n CX 1 dX5_succeeds_17 rfl rfl ?_
        refine z_bipush CX (v := 10) dX5_succeeds_18 (by decide) ?_
        refine z_idiv CX dX5_succeeds_20 (by decide) ?_
        refine z_bipush CX (v := 10) dX5_succeeds_21 (by decide) ?_
        refine z_irem CX dX5_succeeds_23 (by decide) ?_
        rw [gq3 hG]
        refine z_istore CX dX5_succeeds_24 (by decide) ?_
        refine z_iload_n CX 1 dX5_succeeds_26 rfl rfl ?_
        refine z_bipush CX (v := 10) dX5_succeeds_27 (by decide) ?_
        refine z_irem CX dX5_succeeds_29 (by decide) ?_
        rw [gq5 hG]
        refine z_istore CX dX5_succeeds_30 (by decide) ?_
        refine z_bipush CX (v := 10) dX5_succeeds_32 (by decide) ?_
        refine z_iload CX dX5_succeeds_34 rfl ?_
        refine z_imul CX dX5_succeeds_36 ?_
        refine z_iload CX dX5_succeeds_37 rfl ?_
        refine z_iadd CX dX5_succeeds_39 ?_
        rw [gq9 hG]
        refine z_istore CX dX5_succeeds_40 (by decide) ?_
        refine z_iload_n CX 1 dX5_succeeds_42 rfl rfl ?_
        refine z_sipush CX (v := 10000) dX5_succeeds_43 (by decide) ?_
        refine z_idiv CX dX5_succeeds_46 (by decide) ?_
        rw [gq7 hG, hq]
        refine z_tabIn CX 299 dX5_succeeds_47 (by decide) (by decide) rfl (by decide) ?_
        refine z_iload_n CX 3 dX5_succeeds_299 rfl rfl ?_
        refine z_if_ne CX 335 dX5_succeeds_300 (by decide) (fun q9 => absurd q9 (ge0 (show (G / 100 % 10) = 0 by omega))) (fun _ => ?_)
        refine z_aload_n CX 0 dX5_succeeds_303 rfl rfl ?_
        refine z_get CX dX5_succeeds_304 fg_X5_23 gb_0 rfl ?_
        refine z_iload_n CX 2 dX5_succeeds_307 rfl rfl ?_
        refine z_callV1 CX dX5_succeeds_308 cv_X5_99 (Cn.gC (t_hasO (nI (G / 1000 % 10)))) gb_c0 rfl rfl (Nat.le_of_ble_eq_true rfl) ⟨Nat.le_of_ble_eq_true rfl, Nat.le_of_ble_eq_true rfl⟩ ⟨Nat.le_refl _, Nat.le_refl _⟩ ?_
        refine z_if_eq CX 335 dX5_succeeds_311 (by decide) (fun q9 => absurd q9 (by rw [bI_1 (show 0 ≤ nI (G / 1000 % 10) ∧ nI (G / 1000 % 10) ≤ 3 from ⟨nI_pos' (by omega), nI_le (b := 3) hb (by omega)⟩)]; decide)) (fun _ => ?_)
        refine z_aload_n CX 0 dX5_succeeds_314 rfl rfl ?_
        refine z_get CX dX5_succeeds_315 fg_X5_23 gb_0 rfl ?_
        refine z_get CX dX5_succeeds_318 fg_X5_214 gb_c0 rfl ?_
        refine z_iload_n CX 2 dX5_succeeds_321 rfl rfl ?_
        refine z_iconst CX (v := 0) dX5_succeeds_322 (by decide) ?_
        refine z_callV1 CX dX5_succeeds_323 cv_X5_94 (Cn.gC (hO_at (b := (G / 1000 % 10)) (c := 0) (by omega) (by omega))) gb_c5 rfl rfl (Nat.le_of_ble_eq_true rfl) ⟨Nat.le_of_ble_eq_true rfl, Nat.le_of_ble_eq_true rfl⟩ ⟨Nat.le_refl _, Nat.le_refl _⟩ ?_
        refine z_iload CX dX5_succeeds_326 rfl ?_
        refine z_icmp_lt CX 335 dX5_succeeds_328 (by decide) (fun c_328 => ?_) (fun c_328 => ?_)
        · skip
          refine z_iconst CX (v := 0) dX5_succeeds_335 (by decide) ?_
          exact z_zret CX dX5_succeeds_336 rfl (by first | rfl | exact bI_nar _) (congrArg Value.int (by rw [decide_eq_false (fun z => absurd z.2.2 (Int32.not_le.mpr c_328))]; rfl)) rfl (Or.inl rfl)
        · skip
          refine z_iconst CX (v := 1) dX5_succeeds_331 (by decide) ?_
          refine z_goto CX 336 dX5_succeeds_332 (by decide) ?_
          exact z_zret CX dX5_succeeds_336 rfl (by first | rfl | exact bI_nar _) (congrArg Value.int (by rw [decide_eq_true ⟨hc, hb, Int32.not_lt.mp c_328⟩]; rfl)) rfl (Or.inl rfl)
      · skip
        refine Cn.of (d := mX5_succeeds) (by decide +kernel) (Nat.le_of_ble_eq_true rfl) ?_
        intro p e R s m args below meth c CX
        replace CX : Ctx p s m args meth c R w RX5 "succeeds" cX5_succeeds 7 (some .boolean) 5 121 0 0 := CX
        show ZW p l e R s m args below meth c w 7 _ _ 0 0 (MQ below (Qn w _ _ _) args s 0 0 (wA w)) 0 [(0, .ref (wB w + k)), (1, .int _)] []
        refine z_iload_n CX 1 dX5_succeeds_0 rfl rfl ?_
        refine z_sipush CX (v := 1000) dX5_succeeds_1 (by decide) ?_
        refine z_idiv CX dX5_succeeds_4 (by decide) ?_
        refine z_bipush CX (v := 10) dX5_succeeds_5 (by decide) ?_
        refine z_irem CX dX5_succeeds_7 (by decide) ?_
        rw [gq1 hG]
        refine z_istore_n CX 2 dX5_succeeds_8 rfl (by decide) ?_
        refine z_iload_n CX 1 dX5_succeeds_9 rfl rfl ?_
        refine z_bipush CX (v := 100) dX5_succeeds_10 (by decide) ?_
        refine z_idiv CX dX5_succeeds_12 (by decide) ?_
        refine z_bipush CX (v := 10) dX5_succeeds_13 (by decide) ?_
        refine z_irem CX dX5_succeeds_15 (by decide) ?_
        rw [gq2 hG]
        refine z_istore_n CX 3 dX5_succeeds_16 rfl (by decide) ?_
        refine z_iload_n CX 1 dX5_succeeds_17 rfl rfl ?_
        refine z_bipush CX (v := 10) dX5_succeeds_18 (by decide) ?_
        refine z_idiv CX dX5_succeeds_20 (by decide) ?_
        refine z_bipush CX (v := 10) dX5_succeeds_21 (by decide) ?_
        refine z_irem CX dX5_succeeds_23 (by decide) ?_
        rw [gq3 hG]
        refine z_istore CX dX5_succeeds_24 (by decide) ?_
        refine z_iload_n CX 1 dX5_succeeds_26 rfl rfl ?_
        refine z_bipush CX (v := 10) dX5_succeeds_27 (by decide) ?_
        refine z_irem CX dX5_succeeds_29 (by decide) ?_
        rw [gq5 hG]
        refine z_istore CX dX5_succeeds_30 (by decide) ?_
        refine z_bipush CX (v := 10) dX5_succeeds_32 (by decide) ?_
        refine z_iload CX dX5_succeeds_34 rfl ?_
        refine z_imul CX dX5_succeeds_36 ?_
        refine z_iload CX dX5_succeeds_37 rfl ?_
        refine z_iadd CX dX5_succeeds_39 ?_
        rw [gq9 hG]
        refine z_istore CX dX5_succeeds_40 (by decide) ?_
        refine z_iload_n CX 1 dX5_succeeds_42 rfl rfl ?_
        refine z_sipush CX (v := 10000) dX5_succeeds_43 (by decide) ?_
        refine z_idiv CX dX5_succeeds_46 (by decide) ?_
        rw [gq7 hG, hq]
        refine z_tabIn CX 299 dX5_succeeds_47 (by decide) (by decide) rfl (by decide) ?_
        refine z_iload_n CX 3 dX5_succeeds_299 rfl rfl ?_
        refine z_if_ne CX 335 dX5_succeeds_300 (by decide) (fun q9 => absurd q9 (ge0 (show (G / 100 % 10) = 0 by omega))) (fun _ => ?_)
        refine z_aload_n CX 0 dX5_succeeds_303 rfl rfl ?_
        refine z_get CX dX5_succeeds_304 fg_X5_23 gb_0 rfl ?_
        refine z_iload_n CX 2 dX5_succeeds_307 rfl rfl ?_
        refine z_callV1 CX dX5_succeeds_308 cv_X5_99 (Cn.gC (t_hasO (nI (G / 1000 % 10)))) gb_c0 rfl rfl (Nat.le_of_ble_eq_true rfl) ⟨Nat.le_of_ble_eq_true rfl, Nat.le_of_ble_eq_true rfl⟩ ⟨Nat.le_refl _, Nat.le_refl _⟩ ?_
        refine z_if_eq CX 335 dX5_succeeds_311 (by decide) (fun _ => ?_) (fun q9 => absurd (bI_0 (fun z => hb ((nI_leI (b := 3) (by omega) (by omega)).mp z.2))) q9)
        refine z_iconst CX (v := 0) dX5_succeeds_335 (by decide) ?_
        exact z_zret CX dX5_succeeds_336 rfl (by first | rfl | exact bI_nar _) (congrArg Value.int (by rw [decide_eq_false (fun z => hb z.2.1)]; rfl)) rfl (Or.inl rfl)
    · skip
      refine Cn.of (d := mX5_succeeds) (by decide +kernel) (Nat.le_of_ble_eq_true rfl) ?_
      intro p e R s m args below meth c CX
      replace CX : Ctx p s m args meth c R w RX5 "succeeds" cX5_succeeds 7 (some .boolean) 5 121 0 0 := CX
      show ZW p l e R s m args below meth c w 7 _ _ 0 0 (MQ below (Qn w _ _ _) args s 0 0 (wA w)) 0 [(0, .ref (wB w + k)), (1, .int _)] []
      refine z_iload_n CX 1 dX5_succeeds_0 rfl rfl ?_
      refine z_sipush CX (v := 1000) dX5_succeeds_1 (by decide) ?_
      refine z_idiv CX dX5_succeeds_4 (by decide) ?_
      refine z_bipush CX (v := 10) dX5_succeeds_5 (by decide) ?_
      refine z_irem CX dX5_succeeds_7 (by decide) ?_
      rw [gq1 hG]
      refine z_istore_n CX 2 dX5_succeeds_8 rfl (by decide) ?_
      refine z_iload_n CX 1 dX5_succeeds_9 rfl rfl ?_
      refine z_bipush CX (v := 100) dX5_succeeds_10 (by decide) ?_
      refine z_idiv CX dX5_succeeds_12 (by decide) ?_
      refine z_bipush CX (v := 10) dX5_succeeds_13 (by decide) ?_
      refine z_irem CX dX5_succeeds_15 (by decide) ?_
      rw [gq2 hG]
      refine z_istore_n CX 3 dX5_succeeds_16 rfl (by decide) ?_
      refine z_iload_n CX 1 dX5_succeeds_17 rfl rfl ?_
      refine z_bipush CX (v := 10) dX5_succeeds_18 (by decide) ?_
      refine z_idiv CX dX5_succeeds_20 (by decide) ?_
      refine z_bipush CX (v := 10) dX5_succeeds_21 (by decide) ?_
      refine z_irem CX dX5_succeeds_23 (by decide) ?_
      rw [gq3 hG]
      refine z_istore CX dX5_succeeds_24 (by decide) ?_
      refine z_iload_n CX 1 dX5_succeeds_26 rfl rfl ?_
      refine z_bipush CX (v := 10) dX5_succeeds_27 (by decide) ?_
      refine z_irem CX dX5_succeeds_29 (by decide) ?_
      rw [gq5 hG]
      refine z_istore CX dX5_succeeds_30 (by decide) ?_
      refine z_bipush CX (v := 10) dX5_succeeds_32 (by decide) ?_
      refine z_iload CX dX5_succeeds_34 rfl ?_
      refine z_imul CX dX5_succeeds_36 ?_
      refine z_iload CX dX5_succeeds_37 rfl ?_
      refine z_iadd CX dX5_succeeds_39 ?_
      rw [gq9 hG]
      refine z_istore CX dX5_succeeds_40 (by decide) ?_
      refine z_iload_n CX 1 dX5_succeeds_42 rfl rfl ?_
      refine z_sipush CX (v := 10000) dX5_succeeds_43 (by decide) ?_
      refine z_idiv CX dX5_succeeds_46 (by decide) ?_
      rw [gq7 hG, hq]
      refine z_tabIn CX 299 dX5_succeeds_47 (by decide) (by decide) rfl (by decide) ?_
      refine z_iload_n CX 3 dX5_succeeds_299 rfl rfl ?_
      refine z_if_ne CX 335 dX5_succeeds_300 (by decide) (fun _ => ?_) (fun q9 => absurd q9 (gn0 (show ¬ (G / 100 % 10) = 0 by omega) (by omega)))
      refine z_iconst CX (v := 0) dX5_succeeds_335 (by decide) ?_
      exact z_zret CX dX5_succeeds_336 rfl (by first | rfl | exact bI_nar _) (congrArg Value.int (by rw [decide_eq_false (fun z => hc z.1)]; rfl)) rfl (Or.inl rfl)
  | 9, _, hq =>
    rw [show cmdF f G = (decide ((G / 100 % 10) = 0 ∧ (G / 1000 % 10) < bN f ∧ f (24 + 10 * (G / 1000 % 10) + 6) ≤ nI (G % 100)), f) by unfold cmdF; rw [hq]; exact rfl]
    by_cases hc : G / 100 % 10 = 0
    · by_cases hb : (G / 1000 % 10) < bN f
      · skip
        refine Cn.of (d := mX5_succeeds) (by decide +kernel) (Nat.le_of_ble_eq_true rfl) ?_
        intro p e R s m args below meth c CX
        replace CX : Ctx p s m args meth c R w RX5 "succeeds" cX5_succeeds 7 (some .boolean) 5 121 0 0 := CX
        show ZW p l e R s m args below meth c w 7 _ _ 0 0 (MQ below (Qn w _ _ _) args s 0 0 (wA w)) 0 [(0, .ref (wB w + k)), (1, .int _)] []
        refine z_iload_n CX 1 dX5_succeeds_0 rfl rfl ?_
        refine z_sipush CX (v := 1000) dX5_succeeds_1 (by decide) ?_
        refine z_idiv CX dX5_succeeds_4 (by decide) ?_
        refine z_bipush CX (v := 10) dX5_succeeds_5 (by decide) ?_
        refine z_irem CX dX5_succeeds_7 (by decide) ?_
        rw [gq1 hG]
        refine z_istore_n CX 2 dX5_succeeds_8 rfl (by decide) ?_
        refine z_iload_n CX 1 dX5_succeeds_9 rfl rfl ?_
        refine z_bipush CX (v := 100) dX5_succeeds_10 (by decide) ?_
        refine z_idiv CX dX5_succeeds_12 (by decide) ?_
        refine z_bipush CX (v := 10) dX5_succeeds_13 (by decide) ?_
        refine z_irem CX dX5_succeeds_15 (by decide) ?_
        rw [gq2 hG]
        refine z_istore_n CX 3 dX5_succeeds_16 rfl (by decide) ?_
        refine z_iload_n CX 1 dX5_succeeds_17 rfl rfl ?_
        refine z_bipush CX (v := 10) dX5_succeeds_18 (by decide) ?_
        refine z_idiv CX dX5_succeeds_20 (by decide) ?_
        refine z_bipush CX (v := 10) dX5_succeeds_21 (by decide) ?_
        refine z_irem CX dX5_succeeds_23 (by decide) ?_
        rw [gq3 hG]
        refine z_istore CX dX5_succeeds_24 (by decide) ?_
        refine z_iload_n CX 1 dX5_succeeds_26 rfl rfl ?_
        refine z_bipush CX (v := 10) dX5_succeeds_27 (by decide) ?_
        refine z_irem CX dX5_succeeds_29 (by decide) ?_
        rw [gq5 hG]
        refine z_istore CX dX5_succeeds_30 (by decide) ?_
        refine z_bipush CX (v := 10) dX5_succeeds_32 (by decide) ?_
        refine z_iload CX dX5_succeeds_34 rfl ?_
        refine z_imul CX dX5_succeeds_36 ?_
        refine z_iload CX dX5_succeeds_37 rfl ?_
        refine z_iadd CX dX5_succeeds_39 ?_
        rw [gq9 hG]
        refine z_istore CX dX5_succeeds_40 (by decide) ?_
        refine z_iload_n CX 1 dX5_succeeds_42 rfl rfl ?_
        refine z_sipush CX (v := 10000) dX5_succeeds_43 (by decide) ?_
        refine z_idiv CX dX5_succeeds_46 (by decide) ?_
        rw [gq7 hG, hq]
        refine z_tabIn CX 337 dX5_succeeds_47 (by decide) (by decide) rfl (by decide) ?_
        refine z_iload_n CX 3 dX5_succeeds_337 rfl rfl ?_
        refine z_if_ne CX 374 dX5_succeeds_338 (by decide) (fun q9 => absurd q9 (ge0 (show (G / 100 % 10) = 0 by omega))) (fun _ => ?_)
        refine z_aload_n CX 0 dX5_succeeds_341 rfl rfl ?_
        refine z_get CX dX5_succeeds_342 fg_X5_23 gb_0 rfl ?_
        refine z_iload_n CX 2 dX5_succeeds_345 rfl rfl ?_
        refine z_callV1 CX dX5_succeeds_346 cv_X5_84 (Cn.gC (t_hasB (nI (G / 1000 % 10)))) gb_c0 rfl rfl (Nat.le_of_ble_eq_true rfl) ⟨Nat.le_of_ble_eq_true rfl, Nat.le_of_ble_eq_true rfl⟩ ⟨Nat.le_refl _, Nat.le_refl _⟩ ?_
        refine z_if_eq CX 374 dX5_succeeds_349 (by decide) (fun q9 => absurd q9 (by rw [bI_1 (show 0 ≤ nI (G / 1000 % 10) ∧ nI (G / 1000 % 10) < nI (bN f) from ⟨nI_pos' (by omega), nI_lt hb (by omega)⟩)]; decide)) (fun _ => ?_)
        refine z_aload_n CX 0 dX5_succeeds_352 rfl rfl ?_
        refine z_get CX dX5_succeeds_353 fg_X5_23 gb_0 rfl ?_
        refine z_get CX dX5_succeeds_356 fg_X5_90 gb_c0 rfl ?_
        refine z_iload_n CX 2 dX5_succeeds_359 rfl rfl ?_
        refine z_bipush CX (v := 6) dX5_succeeds_360 (by decide) ?_
        refine z_callV1 CX dX5_succeeds_362 cv_X5_94 (Cn.gC (hB_o hR (b := (G / 1000 % 10)) (c := 6) hb (by omega) (by decide))) gb_c3 rfl rfl (Nat.le_of_ble_eq_true rfl) ⟨Nat.le_of_ble_eq_true rfl, Nat.le_of_ble_eq_true rfl⟩ ⟨Nat.le_refl _, Nat.le_refl _⟩ ?_
        refine z_iload CX dX5_succeeds_365 rfl ?_
        refine z_icmp_gt CX 374 dX5_succeeds_367 (by decide) (fun c_367 => ?_) (fun c_367 => ?_)
        · skip
          refine z_iconst CX (v := 0) dX5_succeeds_374 (by decide) ?_
          exact z_zret CX dX5_succeeds_375 rfl (by first | rfl | exact bI_nar _) (congrArg Value.int (by rw [decide_eq_false (fun z => absurd z.2.2 (Int32.not_le.mpr c_367))]; rfl)) rfl (Or.inl rfl)
        · skip
          refine z_iconst CX (v := 1) dX5_succeeds_370 (by decide) ?_
          refine z_goto CX 375 dX5_succeeds_371 (by decide) ?_
          exact z_zret CX dX5_succeeds_375 rfl (by first | rfl | exact bI_nar _) (congrArg Value.int (by rw [decide_eq_true ⟨hc, hb, Int32.not_lt.mp c_367⟩]; rfl)) rfl (Or.inl rfl)
      · skip
        refine Cn.of (d := mX5_succeeds) (by decide +kernel) (Nat.le_of_ble_eq_true rfl) ?_
        intro p e R s m args below meth c CX
        replace CX : Ctx p s m args meth c R w RX5 "succeeds" cX5_succeeds 7 (some .boolean) 5 121 0 0 := CX
        show ZW p l e R s m args below meth c w 7 _ _ 0 0 (MQ below (Qn w _ _ _) args s 0 0 (wA w)) 0 [(0, .ref (wB w + k)), (1, .int _)] []
        refine z_iload_n CX 1 dX5_succeeds_0 rfl rfl ?_
        refine z_sipush CX (v := 1000) dX5_succeeds_1 (by decide) ?_
        refine z_idiv CX dX5_succeeds_4 (by decide) ?_
        refine z_bipush CX (v := 10) dX5_succeeds_5 (by decide) ?_
        refine z_irem CX dX5_succeeds_7 (by decide) ?_
        rw [gq1 hG]
        refine z_istore_n CX 2 dX5_succeeds_8 rfl (by decide) ?_
        refine z_iload_n CX 1 dX5_succeeds_9 rfl rfl ?_
        refine z_bipush CX (v := 100) dX5_succeeds_10 (by decide) ?_
        refine z_idiv CX dX5_succeeds_12 (by decide) ?_
        refine z_bipush CX (v := 10) dX5_succeeds_13 (by decide) ?_
        refine z_irem CX dX5_succeeds_15 (by decide) ?_
        rw [gq2 hG]
        refine z_istore_n CX 3 dX5_succeeds_16 rfl (by decide) ?_
        refine z_iload_n CX 1 dX5_succeeds_17 rfl rfl ?_
        refine z_bipush CX (v := 10) dX5_succeeds_18 (by decide) ?_
        refine z_idiv CX dX5_succeeds_20 (by decide) ?_
        refine z_bipush CX (v := 10) dX5_succeeds_21 (by decide) ?_
        refine z_irem CX dX5_succeeds_23 (by decide) ?_
        rw [gq3 hG]
        refine z_istore CX dX5_succeeds_24 (by decide) ?_
        refine z_iload_n CX 1 dX5_succeeds_26 rfl rfl ?_
        refine z_bipush CX (v := 10) dX5_succeeds_27 (by decide) ?_
        refine z_irem CX dX5_succeeds_29 (by decide) ?_
        rw [gq5 hG]
        refine z_istore CX dX5_succeeds_30 (by decide) ?_
        refine z_bipush CX (v := 10) dX5_succeeds_32 (by decide) ?_
        refine z_iload CX dX5_succeeds_34 rfl ?_
        refine z_imul CX dX5_succeeds_36 ?_
        refine z_iload CX dX5_succeeds_37 rfl ?_
        refine z_iadd CX dX5_succeeds_39 ?_
        rw [gq9 hG]
        refine z_istore CX dX5_succeeds_40 (by decide) ?_
        refine z_iload_n CX 1 dX5_succeeds_42 rfl rfl ?_
        refine z_sipush CX (v := 10000) dX5_succeeds_43 (by decide) ?_
        refine z_idiv CX dX5_succeeds_46 (by decide) ?_
        rw [gq7 hG, hq]
        refine z_tabIn CX 337 dX5_succeeds_47 (by decide) (by decide) rfl (by decide) ?_
        refine z_iload_n CX 3 dX5_succeeds_337 rfl rfl ?_
        refine z_if_ne CX 374 dX5_succeeds_338 (by decide) (fun q9 => absurd q9 (ge0 (show (G / 100 % 10) = 0 by omega))) (fun _ => ?_)
        refine z_aload_n CX 0 dX5_succeeds_341 rfl rfl ?_
        refine z_get CX dX5_succeeds_342 fg_X5_23 gb_0 rfl ?_
        refine z_iload_n CX 2 dX5_succeeds_345 rfl rfl ?_
        refine z_callV1 CX dX5_succeeds_346 cv_X5_84 (Cn.gC (t_hasB (nI (G / 1000 % 10)))) gb_c0 rfl rfl (Nat.le_of_ble_eq_true rfl) ⟨Nat.le_of_ble_eq_true rfl, Nat.le_of_ble_eq_true rfl⟩ ⟨Nat.le_refl _, Nat.le_refl _⟩ ?_
        refine z_if_eq CX 374 dX5_succeeds_349 (by decide) (fun _ => ?_) (fun q9 => absurd (bI_0 (fun z => hb ((nI_ltI (by omega) (by omega)).mp z.2))) q9)
        refine z_iconst CX (v := 0) dX5_succeeds_374 (by decide) ?_
        exact z_zret CX dX5_succeeds_375 rfl (by first | rfl | exact bI_nar _) (congrArg Value.int (by rw [decide_eq_false (fun z => hb z.2.1)]; rfl)) rfl (Or.inl rfl)
    · skip
      refine Cn.of (d := mX5_succeeds) (by decide +kernel) (Nat.le_of_ble_eq_true rfl) ?_
      intro p e R s m args below meth c CX
      replace CX : Ctx p s m args meth c R w RX5 "succeeds" cX5_succeeds 7 (some .boolean) 5 121 0 0 := CX
      show ZW p l e R s m args below meth c w 7 _ _ 0 0 (MQ below (Qn w _ _ _) args s 0 0 (wA w)) 0 [(0, .ref (wB w + k)), (1, .int _)] []
      refine z_iload_n CX 1 dX5_succeeds_0 rfl rfl ?_
      refine z_sipush CX (v := 1000) dX5_succeeds_1 (by decide) ?_
      refine z_idiv CX dX5_succeeds_4 (by decide) ?_
      refine z_bipush CX (v := 10) dX5_succeeds_5 (by decide) ?_
      refine z_irem CX dX5_succeeds_7 (by decide) ?_
      rw [gq1 hG]
      refine z_istore_n CX 2 dX5_succeeds_8 rfl (by decide) ?_
      refine z_iload_n CX 1 dX5_succeeds_9 rfl rfl ?_
      refine z_bipush CX (v := 100) dX5_succeeds_10 (by decide) ?_
      refine z_idiv CX dX5_succeeds_12 (by decide) ?_
      refine z_bipush CX (v := 10) dX5_succeeds_13 (by decide) ?_
      refine z_irem CX dX5_succeeds_15 (by decide) ?_
      rw [gq2 hG]
      refine z_istore_n CX 3 dX5_succeeds_16 rfl (by decide) ?_
      refine z_iload_n CX 1 dX5_succeeds_17 rfl rfl ?_
      refine z_bipush CX (v := 10) dX5_succeeds_18 (by decide) ?_
      refine z_idiv CX dX5_succeeds_20 (by decide) ?_
      refine z_bipush CX (v := 10) dX5_succeeds_21 (by decide) ?_
      refine z_irem CX dX5_succeeds_23 (by decide) ?_
      rw [gq3 hG]
      refine z_istore CX dX5_succeeds_24 (by decide) ?_
      refine z_iload_n CX 1 dX5_succeeds_26 rfl rfl ?_
      refine z_bipush CX (v := 10) dX5_succeeds_27 (by decide) ?_
      refine z_irem CX dX5_succeeds_29 (by decide) ?_
      rw [gq5 hG]
      refine z_istore CX dX5_succeeds_30 (by decide) ?_
      refine z_bipush CX (v := 10) dX5_succeeds_32 (by decide) ?_
      refine z_iload CX dX5_succeeds_34 rfl ?_
      refine z_imul CX dX5_succeeds_36 ?_
      refine z_iload CX dX5_succeeds_37 rfl ?_
      refine z_iadd CX dX5_succeeds_39 ?_
      rw [gq9 hG]
      refine z_istore CX dX5_succeeds_40 (by decide) ?_
      refine z_iload_n CX 1 dX5_succeeds_42 rfl rfl ?_
      refine z_sipush CX (v := 10000) dX5_succeeds_43 (by decide) ?_
      refine z_idiv CX dX5_succeeds_46 (by decide) ?_
      rw [gq7 hG, hq]
      refine z_tabIn CX 337 dX5_succeeds_47 (by decide) (by decide) rfl (by decide) ?_
      refine z_iload_n CX 3 dX5_succeeds_337 rfl rfl ?_
      refine z_if_ne CX 374 dX5_succeeds_338 (by decide) (fun _ => ?_) (fun q9 => absurd q9 (gn0 (show ¬ (G / 100 % 10) = 0 by omega) (by omega)))
      refine z_iconst CX (v := 0) dX5_succeeds_374 (by decide) ?_
      exact z_zret CX dX5_succeeds_375 rfl (by first | rfl | exact bI_nar _) (congrArg Value.int (by rw [decide_eq_false (fun z => hc z.1)]; rfl)) rfl (Or.inl rfl)
set_option maxHeartbeats 4000000 in
set_option maxRecDepth 100000 in
theorem g_turn {l : Launch} {w : Wt} {hs : Hs} {n : Option Nat} {k : Nat} {T : TXs} {Y : HIs} {S : SHs} {N : TTs} {f : Nat → Int32} {x : Int32} {z : Nat → Nat → Int32} (hO : OKr f) (r : Int32) : Cn l w mX5_takeTurn 0 0 [.ref (wB w + k), .int r] (GB w hs k T N (nT f x z) Y S) n (GB w hs k T N (nT (stF f r).2 x z) Y S) n none := by
  by_cases h0 : 0 ≤ rm r 16 ∧ rm r 16 ≤ 10
  · obtain ⟨i, i0, i1, i2, i3⟩ := nI_le9 (a := 0) (b := 10) (by omega) (by omega) h0
    rw [show stF f r = stN f (r / 16) i by unfold stF; rw [if_pos h0, i3]]
    match i, i1, i2 with
    | 0, _, i2 =>
      refine Cn.of (d := mX5_takeTurn) (by decide +kernel) (Nat.le_of_ble_eq_true rfl) ?_
      intro p e R s m args below meth c CX
      replace CX : Ctx p s m args meth c R w RX5 "takeTurn" cX5_takeTurn 3 none 5 121 0 0 := CX
      show ZW p l e R s m args below meth c w 3 _ _ 0 0 (MQ below (Qn w _ _ _) args s 0 0 (wA w)) 0 [(0, .ref (wB w + k)), (1, .int _)] []
      refine z_iload_n CX 1 dX5_takeTurn_0 rfl rfl ?_
      refine z_bipush CX (v := 16) dX5_takeTurn_1 (by decide) ?_
      refine z_idiv CX dX5_takeTurn_3 (by decide) ?_
      refine z_istore_n CX 2 dX5_takeTurn_4 rfl (by decide) ?_
      refine z_iload_n CX 1 dX5_takeTurn_5 rfl rfl ?_
      refine z_bipush CX (v := 16) dX5_takeTurn_6 (by decide) ?_
      refine z_irem CX dX5_takeTurn_8 (by decide) ?_
      rw [show r - r / 16 * 16 = nI 0 from i2]
      refine z_tabIn CX 68 dX5_takeTurn_9 (by decide) (by decide) rfl (by decide) ?_
      refine z_aload_n CX 0 dX5_takeTurn_68 rfl rfl ?_
      refine z_get CX dX5_takeTurn_69 fg_X5_23 gb_0 rfl ?_
      refine z_bipush CX (v := 103) dX5_takeTurn_72 (by decide) ?_
      refine z_iconst CX (v := 4) dX5_takeTurn_74 (by decide) ?_
      refine z_iload_n CX 2 dX5_takeTurn_75 rfl rfl ?_
      refine z_bipush CX (v := 20) dX5_takeTurn_76 (by decide) ?_
      refine z_irem CX dX5_takeTurn_78 (by decide) ?_
      refine z_iadd CX dX5_takeTurn_79 ?_
      refine z_iload_n CX 2 dX5_takeTurn_80 rfl rfl ?_
      refine z_bipush CX (v := 32) dX5_takeTurn_81 (by decide) ?_
      refine z_idiv CX dX5_takeTurn_83 (by decide) ?_
      refine z_bipush CX (v := 6) dX5_takeTurn_84 (by decide) ?_
      refine z_irem CX dX5_takeTurn_86 (by decide) ?_
      refine z_iload_n CX 2 dX5_takeTurn_87 rfl rfl ?_
      refine z_sipush CX (v := 256) dX5_takeTurn_88 (by decide) ?_
      refine z_idiv CX dX5_takeTurn_91 (by decide) ?_
      refine z_bipush CX (v := 6) dX5_takeTurn_92 (by decide) ?_
      refine z_irem CX dX5_takeTurn_94 (by decide) ?_
      refine z_iload_n CX 2 dX5_takeTurn_95 rfl rfl ?_
      refine z_sipush CX (v := 2048) dX5_takeTurn_96 (by decide) ?_
      refine z_idiv CX dX5_takeTurn_99 (by decide) ?_
      refine z_bipush CX (v := 20) dX5_takeTurn_100 (by decide) ?_
      refine z_irem CX dX5_takeTurn_102 (by decide) ?_
      refine z_callV1 CX dX5_takeTurn_103 cv_X5_252 (g_pG hO _ _ _ _) gb_c0 rfl rfl (Nat.le_of_ble_eq_true rfl) ⟨Nat.le_of_ble_eq_true rfl, Nat.le_of_ble_eq_true rfl⟩ ⟨Nat.le_refl _, Nat.le_refl _⟩ ?_
      refine z_pop CX dX5_takeTurn_106 rfl ?_
      refine z_goto CX 263 dX5_takeTurn_107 (by decide) ?_
      exact z_vret CX dX5_takeTurn_263 rfl rfl (Or.inl rfl)
    | 1, _, i2 =>
      refine Cn.of (d := mX5_takeTurn) (by decide +kernel) (Nat.le_of_ble_eq_true rfl) ?_
      intro p e R s m args below meth c CX
      replace CX : Ctx p s m args meth c R w RX5 "takeTurn" cX5_takeTurn 3 none 5 121 0 0 := CX
      show ZW p l e R s m args below meth c w 3 _ _ 0 0 (MQ below (Qn w _ _ _) args s 0 0 (wA w)) 0 [(0, .ref (wB w + k)), (1, .int _)] []
      refine z_iload_n CX 1 dX5_takeTurn_0 rfl rfl ?_
      refine z_bipush CX (v := 16) dX5_takeTurn_1 (by decide) ?_
      refine z_idiv CX dX5_takeTurn_3 (by decide) ?_
      refine z_istore_n CX 2 dX5_takeTurn_4 rfl (by decide) ?_
      refine z_iload_n CX 1 dX5_takeTurn_5 rfl rfl ?_
      refine z_bipush CX (v := 16) dX5_takeTurn_6 (by decide) ?_
      refine z_irem CX dX5_takeTurn_8 (by decide) ?_
      rw [show r - r / 16 * 16 = nI 1 from i2]
      refine z_tabIn CX 110 dX5_takeTurn_9 (by decide) (by decide) rfl (by decide) ?_
      refine z_aload_n CX 0 dX5_takeTurn_110 rfl rfl ?_
      refine z_get CX dX5_takeTurn_111 fg_X5_23 gb_0 rfl ?_
      refine z_bipush CX (v := 98) dX5_takeTurn_114 (by decide) ?_
      refine z_iconst CX (v := 1) dX5_takeTurn_116 (by decide) ?_
      refine z_iload_n CX 2 dX5_takeTurn_117 rfl rfl ?_
      refine z_bipush CX (v := 9) dX5_takeTurn_118 (by decide) ?_
      refine z_irem CX dX5_takeTurn_120 (by decide) ?_
      refine z_iadd CX dX5_takeTurn_121 ?_
      refine z_iload_n CX 2 dX5_takeTurn_122 rfl rfl ?_
      refine z_bipush CX (v := 16) dX5_takeTurn_123 (by decide) ?_
      refine z_idiv CX dX5_takeTurn_125 (by decide) ?_
      refine z_iconst CX (v := 4) dX5_takeTurn_126 (by decide) ?_
      refine z_irem CX dX5_takeTurn_127 (by decide) ?_
      refine z_iload_n CX 2 dX5_takeTurn_128 rfl rfl ?_
      refine z_bipush CX (v := 64) dX5_takeTurn_129 (by decide) ?_
      refine z_idiv CX dX5_takeTurn_131 (by decide) ?_
      refine z_iconst CX (v := 4) dX5_takeTurn_132 (by decide) ?_
      refine z_irem CX dX5_takeTurn_133 (by decide) ?_
      refine z_iconst CX (v := 0) dX5_takeTurn_134 (by decide) ?_
      refine z_callV1 CX dX5_takeTurn_135 cv_X5_252 (g_pB hO _ _ _) gb_c0 rfl rfl (Nat.le_of_ble_eq_true rfl) ⟨Nat.le_of_ble_eq_true rfl, Nat.le_of_ble_eq_true rfl⟩ ⟨Nat.le_refl _, Nat.le_refl _⟩ ?_
      refine z_pop CX dX5_takeTurn_138 rfl ?_
      refine z_goto CX 263 dX5_takeTurn_139 (by decide) ?_
      exact z_vret CX dX5_takeTurn_263 rfl rfl (Or.inl rfl)
    | 2, _, i2 =>
      refine Cn.of (d := mX5_takeTurn) (by decide +kernel) (Nat.le_of_ble_eq_true rfl) ?_
      intro p e R s m args below meth c CX
      replace CX : Ctx p s m args meth c R w RX5 "takeTurn" cX5_takeTurn 3 none 5 121 0 0 := CX
      show ZW p l e R s m args below meth c w 3 _ _ 0 0 (MQ below (Qn w _ _ _) args s 0 0 (wA w)) 0 [(0, .ref (wB w + k)), (1, .int _)] []
      refine z_iload_n CX 1 dX5_takeTurn_0 rfl rfl ?_
      refine z_bipush CX (v := 16) dX5_takeTurn_1 (by decide) ?_
      refine z_idiv CX dX5_takeTurn_3 (by decide) ?_
      refine z_istore_n CX 2 dX5_takeTurn_4 rfl (by decide) ?_
      refine z_iload_n CX 1 dX5_takeTurn_5 rfl rfl ?_
      refine z_bipush CX (v := 16) dX5_takeTurn_6 (by decide) ?_
      refine z_irem CX dX5_takeTurn_8 (by decide) ?_
      rw [show r - r / 16 * 16 = nI 2 from i2]
      refine z_tabIn CX 110 dX5_takeTurn_9 (by decide) (by decide) rfl (by decide) ?_
      refine z_aload_n CX 0 dX5_takeTurn_110 rfl rfl ?_
      refine z_get CX dX5_takeTurn_111 fg_X5_23 gb_0 rfl ?_
      refine z_bipush CX (v := 98) dX5_takeTurn_114 (by decide) ?_
      refine z_iconst CX (v := 1) dX5_takeTurn_116 (by decide) ?_
      refine z_iload_n CX 2 dX5_takeTurn_117 rfl rfl ?_
      refine z_bipush CX (v := 9) dX5_takeTurn_118 (by decide) ?_
      refine z_irem CX dX5_takeTurn_120 (by decide) ?_
      refine z_iadd CX dX5_takeTurn_121 ?_
      refine z_iload_n CX 2 dX5_takeTurn_122 rfl rfl ?_
      refine z_bipush CX (v := 16) dX5_takeTurn_123 (by decide) ?_
      refine z_idiv CX dX5_takeTurn_125 (by decide) ?_
      refine z_iconst CX (v := 4) dX5_takeTurn_126 (by decide) ?_
      refine z_irem CX dX5_takeTurn_127 (by decide) ?_
      refine z_iload_n CX 2 dX5_takeTurn_128 rfl rfl ?_
      refine z_bipush CX (v := 64) dX5_takeTurn_129 (by decide) ?_
      refine z_idiv CX dX5_takeTurn_131 (by decide) ?_
      refine z_iconst CX (v := 4) dX5_takeTurn_132 (by decide) ?_
      refine z_irem CX dX5_takeTurn_133 (by decide) ?_
      refine z_iconst CX (v := 0) dX5_takeTurn_134 (by decide) ?_
      refine z_callV1 CX dX5_takeTurn_135 cv_X5_252 (g_pB hO _ _ _) gb_c0 rfl rfl (Nat.le_of_ble_eq_true rfl) ⟨Nat.le_of_ble_eq_true rfl, Nat.le_of_ble_eq_true rfl⟩ ⟨Nat.le_refl _, Nat.le_refl _⟩ ?_
      refine z_pop CX dX5_takeTurn_138 rfl ?_
      refine z_goto CX 263 dX5_takeTurn_139 (by decide) ?_
      exact z_vret CX dX5_takeTurn_263 rfl rfl (Or.inl rfl)
    | 3, _, i2 =>
      refine Cn.of (d := mX5_takeTurn) (by decide +kernel) (Nat.le_of_ble_eq_true rfl) ?_
      intro p e R s m args below meth c CX
      replace CX : Ctx p s m args meth c R w RX5 "takeTurn" cX5_takeTurn 3 none 5 121 0 0 := CX
      show ZW p l e R s m args below meth c w 3 _ _ 0 0 (MQ below (Qn w _ _ _) args s 0 0 (wA w)) 0 [(0, .ref (wB w + k)), (1, .int _)] []
      refine z_iload_n CX 1 dX5_takeTurn_0 rfl rfl ?_
      refine z_bipush CX (v := 16) dX5_takeTurn_1 (by decide) ?_
      refine z_idiv CX dX5_takeTurn_3 (by decide) ?_
      refine z_istore_n CX 2 dX5_takeTurn_4 rfl (by decide) ?_
      refine z_iload_n CX 1 dX5_takeTurn_5 rfl rfl ?_
      refine z_bipush CX (v := 16) dX5_takeTurn_6 (by decide) ?_
      refine z_irem CX dX5_takeTurn_8 (by decide) ?_
      rw [show r - r / 16 * 16 = nI 3 from i2]
      refine z_tabIn CX 142 dX5_takeTurn_9 (by decide) (by decide) rfl (by decide) ?_
      refine z_aload_n CX 0 dX5_takeTurn_142 rfl rfl ?_
      refine z_get CX dX5_takeTurn_143 fg_X5_23 gb_0 rfl ?_
      refine z_bipush CX (v := 108) dX5_takeTurn_146 (by decide) ?_
      refine z_iload_n CX 2 dX5_takeTurn_148 rfl rfl ?_
      refine z_bipush CX (v := 10) dX5_takeTurn_149 (by decide) ?_
      refine z_irem CX dX5_takeTurn_151 (by decide) ?_
      refine z_iload_n CX 2 dX5_takeTurn_152 rfl rfl ?_
      refine z_bipush CX (v := 16) dX5_takeTurn_153 (by decide) ?_
      refine z_idiv CX dX5_takeTurn_155 (by decide) ?_
      refine z_bipush CX (v := 6) dX5_takeTurn_156 (by decide) ?_
      refine z_irem CX dX5_takeTurn_158 (by decide) ?_
      refine z_iconst CX (v := 0) dX5_takeTurn_159 (by decide) ?_
      refine z_iconst CX (v := 0) dX5_takeTurn_160 (by decide) ?_
      refine z_callV1 CX dX5_takeTurn_161 cv_X5_252 (g_pL hO _ _) gb_c0 rfl rfl (Nat.le_of_ble_eq_true rfl) ⟨Nat.le_of_ble_eq_true rfl, Nat.le_of_ble_eq_true rfl⟩ ⟨Nat.le_refl _, Nat.le_refl _⟩ ?_
      refine z_pop CX dX5_takeTurn_164 rfl ?_
      refine z_goto CX 263 dX5_takeTurn_165 (by decide) ?_
      exact z_vret CX dX5_takeTurn_263 rfl rfl (Or.inl rfl)
    | 4, _, i2 =>
      refine Cn.of (d := mX5_takeTurn) (by decide +kernel) (Nat.le_of_ble_eq_true rfl) ?_
      intro p e R s m args below meth c CX
      replace CX : Ctx p s m args meth c R w RX5 "takeTurn" cX5_takeTurn 3 none 5 121 0 0 := CX
      show ZW p l e R s m args below meth c w 3 _ _ 0 0 (MQ below (Qn w _ _ _) args s 0 0 (wA w)) 0 [(0, .ref (wB w + k)), (1, .int _)] []
      refine z_iload_n CX 1 dX5_takeTurn_0 rfl rfl ?_
      refine z_bipush CX (v := 16) dX5_takeTurn_1 (by decide) ?_
      refine z_idiv CX dX5_takeTurn_3 (by decide) ?_
      refine z_istore_n CX 2 dX5_takeTurn_4 rfl (by decide) ?_
      refine z_iload_n CX 1 dX5_takeTurn_5 rfl rfl ?_
      refine z_bipush CX (v := 16) dX5_takeTurn_6 (by decide) ?_
      refine z_irem CX dX5_takeTurn_8 (by decide) ?_
      rw [show r - r / 16 * 16 = nI 4 from i2]
      refine z_tabIn CX 142 dX5_takeTurn_9 (by decide) (by decide) rfl (by decide) ?_
      refine z_aload_n CX 0 dX5_takeTurn_142 rfl rfl ?_
      refine z_get CX dX5_takeTurn_143 fg_X5_23 gb_0 rfl ?_
      refine z_bipush CX (v := 108) dX5_takeTurn_146 (by decide) ?_
      refine z_iload_n CX 2 dX5_takeTurn_148 rfl rfl ?_
      refine z_bipush CX (v := 10) dX5_takeTurn_149 (by decide) ?_
      refine z_irem CX dX5_takeTurn_151 (by decide) ?_
      refine z_iload_n CX 2 dX5_takeTurn_152 rfl rfl ?_
      refine z_bipush CX (v := 16) dX5_takeTurn_153 (by decide) ?_
      refine z_idiv CX dX5_takeTurn_155 (by decide) ?_
      refine z_bipush CX (v := 6) dX5_takeTurn_156 (by decide) ?_
      refine z_irem CX dX5_takeTurn_158 (by decide) ?_
      refine z_iconst CX (v := 0) dX5_takeTurn_159 (by decide) ?_
      refine z_iconst CX (v := 0) dX5_takeTurn_160 (by decide) ?_
      refine z_callV1 CX dX5_takeTurn_161 cv_X5_252 (g_pL hO _ _) gb_c0 rfl rfl (Nat.le_of_ble_eq_true rfl) ⟨Nat.le_of_ble_eq_true rfl, Nat.le_of_ble_eq_true rfl⟩ ⟨Nat.le_refl _, Nat.le_refl _⟩ ?_
      refine z_pop CX dX5_takeTurn_164 rfl ?_
      refine z_goto CX 263 dX5_takeTurn_165 (by decide) ?_
      exact z_vret CX dX5_takeTurn_263 rfl rfl (Or.inl rfl)
    | 5, _, i2 =>
      refine Cn.of (d := mX5_takeTurn) (by decide +kernel) (Nat.le_of_ble_eq_true rfl) ?_
      intro p e R s m args below meth c CX
      replace CX : Ctx p s m args meth c R w RX5 "takeTurn" cX5_takeTurn 3 none 5 121 0 0 := CX
      show ZW p l e R s m args below meth c w 3 _ _ 0 0 (MQ below (Qn w _ _ _) args s 0 0 (wA w)) 0 [(0, .ref (wB w + k)), (1, .int _)] []
      refine z_iload_n CX 1 dX5_takeTurn_0 rfl rfl ?_
      refine z_bipush CX (v := 16) dX5_takeTurn_1 (by decide) ?_
      refine z_idiv CX dX5_takeTurn_3 (by decide) ?_
      refine z_istore_n CX 2 dX5_takeTurn_4 rfl (by decide) ?_
      refine z_iload_n CX 1 dX5_takeTurn_5 rfl rfl ?_
      refine z_bipush CX (v := 16) dX5_takeTurn_6 (by decide) ?_
      refine z_irem CX dX5_takeTurn_8 (by decide) ?_
      rw [show r - r / 16 * 16 = nI 5 from i2]
      refine z_tabIn CX 142 dX5_takeTurn_9 (by decide) (by decide) rfl (by decide) ?_
      refine z_aload_n CX 0 dX5_takeTurn_142 rfl rfl ?_
      refine z_get CX dX5_takeTurn_143 fg_X5_23 gb_0 rfl ?_
      refine z_bipush CX (v := 108) dX5_takeTurn_146 (by decide) ?_
      refine z_iload_n CX 2 dX5_takeTurn_148 rfl rfl ?_
      refine z_bipush CX (v := 10) dX5_takeTurn_149 (by decide) ?_
      refine z_irem CX dX5_takeTurn_151 (by decide) ?_
      refine z_iload_n CX 2 dX5_takeTurn_152 rfl rfl ?_
      refine z_bipush CX (v := 16) dX5_takeTurn_153 (by decide) ?_
      refine z_idiv CX dX5_takeTurn_155 (by decide) ?_
      refine z_bipush CX (v := 6) dX5_takeTurn_156 (by decide) ?_
      refine z_irem CX dX5_takeTurn_158 (by decide) ?_
      refine z_iconst CX (v := 0) dX5_takeTurn_159 (by decide) ?_
      refine z_iconst CX (v := 0) dX5_takeTurn_160 (by decide) ?_
      refine z_callV1 CX dX5_takeTurn_161 cv_X5_252 (g_pL hO _ _) gb_c0 rfl rfl (Nat.le_of_ble_eq_true rfl) ⟨Nat.le_of_ble_eq_true rfl, Nat.le_of_ble_eq_true rfl⟩ ⟨Nat.le_refl _, Nat.le_refl _⟩ ?_
      refine z_pop CX dX5_takeTurn_164 rfl ?_
      refine z_goto CX 263 dX5_takeTurn_165 (by decide) ?_
      exact z_vret CX dX5_takeTurn_263 rfl rfl (Or.inl rfl)
    | 6, _, i2 =>
      refine Cn.of (d := mX5_takeTurn) (by decide +kernel) (Nat.le_of_ble_eq_true rfl) ?_
      intro p e R s m args below meth c CX
      replace CX : Ctx p s m args meth c R w RX5 "takeTurn" cX5_takeTurn 3 none 5 121 0 0 := CX
      show ZW p l e R s m args below meth c w 3 _ _ 0 0 (MQ below (Qn w _ _ _) args s 0 0 (wA w)) 0 [(0, .ref (wB w + k)), (1, .int _)] []
      refine z_iload_n CX 1 dX5_takeTurn_0 rfl rfl ?_
      refine z_bipush CX (v := 16) dX5_takeTurn_1 (by decide) ?_
      refine z_idiv CX dX5_takeTurn_3 (by decide) ?_
      refine z_istore_n CX 2 dX5_takeTurn_4 rfl (by decide) ?_
      refine z_iload_n CX 1 dX5_takeTurn_5 rfl rfl ?_
      refine z_bipush CX (v := 16) dX5_takeTurn_6 (by decide) ?_
      refine z_irem CX dX5_takeTurn_8 (by decide) ?_
      rw [show r - r / 16 * 16 = nI 6 from i2]
      refine z_tabIn CX 142 dX5_takeTurn_9 (by decide) (by decide) rfl (by decide) ?_
      refine z_aload_n CX 0 dX5_takeTurn_142 rfl rfl ?_
      refine z_get CX dX5_takeTurn_143 fg_X5_23 gb_0 rfl ?_
      refine z_bipush CX (v := 108) dX5_takeTurn_146 (by decide) ?_
      refine z_iload_n CX 2 dX5_takeTurn_148 rfl rfl ?_
      refine z_bipush CX (v := 10) dX5_takeTurn_149 (by decide) ?_
      refine z_irem CX dX5_takeTurn_151 (by decide) ?_
      refine z_iload_n CX 2 dX5_takeTurn_152 rfl rfl ?_
      refine z_bipush CX (v := 16) dX5_takeTurn_153 (by decide) ?_
      refine z_idiv CX dX5_takeTurn_155 (by decide) ?_
      refine z_bipush CX (v := 6) dX5_takeTurn_156 (by decide) ?_
      refine z_irem CX dX5_takeTurn_158 (by decide) ?_
      refine z_iconst CX (v := 0) dX5_takeTurn_159 (by decide) ?_
      refine z_iconst CX (v := 0) dX5_takeTurn_160 (by decide) ?_
      refine z_callV1 CX dX5_takeTurn_161 cv_X5_252 (g_pL hO _ _) gb_c0 rfl rfl (Nat.le_of_ble_eq_true rfl) ⟨Nat.le_of_ble_eq_true rfl, Nat.le_of_ble_eq_true rfl⟩ ⟨Nat.le_refl _, Nat.le_refl _⟩ ?_
      refine z_pop CX dX5_takeTurn_164 rfl ?_
      refine z_goto CX 263 dX5_takeTurn_165 (by decide) ?_
      exact z_vret CX dX5_takeTurn_263 rfl rfl (Or.inl rfl)
    | 7, _, i2 =>
      refine Cn.of (d := mX5_takeTurn) (by decide +kernel) (Nat.le_of_ble_eq_true rfl) ?_
      intro p e R s m args below meth c CX
      replace CX : Ctx p s m args meth c R w RX5 "takeTurn" cX5_takeTurn 3 none 5 121 0 0 := CX
      show ZW p l e R s m args below meth c w 3 _ _ 0 0 (MQ below (Qn w _ _ _) args s 0 0 (wA w)) 0 [(0, .ref (wB w + k)), (1, .int _)] []
      refine z_iload_n CX 1 dX5_takeTurn_0 rfl rfl ?_
      refine z_bipush CX (v := 16) dX5_takeTurn_1 (by decide) ?_
      refine z_idiv CX dX5_takeTurn_3 (by decide) ?_
      refine z_istore_n CX 2 dX5_takeTurn_4 rfl (by decide) ?_
      refine z_iload_n CX 1 dX5_takeTurn_5 rfl rfl ?_
      refine z_bipush CX (v := 16) dX5_takeTurn_6 (by decide) ?_
      refine z_irem CX dX5_takeTurn_8 (by decide) ?_
      rw [show r - r / 16 * 16 = nI 7 from i2]
      refine z_tabIn CX 168 dX5_takeTurn_9 (by decide) (by decide) rfl (by decide) ?_
      refine z_aload_n CX 0 dX5_takeTurn_168 rfl rfl ?_
      refine z_get CX dX5_takeTurn_169 fg_X5_23 gb_0 rfl ?_
      refine z_bipush CX (v := 104) dX5_takeTurn_172 (by decide) ?_
      refine z_iload_n CX 2 dX5_takeTurn_174 rfl rfl ?_
      refine z_iconst CX (v := 4) dX5_takeTurn_175 (by decide) ?_
      refine z_irem CX dX5_takeTurn_176 (by decide) ?_
      refine z_iload_n CX 2 dX5_takeTurn_177 rfl rfl ?_
      refine z_iconst CX (v := 4) dX5_takeTurn_178 (by decide) ?_
      refine z_idiv CX dX5_takeTurn_179 (by decide) ?_
      refine z_bipush CX (v := 6) dX5_takeTurn_180 (by decide) ?_
      refine z_irem CX dX5_takeTurn_182 (by decide) ?_
      refine z_iload_n CX 2 dX5_takeTurn_183 rfl rfl ?_
      refine z_bipush CX (v := 32) dX5_takeTurn_184 (by decide) ?_
      refine z_idiv CX dX5_takeTurn_186 (by decide) ?_
      refine z_bipush CX (v := 20) dX5_takeTurn_187 (by decide) ?_
      refine z_irem CX dX5_takeTurn_189 (by decide) ?_
      refine z_iconst CX (v := 0) dX5_takeTurn_190 (by decide) ?_
      refine z_callV1 CX dX5_takeTurn_191 cv_X5_252 (g_pH hO _ _ _) gb_c0 rfl rfl (Nat.le_of_ble_eq_true rfl) ⟨Nat.le_of_ble_eq_true rfl, Nat.le_of_ble_eq_true rfl⟩ ⟨Nat.le_refl _, Nat.le_refl _⟩ ?_
      refine z_pop CX dX5_takeTurn_194 rfl ?_
      refine z_goto CX 263 dX5_takeTurn_195 (by decide) ?_
      exact z_vret CX dX5_takeTurn_263 rfl rfl (Or.inl rfl)
    | 8, _, i2 =>
      refine Cn.of (d := mX5_takeTurn) (by decide +kernel) (Nat.le_of_ble_eq_true rfl) ?_
      intro p e R s m args below meth c CX
      replace CX : Ctx p s m args meth c R w RX5 "takeTurn" cX5_takeTurn 3 none 5 121 0 0 := CX
      show ZW p l e R s m args below meth c w 3 _ _ 0 0 (MQ below (Qn w _ _ _) args s 0 0 (wA w)) 0 [(0, .ref (wB w + k)), (1, .int _)] []
      refine z_iload_n CX 1 dX5_takeTurn_0 rfl rfl ?_
      refine z_bipush CX (v := 16) dX5_takeTurn_1 (by decide) ?_
      refine z_idiv CX dX5_takeTurn_3 (by decide) ?_
      refine z_istore_n CX 2 dX5_takeTurn_4 rfl (by decide) ?_
      refine z_iload_n CX 1 dX5_takeTurn_5 rfl rfl ?_
      refine z_bipush CX (v := 16) dX5_takeTurn_6 (by decide) ?_
      refine z_irem CX dX5_takeTurn_8 (by decide) ?_
      rw [show r - r / 16 * 16 = nI 8 from i2]
      refine z_tabIn CX 198 dX5_takeTurn_9 (by decide) (by decide) rfl (by decide) ?_
      refine z_aload_n CX 0 dX5_takeTurn_198 rfl rfl ?_
      refine z_get CX dX5_takeTurn_199 fg_X5_23 gb_0 rfl ?_
      refine z_bipush CX (v := 99) dX5_takeTurn_202 (by decide) ?_
      refine z_iload_n CX 2 dX5_takeTurn_204 rfl rfl ?_
      refine z_iconst CX (v := 4) dX5_takeTurn_205 (by decide) ?_
      refine z_irem CX dX5_takeTurn_206 (by decide) ?_
      refine z_iload_n CX 2 dX5_takeTurn_207 rfl rfl ?_
      refine z_iconst CX (v := 4) dX5_takeTurn_208 (by decide) ?_
      refine z_idiv CX dX5_takeTurn_209 (by decide) ?_
      refine z_bipush CX (v := 10) dX5_takeTurn_210 (by decide) ?_
      refine z_irem CX dX5_takeTurn_212 (by decide) ?_
      refine z_iconst CX (v := 0) dX5_takeTurn_213 (by decide) ?_
      refine z_iconst CX (v := 0) dX5_takeTurn_214 (by decide) ?_
      refine z_callV1 CX dX5_takeTurn_215 cv_X5_252 (g_pT hO _ _) gb_c0 rfl rfl (Nat.le_of_ble_eq_true rfl) ⟨Nat.le_of_ble_eq_true rfl, Nat.le_of_ble_eq_true rfl⟩ ⟨Nat.le_refl _, Nat.le_refl _⟩ ?_
      refine z_pop CX dX5_takeTurn_218 rfl ?_
      refine z_goto CX 263 dX5_takeTurn_219 (by decide) ?_
      exact z_vret CX dX5_takeTurn_263 rfl rfl (Or.inl rfl)
    | 9, _, i2 =>
      refine Cn.of (d := mX5_takeTurn) (by decide +kernel) (Nat.le_of_ble_eq_true rfl) ?_
      intro p e R s m args below meth c CX
      replace CX : Ctx p s m args meth c R w RX5 "takeTurn" cX5_takeTurn 3 none 5 121 0 0 := CX
      show ZW p l e R s m args below meth c w 3 _ _ 0 0 (MQ below (Qn w _ _ _) args s 0 0 (wA w)) 0 [(0, .ref (wB w + k)), (1, .int _)] []
      refine z_iload_n CX 1 dX5_takeTurn_0 rfl rfl ?_
      refine z_bipush CX (v := 16) dX5_takeTurn_1 (by decide) ?_
      refine z_idiv CX dX5_takeTurn_3 (by decide) ?_
      refine z_istore_n CX 2 dX5_takeTurn_4 rfl (by decide) ?_
      refine z_iload_n CX 1 dX5_takeTurn_5 rfl rfl ?_
      refine z_bipush CX (v := 16) dX5_takeTurn_6 (by decide) ?_
      refine z_irem CX dX5_takeTurn_8 (by decide) ?_
      rw [show r - r / 16 * 16 = nI 9 from i2]
      refine z_tabIn CX 198 dX5_takeTurn_9 (by decide) (by decide) rfl (by decide) ?_
      refine z_aload_n CX 0 dX5_takeTurn_198 rfl rfl ?_
      refine z_get CX dX5_takeTurn_199 fg_X5_23 gb_0 rfl ?_
      refine z_bipush CX (v := 99) dX5_takeTurn_202 (by decide) ?_
      refine z_iload_n CX 2 dX5_takeTurn_204 rfl rfl ?_
      refine z_iconst CX (v := 4) dX5_takeTurn_205 (by decide) ?_
      refine z_irem CX dX5_takeTurn_206 (by decide) ?_
      refine z_iload_n CX 2 dX5_takeTurn_207 rfl rfl ?_
      refine z_iconst CX (v := 4) dX5_takeTurn_208 (by decide) ?_
      refine z_idiv CX dX5_takeTurn_209 (by decide) ?_
      refine z_bipush CX (v := 10) dX5_takeTurn_210 (by decide) ?_
      refine z_irem CX dX5_takeTurn_212 (by decide) ?_
      refine z_iconst CX (v := 0) dX5_takeTurn_213 (by decide) ?_
      refine z_iconst CX (v := 0) dX5_takeTurn_214 (by decide) ?_
      refine z_callV1 CX dX5_takeTurn_215 cv_X5_252 (g_pT hO _ _) gb_c0 rfl rfl (Nat.le_of_ble_eq_true rfl) ⟨Nat.le_of_ble_eq_true rfl, Nat.le_of_ble_eq_true rfl⟩ ⟨Nat.le_refl _, Nat.le_refl _⟩ ?_
      refine z_pop CX dX5_takeTurn_218 rfl ?_
      refine z_goto CX 263 dX5_takeTurn_219 (by decide) ?_
      exact z_vret CX dX5_takeTurn_263 rfl rfl (Or.inl rfl)
    | 10, _, i2 =>
      refine Cn.of (d := mX5_takeTurn) (by decide +kernel) (Nat.le_of_ble_eq_true rfl) ?_
      intro p e R s m args below meth c CX
      replace CX : Ctx p s m args meth c R w RX5 "takeTurn" cX5_takeTurn 3 none 5 121 0 0 := CX
      show ZW p l e R s m args below meth c w 3 _ _ 0 0 (MQ below (Qn w _ _ _) args s 0 0 (wA w)) 0 [(0, .ref (wB w + k)), (1, .int _)] []
      refine z_iload_n CX 1 dX5_takeTurn_0 rfl rfl ?_
      refine z_bipush CX (v := 16) dX5_takeTurn_1 (by decide) ?_
      refine z_idiv CX dX5_takeTurn_3 (by decide) ?_
      refine z_istore_n CX 2 dX5_takeTurn_4 rfl (by decide) ?_
      refine z_iload_n CX 1 dX5_takeTurn_5 rfl rfl ?_
      refine z_bipush CX (v := 16) dX5_takeTurn_6 (by decide) ?_
      refine z_irem CX dX5_takeTurn_8 (by decide) ?_
      rw [show r - r / 16 * 16 = nI 10 from i2]
      refine z_tabIn CX 222 dX5_takeTurn_9 (by decide) (by decide) rfl (by decide) ?_
      refine z_aload_n CX 0 dX5_takeTurn_222 rfl rfl ?_
      refine z_get CX dX5_takeTurn_223 fg_X5_23 gb_0 rfl ?_
      refine z_bipush CX (v := 115) dX5_takeTurn_226 (by decide) ?_
      refine z_iload_n CX 2 dX5_takeTurn_228 rfl rfl ?_
      refine z_iconst CX (v := 3) dX5_takeTurn_229 (by decide) ?_
      refine z_irem CX dX5_takeTurn_230 (by decide) ?_
      refine z_iload_n CX 2 dX5_takeTurn_231 rfl rfl ?_
      refine z_iconst CX (v := 4) dX5_takeTurn_232 (by decide) ?_
      refine z_idiv CX dX5_takeTurn_233 (by decide) ?_
      refine z_iconst CX (v := 5) dX5_takeTurn_234 (by decide) ?_
      refine z_irem CX dX5_takeTurn_235 (by decide) ?_
      refine z_iconst CX (v := 0) dX5_takeTurn_236 (by decide) ?_
      refine z_iconst CX (v := 0) dX5_takeTurn_237 (by decide) ?_
      refine z_callV1 CX dX5_takeTurn_238 cv_X5_252 (g_pS hO _ _) gb_c0 rfl rfl (Nat.le_of_ble_eq_true rfl) ⟨Nat.le_of_ble_eq_true rfl, Nat.le_of_ble_eq_true rfl⟩ ⟨Nat.le_refl _, Nat.le_refl _⟩ ?_
      refine z_pop CX dX5_takeTurn_241 rfl ?_
      refine z_goto CX 263 dX5_takeTurn_242 (by decide) ?_
      exact z_vret CX dX5_takeTurn_263 rfl rfl (Or.inl rfl)
    | i + 11, h, _ => omega
  · rw [show stF f r = stN f (r / 16) 11 by unfold stF; rw [if_neg h0]]
    refine Cn.of (d := mX5_takeTurn) (by decide +kernel) (Nat.le_of_ble_eq_true rfl) ?_
    intro p e R s m args below meth c CX
    replace CX : Ctx p s m args meth c R w RX5 "takeTurn" cX5_takeTurn 3 none 5 121 0 0 := CX
    show ZW p l e R s m args below meth c w 3 _ _ 0 0 (MQ below (Qn w _ _ _) args s 0 0 (wA w)) 0 [(0, .ref (wB w + k)), (1, .int _)] []
    refine z_iload_n CX 1 dX5_takeTurn_0 rfl rfl ?_
    refine z_bipush CX (v := 16) dX5_takeTurn_1 (by decide) ?_
    refine z_idiv CX dX5_takeTurn_3 (by decide) ?_
    refine z_istore_n CX 2 dX5_takeTurn_4 rfl (by decide) ?_
    refine z_iload_n CX 1 dX5_takeTurn_5 rfl rfl ?_
    refine z_bipush CX (v := 16) dX5_takeTurn_6 (by decide) ?_
    refine z_irem CX dX5_takeTurn_8 (by decide) ?_
    refine z_tabOut CX 245 dX5_takeTurn_9 (so_10 h0) (by decide) ?_
    refine z_aload_n CX 0 dX5_takeTurn_245 rfl rfl ?_
    refine z_get CX dX5_takeTurn_246 fg_X5_23 gb_0 rfl ?_
    refine z_bipush CX (v := 109) dX5_takeTurn_249 (by decide) ?_
    refine z_iconst CX (v := 1) dX5_takeTurn_251 (by decide) ?_
    refine z_iload_n CX 2 dX5_takeTurn_252 rfl rfl ?_
    refine z_iconst CX (v := 4) dX5_takeTurn_253 (by decide) ?_
    refine z_irem CX dX5_takeTurn_254 (by decide) ?_
    refine z_iadd CX dX5_takeTurn_255 ?_
    refine z_iconst CX (v := 0) dX5_takeTurn_256 (by decide) ?_
    refine z_iconst CX (v := 0) dX5_takeTurn_257 (by decide) ?_
    refine z_iconst CX (v := 0) dX5_takeTurn_258 (by decide) ?_
    refine z_callV1 CX dX5_takeTurn_259 cv_X5_252 (g_pM hO _) gb_c0 rfl rfl (Nat.le_of_ble_eq_true rfl) ⟨Nat.le_of_ble_eq_true rfl, Nat.le_of_ble_eq_true rfl⟩ ⟨Nat.le_refl _, Nat.le_refl _⟩ ?_
    refine z_pop CX dX5_takeTurn_262 rfl ?_
    exact z_vret CX dX5_takeTurn_263 rfl rfl (Or.inl rfl)
