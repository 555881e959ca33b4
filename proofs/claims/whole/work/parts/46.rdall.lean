/-! the model: a command, the whole text; load, errorPosition, append, clearText -/
theorem pz_103 {t : Nat → Int32} {len y : Nat} : pz t len 103 y = pzG t len y := by unfold pz; rw [if_pos rfl]
theorem pf_103 {f : Nat → Int32} {a b c d : Int32} : pf f 103 a b c d = pfG f a b c d := by unfold pf; rw [if_pos rfl]
theorem pz_98 {t : Nat → Int32} {len y : Nat} : pz t len 98 y = pzB t len y := by unfold pz; rw [if_neg (by decide), if_pos rfl]
theorem pf_98 {f : Nat → Int32} {a b c d : Int32} : pf f 98 a b c d = pfB f a b c := by unfold pf; rw [if_neg (by decide), if_pos rfl]
theorem pz_108 {t : Nat → Int32} {len y : Nat} : pz t len 108 y = pzL t len y := by unfold pz; rw [if_neg (by decide), if_neg (by decide), if_pos rfl]
theorem pf_108 {f : Nat → Int32} {a b c d : Int32} : pf f 108 a b c d = pfL f a b := by unfold pf; rw [if_neg (by decide), if_neg (by decide), if_pos rfl]
theorem pz_109 {t : Nat → Int32} {len y : Nat} : pz t len 109 y = pzM t len y := by unfold pz; rw [if_neg (by decide), if_neg (by decide), if_neg (by decide), if_pos rfl]
theorem pf_109 {f : Nat → Int32} {a b c d : Int32} : pf f 109 a b c d = pfM f a := by unfold pf; rw [if_neg (by decide), if_neg (by decide), if_neg (by decide), if_pos rfl]
theorem pz_104 {t : Nat → Int32} {len y : Nat} : pz t len 104 y = pzH t len y := by unfold pz; rw [if_neg (by decide), if_neg (by decide), if_neg (by decide), if_neg (by decide), if_pos rfl]
theorem pf_104 {f : Nat → Int32} {a b c d : Int32} : pf f 104 a b c d = pfH f a b c := by unfold pf; rw [if_neg (by decide), if_neg (by decide), if_neg (by decide), if_neg (by decide), if_pos rfl]
theorem pz_99 {t : Nat → Int32} {len y : Nat} : pz t len 99 y = pzC t len y := by unfold pz; rw [if_neg (by decide), if_neg (by decide), if_neg (by decide), if_neg (by decide), if_neg (by decide), if_pos rfl]
theorem pf_99 {f : Nat → Int32} {a b c d : Int32} : pf f 99 a b c d = pfC f a b := by unfold pf; rw [if_neg (by decide), if_neg (by decide), if_neg (by decide), if_neg (by decide), if_neg (by decide), if_pos rfl]
theorem pz_115 {t : Nat → Int32} {len y : Nat} : pz t len 115 y = pzS t len y := by unfold pz; rw [if_neg (by decide), if_neg (by decide), if_neg (by decide), if_neg (by decide), if_neg (by decide), if_neg (by decide), if_pos rfl]
theorem pf_115 {f : Nat → Int32} {a b c d : Int32} : pf f 115 a b c d = pfS f a b := by unfold pf; rw [if_neg (by decide), if_neg (by decide), if_neg (by decide), if_neg (by decide), if_neg (by decide), if_neg (by decide), if_pos rfl]
set_option maxHeartbeats 4000000 in
set_option maxRecDepth 100000 in
theorem c_rdCm {l : Launch} {w : Wt} {hs : Hs} {n : Option Nat} {k : Nat} {u : Nat → Int32} {A : Nat → Nat → Int32} {y len : Nat} {x5 : Int32} (hu : u 2 = nI len) (hl : len ≤ 120) (hy : y < 190) (hO : OKr (A 2)) : ∃ v : Int32, Cn l w mX6_readCommand 0 0 [.ref (wB w + k)] (modH w hs k (sT5 u y true x5) A) n (modH w hs k (sT5 u (cmS (A 6) len (A 2) y x5).1.1 (cmS (A 6) len (A 2) y x5).1.2 (cmS (A 6) len (A 2) y x5).2.2) (upA A 2 (cmS (A 6) len (A 2) y x5).2.1)) n (some (.int v)) := by
  by_cases h103 : hrF (A 6) len y = 103
  · have hS : (cmS (A 6) len (A 2) y x5) = ((pzG (A 6) len (y + 1)).1, exR (pzG (A 6) len (y + 1)).1.2 (pfG (A 2) (pzG (A 6) len (y + 1)).2.1 (pzG (A 6) len (y + 1)).2.2.1 (pzG (A 6) len (y + 1)).2.2.2.1 (pzG (A 6) len (y + 1)).2.2.2.2) (A 2) x5) := by
      unfold cmS; rw [if_pos (Or.inl h103), h103, pz_103, pf_103]
    obtain ⟨v9, hC⟩ := c_rdG (l := l) (w := w) (hs := hs) (n := n) (k := k) (u := u) (A := A) (y := y + 1) (x5 := x5) hu hl (by omega) hO rfl rfl rfl rfl rfl rfl rfl rfl
    refine ⟨v9, ?_⟩
    rw [hS]
    refine Cn.of (d := mX6_readCommand) (by decide +kernel) (Nat.le_of_ble_eq_true rfl) ?_
    intro p e R s m args below meth c CX
    replace CX : Ctx p s m args meth c R w RX6 "readCommand" cX6_readCommand 2 (some .int) 8 182 0 0 := CX
    show ZW p l e R s m args below meth c w 2 _ _ 0 0 (MQ below (Qn w _ _ _) args s 0 0 (wA w)) 0 [(0, .ref (wB w + k))] []
    refine z_aload_n CX 0 dX6_readCommand_0 rfl rfl ?_
    refine z_callV1 CX dX6_readCommand_1 cv_X6_133 (c_here (y := y) (len := len) hu rfl (by omega) hl) mo_0 rfl rfl (Nat.le_of_ble_eq_true rfl) ⟨Nat.le_of_ble_eq_true rfl, Nat.le_of_ble_eq_true rfl⟩ ⟨Nat.le_refl _, Nat.le_refl _⟩ ?_
    rw [h103]
    refine z_istore_n CX 1 dX6_readCommand_4 rfl (by decide) ?_
    refine z_aload_n CX 0 dX6_readCommand_5 rfl rfl ?_
    refine z_iload_n CX 1 dX6_readCommand_6 rfl rfl ?_
    refine z_bipush CX (v := 103) dX6_readCommand_7 (by decide) ?_
    refine z_icmp_eq CX 48 dX6_readCommand_9 (by decide) (fun _ => ?_) (fun q9 => absurd rfl q9)
    refine z_iconst CX (v := 1) dX6_readCommand_48 (by decide) ?_
    refine z_goto CX 53 dX6_readCommand_49 (by decide) ?_
    refine z_callV0 CX dX6_readCommand_53 cv_X6_137 (c_take (g := true) (ok := true)) mo_0 rfl rfl (Nat.le_of_ble_eq_true rfl) ⟨Nat.le_of_ble_eq_true rfl, Nat.le_of_ble_eq_true rfl⟩ ⟨Nat.le_refl _, Nat.le_refl _⟩ ?_
    refine z_heap (show _ = modH w hs k (sT5 u (y + 1) true x5) A from rfl) ?_
    refine z_aload_n CX 0 dX6_readCommand_56 rfl rfl ?_
    refine z_get CX dX6_readCommand_57 fg_X6_129 mo_0 rfl ?_
    refine z_if_ne CX 65 dX6_readCommand_60 (by decide) (fun _ => ?_) (fun q9 => absurd q9 (show bI true ≠ 0 by decide))
    refine z_iload_n CX 1 dX6_readCommand_65 rfl rfl ?_
    refine z_tabIn CX 124 dX6_readCommand_66 (by decide) (by decide) rfl (by decide) ?_
    refine z_aload_n CX 0 dX6_readCommand_124 rfl rfl ?_
    refine z_callV1 CX dX6_readCommand_125 cv_X6_188 hC mo_0 rfl rfl (Nat.le_of_ble_eq_true rfl) ⟨Nat.le_of_ble_eq_true rfl, Nat.le_of_ble_eq_true rfl⟩ ⟨Nat.le_refl _, Nat.le_refl _⟩ ?_
    exact z_iret CX dX6_readCommand_128 rfl rfl rfl (Or.inl rfl)
  by_cases h98 : hrF (A 6) len y = 98
  · have hS : (cmS (A 6) len (A 2) y x5) = ((pzB (A 6) len (y + 1)).1, exR (pzB (A 6) len (y + 1)).1.2 (pfB (A 2) (pzB (A 6) len (y + 1)).2.1 (pzB (A 6) len (y + 1)).2.2.1 (pzB (A 6) len (y + 1)).2.2.2.1) (A 2) x5) := by
      unfold cmS; rw [if_pos (Or.inr (Or.inl h98)), h98, pz_98, pf_98]
    obtain ⟨v9, hC⟩ := c_rdB (l := l) (w := w) (hs := hs) (n := n) (k := k) (u := u) (A := A) (y := y + 1) (x5 := x5) hu hl (by omega) hO rfl rfl rfl rfl rfl rfl
    refine ⟨v9, ?_⟩
    rw [hS]
    refine Cn.of (d := mX6_readCommand) (by decide +kernel) (Nat.le_of_ble_eq_true rfl) ?_
    intro p e R s m args below meth c CX
    replace CX : Ctx p s m args meth c R w RX6 "readCommand" cX6_readCommand 2 (some .int) 8 182 0 0 := CX
    show ZW p l e R s m args below meth c w 2 _ _ 0 0 (MQ below (Qn w _ _ _) args s 0 0 (wA w)) 0 [(0, .ref (wB w + k))] []
    refine z_aload_n CX 0 dX6_readCommand_0 rfl rfl ?_
    refine z_callV1 CX dX6_readCommand_1 cv_X6_133 (c_here (y := y) (len := len) hu rfl (by omega) hl) mo_0 rfl rfl (Nat.le_of_ble_eq_true rfl) ⟨Nat.le_of_ble_eq_true rfl, Nat.le_of_ble_eq_true rfl⟩ ⟨Nat.le_refl _, Nat.le_refl _⟩ ?_
    rw [h98]
    refine z_istore_n CX 1 dX6_readCommand_4 rfl (by decide) ?_
    refine z_aload_n CX 0 dX6_readCommand_5 rfl rfl ?_
    refine z_iload_n CX 1 dX6_readCommand_6 rfl rfl ?_
    refine z_bipush CX (v := 103) dX6_readCommand_7 (by decide) ?_
    refine z_icmp_eq CX 48 dX6_readCommand_9 (by decide) (fun q9 => absurd q9 (by decide)) (fun _ => ?_)
    refine z_iload_n CX 1 dX6_readCommand_12 rfl rfl ?_
    refine z_bipush CX (v := 98) dX6_readCommand_13 (by decide) ?_
    refine z_icmp_eq CX 48 dX6_readCommand_15 (by decide) (fun _ => ?_) (fun q9 => absurd rfl q9)
    refine z_iconst CX (v := 1) dX6_readCommand_48 (by decide) ?_
    refine z_goto CX 53 dX6_readCommand_49 (by decide) ?_
    refine z_callV0 CX dX6_readCommand_53 cv_X6_137 (c_take (g := true) (ok := true)) mo_0 rfl rfl (Nat.le_of_ble_eq_true rfl) ⟨Nat.le_of_ble_eq_true rfl, Nat.le_of_ble_eq_true rfl⟩ ⟨Nat.le_refl _, Nat.le_refl _⟩ ?_
    refine z_heap (show _ = modH w hs k (sT5 u (y + 1) true x5) A from rfl) ?_
    refine z_aload_n CX 0 dX6_readCommand_56 rfl rfl ?_
    refine z_get CX dX6_readCommand_57 fg_X6_129 mo_0 rfl ?_
    refine z_if_ne CX 65 dX6_readCommand_60 (by decide) (fun _ => ?_) (fun q9 => absurd q9 (show bI true ≠ 0 by decide))
    refine z_iload_n CX 1 dX6_readCommand_65 rfl rfl ?_
    refine z_tabIn CX 129 dX6_readCommand_66 (by decide) (by decide) rfl (by decide) ?_
    refine z_aload_n CX 0 dX6_readCommand_129 rfl rfl ?_
    refine z_callV1 CX dX6_readCommand_130 cv_X6_191 hC mo_0 rfl rfl (Nat.le_of_ble_eq_true rfl) ⟨Nat.le_of_ble_eq_true rfl, Nat.le_of_ble_eq_true rfl⟩ ⟨Nat.le_refl _, Nat.le_refl _⟩ ?_
    exact z_iret CX dX6_readCommand_133 rfl rfl rfl (Or.inl rfl)
  by_cases h108 : hrF (A 6) len y = 108
  · have hS : (cmS (A 6) len (A 2) y x5) = ((pzL (A 6) len (y + 1)).1, exR (pzL (A 6) len (y + 1)).1.2 (pfL (A 2) (pzL (A 6) len (y + 1)).2.1 (pzL (A 6) len (y + 1)).2.2.1) (A 2) x5) := by
      unfold cmS; rw [if_pos (Or.inr (Or.inr (Or.inl h108))), h108, pz_108, pf_108]
    obtain ⟨v9, hC⟩ := c_rdL (l := l) (w := w) (hs := hs) (n := n) (k := k) (u := u) (A := A) (y := y + 1) (x5 := x5) hu hl (by omega) hO rfl rfl rfl rfl
    refine ⟨v9, ?_⟩
    rw [hS]
    refine Cn.of (d := mX6_readCommand) (by decide +kernel) (Nat.le_of_ble_eq_true rfl) ?_
    intro p e R s m args below meth c CX
    replace CX : Ctx p s m args meth c R w RX6 "readCommand" cX6_readCommand 2 (some .int) 8 182 0 0 := CX
    show ZW p l e R s m args below meth c w 2 _ _ 0 0 (MQ below (Qn w _ _ _) args s 0 0 (wA w)) 0 [(0, .ref (wB w + k))] []
    refine z_aload_n CX 0 dX6_readCommand_0 rfl rfl ?_
    refine z_callV1 CX dX6_readCommand_1 cv_X6_133 (c_here (y := y) (len := len) hu rfl (by omega) hl) mo_0 rfl rfl (Nat.le_of_ble_eq_true rfl) ⟨Nat.le_of_ble_eq_true rfl, Nat.le_of_ble_eq_true rfl⟩ ⟨Nat.le_refl _, Nat.le_refl _⟩ ?_
    rw [h108]
    refine z_istore_n CX 1 dX6_readCommand_4 rfl (by decide) ?_
    refine z_aload_n CX 0 dX6_readCommand_5 rfl rfl ?_
    refine z_iload_n CX 1 dX6_readCommand_6 rfl rfl ?_
    refine z_bipush CX (v := 103) dX6_readCommand_7 (by decide) ?_
    refine z_icmp_eq CX 48 dX6_readCommand_9 (by decide) (fun q9 => absurd q9 (by decide)) (fun _ => ?_)
    refine z_iload_n CX 1 dX6_readCommand_12 rfl rfl ?_
    refine z_bipush CX (v := 98) dX6_readCommand_13 (by decide) ?_
    refine z_icmp_eq CX 48 dX6_readCommand_15 (by decide) (fun q9 => absurd q9 (by decide)) (fun _ => ?_)
    refine z_iload_n CX 1 dX6_readCommand_18 rfl rfl ?_
    refine z_bipush CX (v := 108) dX6_readCommand_19 (by decide) ?_
    refine z_icmp_eq CX 48 dX6_readCommand_21 (by decide) (fun _ => ?_) (fun q9 => absurd rfl q9)
    refine z_iconst CX (v := 1) dX6_readCommand_48 (by decide) ?_
    refine z_goto CX 53 dX6_readCommand_49 (by decide) ?_
    refine z_callV0 CX dX6_readCommand_53 cv_X6_137 (c_take (g := true) (ok := true)) mo_0 rfl rfl (Nat.le_of_ble_eq_true rfl) ⟨Nat.le_of_ble_eq_true rfl, Nat.le_of_ble_eq_true rfl⟩ ⟨Nat.le_refl _, Nat.le_refl _⟩ ?_
    refine z_heap (show _ = modH w hs k (sT5 u (y + 1) true x5) A from rfl) ?_
    refine z_aload_n CX 0 dX6_readCommand_56 rfl rfl ?_
    refine z_get CX dX6_readCommand_57 fg_X6_129 mo_0 rfl ?_
    refine z_if_ne CX 65 dX6_readCommand_60 (by decide) (fun _ => ?_) (fun q9 => absurd q9 (show bI true ≠ 0 by decide))
    refine z_iload_n CX 1 dX6_readCommand_65 rfl rfl ?_
    refine z_tabIn CX 134 dX6_readCommand_66 (by decide) (by decide) rfl (by decide) ?_
    refine z_aload_n CX 0 dX6_readCommand_134 rfl rfl ?_
    refine z_callV1 CX dX6_readCommand_135 cv_X6_194 hC mo_0 rfl rfl (Nat.le_of_ble_eq_true rfl) ⟨Nat.le_of_ble_eq_true rfl, Nat.le_of_ble_eq_true rfl⟩ ⟨Nat.le_refl _, Nat.le_refl _⟩ ?_
    exact z_iret CX dX6_readCommand_138 rfl rfl rfl (Or.inl rfl)
  by_cases h109 : hrF (A 6) len y = 109
  · have hS : (cmS (A 6) len (A 2) y x5) = ((pzM (A 6) len (y + 1)).1, exR (pzM (A 6) len (y + 1)).1.2 (pfM (A 2) (pzM (A 6) len (y + 1)).2.1) (A 2) x5) := by
      unfold cmS; rw [if_pos (Or.inr (Or.inr (Or.inr (Or.inl h109)))), h109, pz_109, pf_109]
    obtain ⟨v9, hC⟩ := c_rdM (l := l) (w := w) (hs := hs) (n := n) (k := k) (u := u) (A := A) (y := y + 1) (x5 := x5) hu hl (by omega) hO rfl rfl
    refine ⟨v9, ?_⟩
    rw [hS]
    refine Cn.of (d := mX6_readCommand) (by decide +kernel) (Nat.le_of_ble_eq_true rfl) ?_
    intro p e R s m args below meth c CX
    replace CX : Ctx p s m args meth c R w RX6 "readCommand" cX6_readCommand 2 (some .int) 8 182 0 0 := CX
    show ZW p l e R s m args below meth c w 2 _ _ 0 0 (MQ below (Qn w _ _ _) args s 0 0 (wA w)) 0 [(0, .ref (wB w + k))] []
    refine z_aload_n CX 0 dX6_readCommand_0 rfl rfl ?_
    refine z_callV1 CX dX6_readCommand_1 cv_X6_133 (c_here (y := y) (len := len) hu rfl (by omega) hl) mo_0 rfl rfl (Nat.le_of_ble_eq_true rfl) ⟨Nat.le_of_ble_eq_true rfl, Nat.le_of_ble_eq_true rfl⟩ ⟨Nat.le_refl _, Nat.le_refl _⟩ ?_
    rw [h109]
    refine z_istore_n CX 1 dX6_readCommand_4 rfl (by decide) ?_
    refine z_aload_n CX 0 dX6_readCommand_5 rfl rfl ?_
    refine z_iload_n CX 1 dX6_readCommand_6 rfl rfl ?_
    refine z_bipush CX (v := 103) dX6_readCommand_7 (by decide) ?_
    refine z_icmp_eq CX 48 dX6_readCommand_9 (by decide) (fun q9 => absurd q9 (by decide)) (fun _ => ?_)
    refine z_iload_n CX 1 dX6_readCommand_12 rfl rfl ?_
    refine z_bipush CX (v := 98) dX6_readCommand_13 (by decide) ?_
    refine z_icmp_eq CX 48 dX6_readCommand_15 (by decide) (fun q9 => absurd q9 (by decide)) (fun _ => ?_)
    refine z_iload_n CX 1 dX6_readCommand_18 rfl rfl ?_
    refine z_bipush CX (v := 108) dX6_readCommand_19 (by decide) ?_
    refine z_icmp_eq CX 48 dX6_readCommand_21 (by decide) (fun q9 => absurd q9 (by decide)) (fun _ => ?_)
    refine z_iload_n CX 1 dX6_readCommand_24 rfl rfl ?_
    refine z_bipush CX (v := 109) dX6_readCommand_25 (by decide) ?_
    refine z_icmp_eq CX 48 dX6_readCommand_27 (by decide) (fun _ => ?_) (fun q9 => absurd rfl q9)
    refine z_iconst CX (v := 1) dX6_readCommand_48 (by decide) ?_
    refine z_goto CX 53 dX6_readCommand_49 (by decide) ?_
    refine z_callV0 CX dX6_readCommand_53 cv_X6_137 (c_take (g := true) (ok := true)) mo_0 rfl rfl (Nat.le_of_ble_eq_true rfl) ⟨Nat.le_of_ble_eq_true rfl, Nat.le_of_ble_eq_true rfl⟩ ⟨Nat.le_refl _, Nat.le_refl _⟩ ?_
    refine z_heap (show _ = modH w hs k (sT5 u (y + 1) true x5) A from rfl) ?_
    refine z_aload_n CX 0 dX6_readCommand_56 rfl rfl ?_
    refine z_get CX dX6_readCommand_57 fg_X6_129 mo_0 rfl ?_
    refine z_if_ne CX 65 dX6_readCommand_60 (by decide) (fun _ => ?_) (fun q9 => absurd q9 (show bI true ≠ 0 by decide))
    refine z_iload_n CX 1 dX6_readCommand_65 rfl rfl ?_
    refine z_tabOut CX 149 dX6_readCommand_66 (by decide) (by decide) ?_
    refine z_aload_n CX 0 dX6_readCommand_149 rfl rfl ?_
    refine z_iload_n CX 1 dX6_readCommand_150 rfl rfl ?_
    refine z_callV1 CX dX6_readCommand_151 cv_X6_203 hC mo_0 rfl rfl (Nat.le_of_ble_eq_true rfl) ⟨Nat.le_of_ble_eq_true rfl, Nat.le_of_ble_eq_true rfl⟩ ⟨Nat.le_refl _, Nat.le_refl _⟩ ?_
    exact z_iret CX dX6_readCommand_154 rfl rfl rfl (Or.inl rfl)
  by_cases h104 : hrF (A 6) len y = 104
  · have hS : (cmS (A 6) len (A 2) y x5) = ((pzH (A 6) len (y + 1)).1, exR (pzH (A 6) len (y + 1)).1.2 (pfH (A 2) (pzH (A 6) len (y + 1)).2.1 (pzH (A 6) len (y + 1)).2.2.1 (pzH (A 6) len (y + 1)).2.2.2.1) (A 2) x5) := by
      unfold cmS; rw [if_pos (Or.inr (Or.inr (Or.inr (Or.inr (Or.inl h104))))), h104, pz_104, pf_104]
    obtain ⟨v9, hC⟩ := c_rdH (l := l) (w := w) (hs := hs) (n := n) (k := k) (u := u) (A := A) (y := y + 1) (x5 := x5) hu hl (by omega) hO rfl rfl rfl rfl rfl rfl
    refine ⟨v9, ?_⟩
    rw [hS]
    refine Cn.of (d := mX6_readCommand) (by decide +kernel) (Nat.le_of_ble_eq_true rfl) ?_
    intro p e R s m args below meth c CX
    replace CX : Ctx p s m args meth c R w RX6 "readCommand" cX6_readCommand 2 (some .int) 8 182 0 0 := CX
    show ZW p l e R s m args below meth c w 2 _ _ 0 0 (MQ below (Qn w _ _ _) args s 0 0 (wA w)) 0 [(0, .ref (wB w + k))] []
    refine z_aload_n CX 0 dX6_readCommand_0 rfl rfl ?_
    refine z_callV1 CX dX6_readCommand_1 cv_X6_133 (c_here (y := y) (len := len) hu rfl (by omega) hl) mo_0 rfl rfl (Nat.le_of_ble_eq_true rfl) ⟨Nat.le_of_ble_eq_true rfl, Nat.le_of_ble_eq_true rfl⟩ ⟨Nat.le_refl _, Nat.le_refl _⟩ ?_
    rw [h104]
    refine z_istore_n CX 1 dX6_readCommand_4 rfl (by decide) ?_
    refine z_aload_n CX 0 dX6_readCommand_5 rfl rfl ?_
    refine z_iload_n CX 1 dX6_readCommand_6 rfl rfl ?_
    refine z_bipush CX (v := 103) dX6_readCommand_7 (by decide) ?_
    refine z_icmp_eq CX 48 dX6_readCommand_9 (by decide) (fun q9 => absurd q9 (by decide)) (fun _ => ?_)
    refine z_iload_n CX 1 dX6_readCommand_12 rfl rfl ?_
    refine z_bipush CX (v := 98) dX6_readCommand_13 (by decide) ?_
    refine z_icmp_eq CX 48 dX6_readCommand_15 (by decide) (fun q9 => absurd q9 (by decide)) (fun _ => ?_)
    refine z_iload_n CX 1 dX6_readCommand_18 rfl rfl ?_
    refine z_bipush CX (v := 108) dX6_readCommand_19 (by decide) ?_
    refine z_icmp_eq CX 48 dX6_readCommand_21 (by decide) (fun q9 => absurd q9 (by decide)) (fun _ => ?_)
    refine z_iload_n CX 1 dX6_readCommand_24 rfl rfl ?_
    refine z_bipush CX (v := 109) dX6_readCommand_25 (by decide) ?_
    refine z_icmp_eq CX 48 dX6_readCommand_27 (by decide) (fun q9 => absurd q9 (by decide)) (fun _ => ?_)
    refine z_iload_n CX 1 dX6_readCommand_30 rfl rfl ?_
    refine z_bipush CX (v := 104) dX6_readCommand_31 (by decide) ?_
    refine z_icmp_eq CX 48 dX6_readCommand_33 (by decide) (fun _ => ?_) (fun q9 => absurd rfl q9)
    refine z_iconst CX (v := 1) dX6_readCommand_48 (by decide) ?_
    refine z_goto CX 53 dX6_readCommand_49 (by decide) ?_
    refine z_callV0 CX dX6_readCommand_53 cv_X6_137 (c_take (g := true) (ok := true)) mo_0 rfl rfl (Nat.le_of_ble_eq_true rfl) ⟨Nat.le_of_ble_eq_true rfl, Nat.le_of_ble_eq_true rfl⟩ ⟨Nat.le_refl _, Nat.le_refl _⟩ ?_
    refine z_heap (show _ = modH w hs k (sT5 u (y + 1) true x5) A from rfl) ?_
    refine z_aload_n CX 0 dX6_readCommand_56 rfl rfl ?_
    refine z_get CX dX6_readCommand_57 fg_X6_129 mo_0 rfl ?_
    refine z_if_ne CX 65 dX6_readCommand_60 (by decide) (fun _ => ?_) (fun q9 => absurd q9 (show bI true ≠ 0 by decide))
    refine z_iload_n CX 1 dX6_readCommand_65 rfl rfl ?_
    refine z_tabIn CX 139 dX6_readCommand_66 (by decide) (by decide) rfl (by decide) ?_
    refine z_aload_n CX 0 dX6_readCommand_139 rfl rfl ?_
    refine z_callV1 CX dX6_readCommand_140 cv_X6_197 hC mo_0 rfl rfl (Nat.le_of_ble_eq_true rfl) ⟨Nat.le_of_ble_eq_true rfl, Nat.le_of_ble_eq_true rfl⟩ ⟨Nat.le_refl _, Nat.le_refl _⟩ ?_
    exact z_iret CX dX6_readCommand_143 rfl rfl rfl (Or.inl rfl)
  by_cases h99 : hrF (A 6) len y = 99
  · have hS : (cmS (A 6) len (A 2) y x5) = ((pzC (A 6) len (y + 1)).1, exR (pzC (A 6) len (y + 1)).1.2 (pfC (A 2) (pzC (A 6) len (y + 1)).2.1 (pzC (A 6) len (y + 1)).2.2.1) (A 2) x5) := by
      unfold cmS; rw [if_pos (Or.inr (Or.inr (Or.inr (Or.inr (Or.inr (Or.inl h99)))))), h99, pz_99, pf_99]
    obtain ⟨v9, hC⟩ := c_rdC (l := l) (w := w) (hs := hs) (n := n) (k := k) (u := u) (A := A) (y := y + 1) (x5 := x5) hu hl (by omega) hO rfl rfl rfl rfl
    refine ⟨v9, ?_⟩
    rw [hS]
    refine Cn.of (d := mX6_readCommand) (by decide +kernel) (Nat.le_of_ble_eq_true rfl) ?_
    intro p e R s m args below meth c CX
    replace CX : Ctx p s m args meth c R w RX6 "readCommand" cX6_readCommand 2 (some .int) 8 182 0 0 := CX
    show ZW p l e R s m args below meth c w 2 _ _ 0 0 (MQ below (Qn w _ _ _) args s 0 0 (wA w)) 0 [(0, .ref (wB w + k))] []
    refine z_aload_n CX 0 dX6_readCommand_0 rfl rfl ?_
    refine z_callV1 CX dX6_readCommand_1 cv_X6_133 (c_here (y := y) (len := len) hu rfl (by omega) hl) mo_0 rfl rfl (Nat.le_of_ble_eq_true rfl) ⟨Nat.le_of_ble_eq_true rfl, Nat.le_of_ble_eq_true rfl⟩ ⟨Nat.le_refl _, Nat.le_refl _⟩ ?_
    rw [h99]
    refine z_istore_n CX 1 dX6_readCommand_4 rfl (by decide) ?_
    refine z_aload_n CX 0 dX6_readCommand_5 rfl rfl ?_
    refine z_iload_n CX 1 dX6_readCommand_6 rfl rfl ?_
    refine z_bipush CX (v := 103) dX6_readCommand_7 (by decide) ?_
    refine z_icmp_eq CX 48 dX6_readCommand_9 (by decide) (fun q9 => absurd q9 (by decide)) (fun _ => ?_)
    refine z_iload_n CX 1 dX6_readCommand_12 rfl rfl ?_
    refine z_bipush CX (v := 98) dX6_readCommand_13 (by decide) ?_
    refine z_icmp_eq CX 48 dX6_readCommand_15 (by decide) (fun q9 => absurd q9 (by decide)) (fun _ => ?_)
    refine z_iload_n CX 1 dX6_readCommand_18 rfl rfl ?_
    refine z_bipush CX (v := 108) dX6_readCommand_19 (by decide) ?_
    refine z_icmp_eq CX 48 dX6_readCommand_21 (by decide) (fun q9 => absurd q9 (by decide)) (fun _ => ?_)
    refine z_iload_n CX 1 dX6_readCommand_24 rfl rfl ?_
    refine z_bipush CX (v := 109) dX6_readCommand_25 (by decide) ?_
    refine z_icmp_eq CX 48 dX6_readCommand_27 (by decide) (fun q9 => absurd q9 (by decide)) (fun _ => ?_)
    refine z_iload_n CX 1 dX6_readCommand_30 rfl rfl ?_
    refine z_bipush CX (v := 104) dX6_readCommand_31 (by decide) ?_
    refine z_icmp_eq CX 48 dX6_readCommand_33 (by decide) (fun q9 => absurd q9 (by decide)) (fun _ => ?_)
    refine z_iload_n CX 1 dX6_readCommand_36 rfl rfl ?_
    refine z_bipush CX (v := 99) dX6_readCommand_37 (by decide) ?_
    refine z_icmp_eq CX 48 dX6_readCommand_39 (by decide) (fun _ => ?_) (fun q9 => absurd rfl q9)
    refine z_iconst CX (v := 1) dX6_readCommand_48 (by decide) ?_
    refine z_goto CX 53 dX6_readCommand_49 (by decide) ?_
    refine z_callV0 CX dX6_readCommand_53 cv_X6_137 (c_take (g := true) (ok := true)) mo_0 rfl rfl (Nat.le_of_ble_eq_true rfl) ⟨Nat.le_of_ble_eq_true rfl, Nat.le_of_ble_eq_true rfl⟩ ⟨Nat.le_refl _, Nat.le_refl _⟩ ?_
    refine z_heap (show _ = modH w hs k (sT5 u (y + 1) true x5) A from rfl) ?_
    refine z_aload_n CX 0 dX6_readCommand_56 rfl rfl ?_
    refine z_get CX dX6_readCommand_57 fg_X6_129 mo_0 rfl ?_
    refine z_if_ne CX 65 dX6_readCommand_60 (by decide) (fun _ => ?_) (fun q9 => absurd q9 (show bI true ≠ 0 by decide))
    refine z_iload_n CX 1 dX6_readCommand_65 rfl rfl ?_
    refine z_tabIn CX 144 dX6_readCommand_66 (by decide) (by decide) rfl (by decide) ?_
    refine z_aload_n CX 0 dX6_readCommand_144 rfl rfl ?_
    refine z_callV1 CX dX6_readCommand_145 cv_X6_200 hC mo_0 rfl rfl (Nat.le_of_ble_eq_true rfl) ⟨Nat.le_of_ble_eq_true rfl, Nat.le_of_ble_eq_true rfl⟩ ⟨Nat.le_refl _, Nat.le_refl _⟩ ?_
    exact z_iret CX dX6_readCommand_148 rfl rfl rfl (Or.inl rfl)
  by_cases h115 : hrF (A 6) len y = 115
  · have hS : (cmS (A 6) len (A 2) y x5) = ((pzS (A 6) len (y + 1)).1, exR (pzS (A 6) len (y + 1)).1.2 (pfS (A 2) (pzS (A 6) len (y + 1)).2.1 (pzS (A 6) len (y + 1)).2.2.1) (A 2) x5) := by
      unfold cmS; rw [if_pos (Or.inr (Or.inr (Or.inr (Or.inr (Or.inr (Or.inr (h115))))))), h115, pz_115, pf_115]
    obtain ⟨v9, hC⟩ := c_rdS (l := l) (w := w) (hs := hs) (n := n) (k := k) (u := u) (A := A) (y := y + 1) (x5 := x5) hu hl (by omega) hO (x := 115) (by decide) rfl rfl rfl rfl
    refine ⟨v9, ?_⟩
    rw [hS]
    refine Cn.of (d := mX6_readCommand) (by decide +kernel) (Nat.le_of_ble_eq_true rfl) ?_
    intro p e R s m args below meth c CX
    replace CX : Ctx p s m args meth c R w RX6 "readCommand" cX6_readCommand 2 (some .int) 8 182 0 0 := CX
    show ZW p l e R s m args below meth c w 2 _ _ 0 0 (MQ below (Qn w _ _ _) args s 0 0 (wA w)) 0 [(0, .ref (wB w + k))] []
    refine z_aload_n CX 0 dX6_readCommand_0 rfl rfl ?_
    refine z_callV1 CX dX6_readCommand_1 cv_X6_133 (c_here (y := y) (len := len) hu rfl (by omega) hl) mo_0 rfl rfl (Nat.le_of_ble_eq_true rfl) ⟨Nat.le_of_ble_eq_true rfl, Nat.le_of_ble_eq_true rfl⟩ ⟨Nat.le_refl _, Nat.le_refl _⟩ ?_
    rw [h115]
    refine z_istore_n CX 1 dX6_readCommand_4 rfl (by decide) ?_
    refine z_aload_n CX 0 dX6_readCommand_5 rfl rfl ?_
    refine z_iload_n CX 1 dX6_readCommand_6 rfl rfl ?_
    refine z_bipush CX (v := 103) dX6_readCommand_7 (by decide) ?_
    refine z_icmp_eq CX 48 dX6_readCommand_9 (by decide) (fun q9 => absurd q9 (by decide)) (fun _ => ?_)
    refine z_iload_n CX 1 dX6_readCommand_12 rfl rfl ?_
    refine z_bipush CX (v := 98) dX6_readCommand_13 (by decide) ?_
    refine z_icmp_eq CX 48 dX6_readCommand_15 (by decide) (fun q9 => absurd q9 (by decide)) (fun _ => ?_)
    refine z_iload_n CX 1 dX6_readCommand_18 rfl rfl ?_
    refine z_bipush CX (v := 108) dX6_readCommand_19 (by decide) ?_
    refine z_icmp_eq CX 48 dX6_readCommand_21 (by decide) (fun q9 => absurd q9 (by decide)) (fun _ => ?_)
    refine z_iload_n CX 1 dX6_readCommand_24 rfl rfl ?_
    refine z_bipush CX (v := 109) dX6_readCommand_25 (by decide) ?_
    refine z_icmp_eq CX 48 dX6_readCommand_27 (by decide) (fun q9 => absurd q9 (by decide)) (fun _ => ?_)
    refine z_iload_n CX 1 dX6_readCommand_30 rfl rfl ?_
    refine z_bipush CX (v := 104) dX6_readCommand_31 (by decide) ?_
    refine z_icmp_eq CX 48 dX6_readCommand_33 (by decide) (fun q9 => absurd q9 (by decide)) (fun _ => ?_)
    refine z_iload_n CX 1 dX6_readCommand_36 rfl rfl ?_
    refine z_bipush CX (v := 99) dX6_readCommand_37 (by decide) ?_
    refine z_icmp_eq CX 48 dX6_readCommand_39 (by decide) (fun q9 => absurd q9 (by decide)) (fun _ => ?_)
    refine z_iload_n CX 1 dX6_readCommand_42 rfl rfl ?_
    refine z_bipush CX (v := 115) dX6_readCommand_43 (by decide) ?_
    refine z_icmp_ne CX 52 dX6_readCommand_45 (by decide) (fun q9 => absurd q9 (fun z => z rfl)) (fun _ => ?_)
    refine z_iconst CX (v := 1) dX6_readCommand_48 (by decide) ?_
    refine z_goto CX 53 dX6_readCommand_49 (by decide) ?_
    refine z_callV0 CX dX6_readCommand_53 cv_X6_137 (c_take (g := true) (ok := true)) mo_0 rfl rfl (Nat.le_of_ble_eq_true rfl) ⟨Nat.le_of_ble_eq_true rfl, Nat.le_of_ble_eq_true rfl⟩ ⟨Nat.le_refl _, Nat.le_refl _⟩ ?_
    refine z_heap (show _ = modH w hs k (sT5 u (y + 1) true x5) A from rfl) ?_
    refine z_aload_n CX 0 dX6_readCommand_56 rfl rfl ?_
    refine z_get CX dX6_readCommand_57 fg_X6_129 mo_0 rfl ?_
    refine z_if_ne CX 65 dX6_readCommand_60 (by decide) (fun _ => ?_) (fun q9 => absurd q9 (show bI true ≠ 0 by decide))
    refine z_iload_n CX 1 dX6_readCommand_65 rfl rfl ?_
    refine z_tabOut CX 149 dX6_readCommand_66 (by decide) (by decide) ?_
    refine z_aload_n CX 0 dX6_readCommand_149 rfl rfl ?_
    refine z_iload_n CX 1 dX6_readCommand_150 rfl rfl ?_
    refine z_callV1 CX dX6_readCommand_151 cv_X6_203 hC mo_0 rfl rfl (Nat.le_of_ble_eq_true rfl) ⟨Nat.le_of_ble_eq_true rfl, Nat.le_of_ble_eq_true rfl⟩ ⟨Nat.le_refl _, Nat.le_refl _⟩ ?_
    exact z_iret CX dX6_readCommand_154 rfl rfl rfl (Or.inl rfl)
  have hn : ¬ isLet (hrF (A 6) len y) := by rintro (q | q | q | q | q | q | q); exact h103 q; exact h98 q; exact h108 q; exact h109 q; exact h104 q; exact h99 q; exact h115 q
  have hS : (cmS (A 6) len (A 2) y x5) = ((y, false), (A 2, x5)) := by unfold cmS; rw [if_neg hn]
  refine ⟨0, ?_⟩
  rw [hS]
  refine Cn.of (d := mX6_readCommand) (by decide +kernel) (Nat.le_of_ble_eq_true rfl) ?_
  intro p e R s m args below meth c CX
  replace CX : Ctx p s m args meth c R w RX6 "readCommand" cX6_readCommand 2 (some .int) 8 182 0 0 := CX
  show ZW p l e R s m args below meth c w 2 _ _ 0 0 (MQ below (Qn w _ _ _) args s 0 0 (wA w)) 0 [(0, .ref (wB w + k))] []
  refine z_aload_n CX 0 dX6_readCommand_0 rfl rfl ?_
  refine z_callV1 CX dX6_readCommand_1 cv_X6_133 (c_here (y := y) (len := len) hu rfl (by omega) hl) mo_0 rfl rfl (Nat.le_of_ble_eq_true rfl) ⟨Nat.le_of_ble_eq_true rfl, Nat.le_of_ble_eq_true rfl⟩ ⟨Nat.le_refl _, Nat.le_refl _⟩ ?_
  refine z_istore_n CX 1 dX6_readCommand_4 rfl (by decide) ?_
  refine z_aload_n CX 0 dX6_readCommand_5 rfl rfl ?_
  refine z_iload_n CX 1 dX6_readCommand_6 rfl rfl ?_
  refine z_bipush CX (v := 103) dX6_readCommand_7 (by decide) ?_
  refine z_icmp_eq CX 48 dX6_readCommand_9 (by decide) (fun q9 => absurd q9 h103) (fun _ => ?_)
  refine z_iload_n CX 1 dX6_readCommand_12 rfl rfl ?_
  refine z_bipush CX (v := 98) dX6_readCommand_13 (by decide) ?_
  refine z_icmp_eq CX 48 dX6_readCommand_15 (by decide) (fun q9 => absurd q9 h98) (fun _ => ?_)
  refine z_iload_n CX 1 dX6_readCommand_18 rfl rfl ?_
  refine z_bipush CX (v := 108) dX6_readCommand_19 (by decide) ?_
  refine z_icmp_eq CX 48 dX6_readCommand_21 (by decide) (fun q9 => absurd q9 h108) (fun _ => ?_)
  refine z_iload_n CX 1 dX6_readCommand_24 rfl rfl ?_
  refine z_bipush CX (v := 109) dX6_readCommand_25 (by decide) ?_
  refine z_icmp_eq CX 48 dX6_readCommand_27 (by decide) (fun q9 => absurd q9 h109) (fun _ => ?_)
  refine z_iload_n CX 1 dX6_readCommand_30 rfl rfl ?_
  refine z_bipush CX (v := 104) dX6_readCommand_31 (by decide) ?_
  refine z_icmp_eq CX 48 dX6_readCommand_33 (by decide) (fun q9 => absurd q9 h104) (fun _ => ?_)
  refine z_iload_n CX 1 dX6_readCommand_36 rfl rfl ?_
  refine z_bipush CX (v := 99) dX6_readCommand_37 (by decide) ?_
  refine z_icmp_eq CX 48 dX6_readCommand_39 (by decide) (fun q9 => absurd q9 h99) (fun _ => ?_)
  refine z_iload_n CX 1 dX6_readCommand_42 rfl rfl ?_
  refine z_bipush CX (v := 115) dX6_readCommand_43 (by decide) ?_
  refine z_icmp_ne CX 52 dX6_readCommand_45 (by decide) (fun _ => ?_) (fun q9 => absurd q9 h115)
  refine z_iconst CX (v := 0) dX6_readCommand_52 (by decide) ?_
  refine z_callV0 CX dX6_readCommand_53 cv_X6_137 (c_take (g := true) (ok := false)) mo_0 rfl rfl (Nat.le_of_ble_eq_true rfl) ⟨Nat.le_of_ble_eq_true rfl, Nat.le_of_ble_eq_true rfl⟩ ⟨Nat.le_refl _, Nat.le_refl _⟩ ?_
  refine z_heap (show _ = modH w hs k (sT5 u y false x5) A from rfl) ?_
  refine z_aload_n CX 0 dX6_readCommand_56 rfl rfl ?_
  refine z_get CX dX6_readCommand_57 fg_X6_129 mo_0 rfl ?_
  refine z_if_ne CX 65 dX6_readCommand_60 (by decide) (fun q9 => absurd q9 (fun z => z rfl)) (fun _ => ?_)
  refine z_iconst CX (v := 0) dX6_readCommand_63 (by decide) ?_
  exact z_iret CX dX6_readCommand_64 rfl rfl (by show _ = modH w hs k _ (upA A 2 (A 2)); rw [upA_id]) (Or.inl rfl)
theorem frO_n {f : Nat → Int32} {j : Nat} : ∀ i, (∀ o, o < i → j ≠ 134 + 3 * o + 1 ∧ j ≠ 134 + 3 * o + 2) → frO f i j = f j
  | 0, _ => rfl
  | i + 1, h => by
    show upd (upd _ _ _) _ _ j = _
    rw [pk_un (h i (by omega)).2, pk_un (h i (by omega)).1]
    exact frO_n i (fun o ho => h o (by omega))
theorem frO_s {f : Nat → Int32} {o : Nat} : ∀ i, o < i → frO f i (134 + 3 * o + 1) = -1 ∧ frO f i (134 + 3 * o + 2) = -1
  | 0, h => absurd h (Nat.not_lt_zero o)
  | i + 1, h => by
    show upd (upd _ _ _) _ _ _ = _ ∧ upd (upd _ _ _) _ _ _ = _
    by_cases e : o = i
    · subst e
      exact ⟨by rw [pk_un (by omega), pk_us], pk_us⟩
    · rw [pk_un (by omega), pk_un (by omega), pk_un (by omega), pk_un (by omega)]
      exact frO_s i (by omega)
theorem frF_0 {f : Nat → Int32} {j : Nat} (h : j < 157) (h1 : ∀ o, o < 4 → j ≠ 134 + 3 * o + 1 ∧ j ≠ 134 + 3 * o + 2) (h2 : j ≠ 155) (h3 : j ≠ 156) : frF f j = 0 := by
  unfold frF
  rw [pk_un h3, pk_un h2, frO_n 4 h1]
  exact if_pos h
theorem frF_h {f : Nat → Int32} {o : Nat} (h : o < 4) : frF f (134 + 3 * o + 1) = -1 ∧ frF f (134 + 3 * o + 2) = -1 := by
  unfold frF
  rw [pk_un (by omega), pk_un (by omega), pk_un (by omega), pk_un (by omega)]
  exact frO_s 4 h
theorem frF_155 {f : Nat → Int32} : frF f 155 = 3 := by unfold frF; rw [pk_un (by omega), pk_us]
theorem frF_156 {f : Nat → Int32} : frF f 156 = 2 := by unfold frF; rw [pk_us]
theorem OKr_fr {f : Nat → Int32} : OKr (frF f) := by
  have z : ∀ j, j < 157 → (∀ o, o < 4 → j ≠ 134 + 3 * o + 1 ∧ j ≠ 134 + 3 * o + 2) → j ≠ 155 → j ≠ 156 → frF f j = 0 := fun j => frF_0
  refine OKr.of (ng := 0) (nb := 0) ⟨⟨z 146 (by omega) (fun o ho => by omega) (by omega) (by omega), by omega, fun h => absurd h (by omega), fun g hg => absurd hg (by omega)⟩, z 147 (by omega) (fun o ho => by omega) (by omega) (by omega), by omega, fun b hb => absurd hb (by omega), ⟨0, 3, 2, by omega, by omega, by omega, by omega, z 154 (by omega) (fun o ho => by omega) (by omega) (by omega), frF_155, frF_156⟩, fun o ho => Or.inl (frF_h ho), ⟨z 153 (by omega) (fun o ho => by omega) (by omega) (by omega), fun b hb => absurd hb (by omega), fun b b' hb => absurd hb (by omega)⟩, z 151 (by omega) (fun o ho => by omega) (by omega) (by omega)⟩ (Or.inr ⟨z 150 (by omega) (fun o ho => by omega) (by omega) (by omega), rfl, rfl⟩) (by omega)
theorem sT_of {s : Nat → Int32} {p : Nat} {g : Bool} {lo : Int32} : upd (upd (upd s 3 (nI p)) 4 (bI g)) 5 lo = sT5 s p g lo := by
  funext i; unfold upd sT5
  split
  · subst_vars; rfl
  · split
    · subst_vars; rfl
    · split
      · subst_vars; rfl
      · split <;> first | rfl | (exfalso; omega)
def tsF (t : Nat → Int32) (len : Nat) (f : Nat → Int32) : TS := rdA t len 121 (if hrF t len 0 = 84 then ((1, true), (frF f, 0)) else ((0, false), (frF f, 0)))
theorem rdA_ok {t : Nat → Int32} {len : Nat} : ∀ (j : Nat) (S : TS), OKr S.2.1 → OKr (rdA t len j S).2.1
  | 0, _, h => h
  | j + 1, S, h => by
    rw [rdA]; split
    · exact rdA_ok j _ (cmS_ok h)
    · exact h
theorem tsF_ok {t : Nat → Int32} {len : Nat} {f : Nat → Int32} : OKr (tsF t len f).2.1 := by
  unfold tsF
  refine rdA_ok 121 _ ?_
  split <;> exact OKr_fr
theorem hrF_le {t : Nat → Int32} {len y : Nat} {c : Int32} (h : hrF t len y = c) (hc : c ≠ -1) : y + 1 ≤ len := by
  unfold hrF at h
  by_cases q : y < len
  · omega
  · rw [if_neg q] at h; exact absurd h.symm hc
set_option maxHeartbeats 4000000 in
set_option maxRecDepth 100000 in
theorem c_rdAll {l : Launch} {w : Wt} {hs : Hs} {n : Option Nat} {k : Nat} {u : Nat → Int32} {A : Nat → Nat → Int32} {len : Nat} (hu : u 2 = nI len) (hl : len ≤ 120) {F : TS} (hF0 : tsF (A 6) len (A 2) = F) : Cn l w mX6_readAll 0 0 [.ref (wB w + k)] (modH w hs k u A) n (modH w hs k (sT5 u F.1.1 F.1.2 F.2.2) (upA A 2 F.2.1)) n (some (.int (if F.1.2 = true then -1 else nI F.1.1))) := by
  refine Cn.of (d := mX6_readAll) (by decide +kernel) (Nat.le_of_ble_eq_true rfl) ?_
  intro p e R s m args below meth c CX
  replace CX : Ctx p s m args meth c R w RX6 "readAll" cX6_readAll 2 (some .int) 9 203 0 0 := CX
  show ZW p l e R s m args below meth c w 2 _ _ 0 0 (MQ below (Qn w _ _ _) args s 0 0 (wA w)) 0 [(0, .ref (wB w + k))] []
  have TL : ZW p l e R s m args below meth c w 2 (modH w hs k (sT5 u F.1.1 F.1.2 F.2.2) (upA A 2 F.2.1)) n 0 0 (MQ below (Qn w (modH w hs k (sT5 u F.1.1 F.1.2 F.2.2) (upA A 2 F.2.1)) n (some (.int (if F.1.2 = true then -1 else nI F.1.1)))) args s 0 0 (wA w)) 66 [(0, .ref (wB w + k))] [] := by
    refine z_aload_n CX 0 dX6_readAll_66 rfl rfl ?_
    refine z_get CX dX6_readAll_67 fg_X6_129 mo_0 rfl ?_
    refine z_if_eq CX 77 dX6_readAll_70 (by decide) (fun c_70 => ?_) (fun c_70 => ?_)
    · skip
      refine z_aload_n CX 0 dX6_readAll_77 rfl rfl ?_
      refine z_get CX dX6_readAll_78 fg_X6_126 mo_0 rfl ?_
      exact z_iret CX dX6_readAll_81 rfl (congrArg Value.int (by rw [if_neg (fun z => by have c : bI F.1.2 = 0 := c_70; rw [z] at c; exact absurd c (by decide))]; rfl)) rfl (Or.inl rfl)
    · skip
      refine z_iconst CX (v := (-1 : Int32)) dX6_readAll_73 (by decide) ?_
      refine z_goto CX 81 dX6_readAll_74 (by decide) ?_
      exact z_iret CX dX6_readAll_81 rfl (congrArg Value.int (by rw [if_pos (bI_t (b := F.1.2) c_70)])) rfl (Or.inl rfl)
  have LP : ∀ (j : Nat) (S : TS), (S.1.2 = true → S.1.1 ≤ len ∧ len - S.1.1 ≤ j) → OKr S.2.1 → rdA (A 6) len j S = F → ZW p l e R s m args below meth c w 2 (modH w hs k (sT5 u S.1.1 S.1.2 S.2.2) (upA A 2 S.2.1)) n 0 0 (MQ below (Qn w (modH w hs k (sT5 u F.1.1 F.1.2 F.2.2) (upA A 2 F.2.1)) n (some (.int (if F.1.2 = true then -1 else nI F.1.1)))) args s 0 0 (wA w)) 40 [(0, .ref (wB w + k))] [] := by
    intro j
    induction j with
    | zero =>
      intro S hS hO hF
      by_cases hg : S.1.2 = true
      · have hb := hS hg
        refine z_aload_n CX 0 dX6_readAll_40 rfl rfl ?_
        refine z_get CX dX6_readAll_41 fg_X6_129 mo_0 rfl ?_
        refine z_if_eq CX 66 dX6_readAll_44 (by decide) (fun q9 => absurd q9 (by rw [show sT5 u S.1.1 S.1.2 S.2.2 4 = bI S.1.2 from rfl, hg]; decide)) (fun _ => ?_)
        refine z_aload_n CX 0 dX6_readAll_47 rfl rfl ?_
        refine z_get CX dX6_readAll_48 fg_X6_126 mo_0 rfl ?_
        refine z_aload_n CX 0 dX6_readAll_51 rfl rfl ?_
        refine z_get CX dX6_readAll_52 fg_X6_119 mo_0 rfl ?_
        rw [show sT5 u S.1.1 S.1.2 S.2.2 2 = nI len from hu]
        refine z_icmp_ge CX 66 dX6_readAll_55 (by decide) (fun _ => ?_) (fun q9 => absurd (nI_le (by omega) (by omega)) q9)
        have e : S = F := hF
        rw [e]
        exact TL
      · skip
        refine z_aload_n CX 0 dX6_readAll_40 rfl rfl ?_
        refine z_get CX dX6_readAll_41 fg_X6_129 mo_0 rfl ?_
        refine z_if_eq CX 66 dX6_readAll_44 (by decide) (fun _ => ?_) (fun q9 => absurd (by rw [show sT5 u S.1.1 S.1.2 S.2.2 4 = bI S.1.2 from rfl, Bool.eq_false_iff.mpr hg]; rfl) q9)
        have e : S = F := hF
        rw [e]
        exact TL
    | succ j ih =>
      intro S hS hO hF
      by_cases hg : S.1.2 = true
      · have hb := hS hg
        by_cases hlt : S.1.1 < len
        · skip
          refine z_aload_n CX 0 dX6_readAll_40 rfl rfl ?_
          refine z_get CX dX6_readAll_41 fg_X6_129 mo_0 rfl ?_
          refine z_if_eq CX 66 dX6_readAll_44 (by decide) (fun q9 => absurd q9 (by rw [show sT5 u S.1.1 S.1.2 S.2.2 4 = bI S.1.2 from rfl, hg]; decide)) (fun _ => ?_)
          refine z_aload_n CX 0 dX6_readAll_47 rfl rfl ?_
          refine z_get CX dX6_readAll_48 fg_X6_126 mo_0 rfl ?_
          refine z_aload_n CX 0 dX6_readAll_51 rfl rfl ?_
          refine z_get CX dX6_readAll_52 fg_X6_119 mo_0 rfl ?_
          rw [show sT5 u S.1.1 S.1.2 S.2.2 2 = nI len from hu]
          refine z_icmp_ge CX 66 dX6_readAll_55 (by decide) (fun q9 => absurd q9 (nI_ge hlt (by omega))) (fun _ => ?_)
          obtain ⟨v9, hC⟩ := c_rdCm (l := l) (w := w) (hs := hs) (n := n) (k := k) (u := u) (A := upA A 2 S.2.1) (y := S.1.1) (x5 := S.2.2) (len := len) hu hl (by omega) hO
          simp only [upA_s, upA_up, upA_n (show (6 : Nat) ≠ 2 by decide)] at hC
          rw [hg]
          refine z_aload_n CX 0 dX6_readAll_58 rfl rfl ?_
          refine z_callV1 CX dX6_readAll_59 cv_X6_206 hC mo_0 rfl rfl (Nat.le_of_ble_eq_true rfl) ⟨Nat.le_of_ble_eq_true rfl, Nat.le_of_ble_eq_true rfl⟩ ⟨Nat.le_refl _, Nat.le_refl _⟩ ?_
          refine z_istore_n CX 1 dX6_readAll_62 rfl (by decide) ?_
          refine z_goto CX 40 dX6_readAll_63 (by decide) ?_
          refine z_loc [(0, .ref (wB w + k))] ⟨rfl, trivial⟩ ?_
          exact ih _ (fun q => ⟨(cmS_t q).2, by have := (cmS_t q).1; omega⟩) (cmS_ok hO) (by rw [← hF, rdA, if_pos ⟨hg, hlt⟩])
        · skip
          refine z_aload_n CX 0 dX6_readAll_40 rfl rfl ?_
          refine z_get CX dX6_readAll_41 fg_X6_129 mo_0 rfl ?_
          refine z_if_eq CX 66 dX6_readAll_44 (by decide) (fun q9 => absurd q9 (by rw [show sT5 u S.1.1 S.1.2 S.2.2 4 = bI S.1.2 from rfl, hg]; decide)) (fun _ => ?_)
          refine z_aload_n CX 0 dX6_readAll_47 rfl rfl ?_
          refine z_get CX dX6_readAll_48 fg_X6_126 mo_0 rfl ?_
          refine z_aload_n CX 0 dX6_readAll_51 rfl rfl ?_
          refine z_get CX dX6_readAll_52 fg_X6_119 mo_0 rfl ?_
          rw [show sT5 u S.1.1 S.1.2 S.2.2 2 = nI len from hu]
          refine z_icmp_ge CX 66 dX6_readAll_55 (by decide) (fun _ => ?_) (fun q9 => absurd (nI_le (by omega) (by omega)) q9)
          have e : S = F := by rw [← hF, rdA, if_neg (fun z => hlt z.2)]
          rw [e]
          exact TL
      · skip
        refine z_aload_n CX 0 dX6_readAll_40 rfl rfl ?_
        refine z_get CX dX6_readAll_41 fg_X6_129 mo_0 rfl ?_
        refine z_if_eq CX 66 dX6_readAll_44 (by decide) (fun _ => ?_) (fun q9 => absurd (by rw [show sT5 u S.1.1 S.1.2 S.2.2 4 = bI S.1.2 from rfl, Bool.eq_false_iff.mpr hg]; rfl) q9)
        have e : S = F := by rw [← hF, rdA, if_neg (fun z => hg z.1)]
        rw [e]
        exact TL
  by_cases hT : hrF (A 6) len 0 = 84
  · skip
    refine z_aload_n CX 0 dX6_readAll_0 rfl rfl ?_
    refine z_iconst CX (v := 0) dX6_readAll_1 (by decide) ?_
    refine z_put CX dX6_readAll_2 fg_X6_126 fp_X6_10 mo_0 (Nat.le_of_ble_eq_true rfl) rfl rfl ?_
    refine z_heap mo_f3 ?_
    refine z_aload_n CX 0 dX6_readAll_5 rfl rfl ?_
    refine z_iconst CX (v := 1) dX6_readAll_6 (by decide) ?_
    refine z_put CX dX6_readAll_7 fg_X6_129 fp_X6_11 mo_0 (Nat.le_of_ble_eq_true rfl) rfl rfl ?_
    refine z_heap mo_f4 ?_
    refine z_aload_n CX 0 dX6_readAll_10 rfl rfl ?_
    refine z_iconst CX (v := 0) dX6_readAll_11 (by decide) ?_
    refine z_put CX dX6_readAll_12 fg_X6_145 fp_X6_12 mo_0 (Nat.le_of_ble_eq_true rfl) rfl rfl ?_
    refine z_heap mo_f5 ?_
    refine z_aload_n CX 0 dX6_readAll_15 rfl rfl ?_
    refine z_get CX dX6_readAll_16 fg_X6_16 mo_0 rfl ?_
    refine z_callS0 CX dX6_readAll_19 cs_X6_32 (Cn.row mq_2 mr_2 (a := k + 3) c_fresh) rfl rfl (Nat.le_of_ble_eq_true rfl) ⟨Nat.le_of_ble_eq_true rfl, Nat.le_of_ble_eq_true rfl⟩ ⟨Nat.le_refl _, Nat.le_refl _⟩ ?_
    refine z_heap (congrArg (fun z => modH w hs k z (upA A 2 (frF (A 2)))) (sT_of (p := 0) (g := true) (lo := 0))) ?_
    refine z_aload_n CX 0 dX6_readAll_22 rfl rfl ?_
    refine z_aload_n CX 0 dX6_readAll_23 rfl rfl ?_
    refine z_callV1 CX dX6_readAll_24 cv_X6_133 (c_here (y := 0) (len := len) hu rfl (by omega) hl) mo_0 rfl rfl (Nat.le_of_ble_eq_true rfl) ⟨Nat.le_of_ble_eq_true rfl, Nat.le_of_ble_eq_true rfl⟩ ⟨Nat.le_refl _, Nat.le_refl _⟩ ?_
    rw [show hrF (upA A 2 (frF (A 2)) 6) len 0 = hrF (A 6) len 0 from rfl]
    refine z_bipush CX (v := 84) dX6_readAll_27 (by decide) ?_
    refine z_icmp_ne CX 36 dX6_readAll_29 (by decide) (fun q9 => absurd q9 (fun z => z hT)) (fun _ => ?_)
    refine z_iconst CX (v := 1) dX6_readAll_32 (by decide) ?_
    refine z_goto CX 37 dX6_readAll_33 (by decide) ?_
    refine z_callV0 CX dX6_readAll_37 cv_X6_137 (c_take (g := true) (ok := true)) mo_0 rfl rfl (Nat.le_of_ble_eq_true rfl) ⟨Nat.le_of_ble_eq_true rfl, Nat.le_of_ble_eq_true rfl⟩ ⟨Nat.le_refl _, Nat.le_refl _⟩ ?_
    exact LP 121 ((1, true), (frF (A 2), 0)) (fun _ => ⟨hrF_le hT (by decide), by show len - 1 ≤ 121; omega⟩) OKr_fr (by rw [← hF0]; unfold tsF; rw [if_pos hT])
  · skip
    refine z_aload_n CX 0 dX6_readAll_0 rfl rfl ?_
    refine z_iconst CX (v := 0) dX6_readAll_1 (by decide) ?_
    refine z_put CX dX6_readAll_2 fg_X6_126 fp_X6_10 mo_0 (Nat.le_of_ble_eq_true rfl) rfl rfl ?_
    refine z_heap mo_f3 ?_
    refine z_aload_n CX 0 dX6_readAll_5 rfl rfl ?_
    refine z_iconst CX (v := 1) dX6_readAll_6 (by decide) ?_
    refine z_put CX dX6_readAll_7 fg_X6_129 fp_X6_11 mo_0 (Nat.le_of_ble_eq_true rfl) rfl rfl ?_
    refine z_heap mo_f4 ?_
    refine z_aload_n CX 0 dX6_readAll_10 rfl rfl ?_
    refine z_iconst CX (v := 0) dX6_readAll_11 (by decide) ?_
    refine z_put CX dX6_readAll_12 fg_X6_145 fp_X6_12 mo_0 (Nat.le_of_ble_eq_true rfl) rfl rfl ?_
    refine z_heap mo_f5 ?_
    refine z_aload_n CX 0 dX6_readAll_15 rfl rfl ?_
    refine z_get CX dX6_readAll_16 fg_X6_16 mo_0 rfl ?_
    refine z_callS0 CX dX6_readAll_19 cs_X6_32 (Cn.row mq_2 mr_2 (a := k + 3) c_fresh) rfl rfl (Nat.le_of_ble_eq_true rfl) ⟨Nat.le_of_ble_eq_true rfl, Nat.le_of_ble_eq_true rfl⟩ ⟨Nat.le_refl _, Nat.le_refl _⟩ ?_
    refine z_heap (congrArg (fun z => modH w hs k z (upA A 2 (frF (A 2)))) (sT_of (p := 0) (g := true) (lo := 0))) ?_
    refine z_aload_n CX 0 dX6_readAll_22 rfl rfl ?_
    refine z_aload_n CX 0 dX6_readAll_23 rfl rfl ?_
    refine z_callV1 CX dX6_readAll_24 cv_X6_133 (c_here (y := 0) (len := len) hu rfl (by omega) hl) mo_0 rfl rfl (Nat.le_of_ble_eq_true rfl) ⟨Nat.le_of_ble_eq_true rfl, Nat.le_of_ble_eq_true rfl⟩ ⟨Nat.le_refl _, Nat.le_refl _⟩ ?_
    rw [show hrF (upA A 2 (frF (A 2)) 6) len 0 = hrF (A 6) len 0 from rfl]
    refine z_bipush CX (v := 84) dX6_readAll_27 (by decide) ?_
    refine z_icmp_ne CX 36 dX6_readAll_29 (by decide) (fun _ => ?_) (fun q9 => absurd q9 hT)
    refine z_iconst CX (v := 0) dX6_readAll_36 (by decide) ?_
    refine z_callV0 CX dX6_readAll_37 cv_X6_137 (c_take (g := true) (ok := false)) mo_0 rfl rfl (Nat.le_of_ble_eq_true rfl) ⟨Nat.le_of_ble_eq_true rfl, Nat.le_of_ble_eq_true rfl⟩ ⟨Nat.le_refl _, Nat.le_refl _⟩ ?_
    exact LP 121 ((0, false), (frF (A 2), 0)) (fun q => by cases q) OKr_fr (by rw [← hF0]; unfold tsF; rw [if_neg hT])
