/-! a random call: of two objects with one state it answers alike and leaves one state -/
section
variable {l : Launch} {w : Wt} {M : Nat} {σ : ZS}
theorem u_gutter {a b c e : Int32} (hσ : OKs M σ) (hl9 : l.stackTraces = false) : ∃ (v : Int64) (σ9 : ZS), OKs (M + 60) σ9 ∧ ∀ (hs0 : Hs) (k : Nat) (H : Hs), IS w hs0 k σ H → ∃ H9, IS w hs0 k σ9 H9 ∧ Cw l w mL_gutter [(0, 10, 11, 34), (0, 10, 17, 15), (0, 10, 23, 19)] 1 6 [.ref (wB w + k), .int a, .int b, .int c, .int e] H none H9 none (some (.long v)) := by
  by_cases h : fltG (zsF σ) a b c e = 0
  · exact ⟨_, _, hσ.act (Nat.le_add_right M 60) ((adg_K hσ.2.1 h).mono (by omega)), fun hs0 k H hI => s_gutter hI hσ h⟩
  by_cases h1 : fltG (zsF σ) a b c e = nI 1
  · exact ⟨_, σ, hσ.mono (by omega), fun hs0 k H hI => ⟨H, hI, e_gutter1 hI hσ h1 hl9⟩⟩
  by_cases h2 : fltG (zsF σ) a b c e = nI 2
  · exact ⟨_, σ, hσ.mono (by omega), fun hs0 k H hI => ⟨H, hI, e_gutter2 hI hσ h2 hl9⟩⟩
  have h3 : fltG (zsF σ) a b c e = nI 3 := by
    unfold fltG at h h1 h2 ⊢
    split at h <;> rename_i q
    · rw [if_pos q] at h1 h2 ⊢
      split at h <;> rename_i q2
      · rw [if_pos q2] at h1 h2 ⊢
        split at h <;> rename_i q3
        · exact absurd rfl h
        · rw [if_neg q3]; rfl
      · rw [if_neg q2] at h2; exact absurd rfl h2
    · rw [if_neg q] at h1; exact absurd rfl h1
  exact ⟨_, σ, hσ.mono (by omega), fun hs0 k H hI => ⟨H, hI, e_gutter3 hI hσ h3 hl9⟩⟩
theorem u_boat {a b c : Int32} (hσ : OKs M σ) (hl9 : l.stackTraces = false) : ∃ (v : Int64) (σ9 : ZS), OKs (M + 60) σ9 ∧ ∀ (hs0 : Hs) (k : Nat) (H : Hs), IS w hs0 k σ H → ∃ H9, IS w hs0 k σ9 H9 ∧ Cw l w mL_boat [(0, 8, 9, 34), (0, 8, 15, 15), (0, 8, 21, 19)] 1 6 [.ref (wB w + k), .int a, .int b, .int c] H none H9 none (some (.long v)) := by
  by_cases h : fltB (zsF σ) a b c = 0
  · exact ⟨_, _, hσ.act (Nat.le_add_right M 60) ((adb_K hσ.2.1 h).1.mono (by omega)), fun hs0 k H hI => s_boat hI hσ h⟩
  by_cases h1 : fltB (zsF σ) a b c = nI 1
  · exact ⟨_, σ, hσ.mono (by omega), fun hs0 k H hI => ⟨H, hI, e_boat1 hI hσ h1 hl9⟩⟩
  by_cases h2 : fltB (zsF σ) a b c = nI 2
  · exact ⟨_, σ, hσ.mono (by omega), fun hs0 k H hI => ⟨H, hI, e_boat2 hI hσ h2 hl9⟩⟩
  have h3 : fltB (zsF σ) a b c = nI 3 := by
    unfold fltB at h h1 h2 ⊢
    split at h <;> rename_i q
    · rw [if_pos q] at h1 h2 ⊢
      split at h <;> rename_i q2
      · rw [if_pos q2] at h1 h2 ⊢
        split at h <;> rename_i q3
        · exact absurd rfl h
        · rw [if_neg q3]; rfl
      · rw [if_neg q2] at h2; exact absurd rfl h2
    · rw [if_neg q] at h1; exact absurd rfl h1
  exact ⟨_, σ, hσ.mono (by omega), fun hs0 k H hI => ⟨H, hI, e_boat3 hI hσ h3 hl9⟩⟩
theorem u_launch {a b : Int32} (hσ : OKs M σ) (hl9 : l.stackTraces = false) : ∃ (v : Int64) (σ9 : ZS), OKs (M + 60) σ9 ∧ ∀ (hs0 : Hs) (k : Nat) (H : Hs), IS w hs0 k σ H → ∃ H9, IS w hs0 k σ9 H9 ∧ Cw l w mL_launch [(0, 7, 8, 34), (0, 7, 13, 19)] 1 6 [.ref (wB w + k), .int a, .int b] H none H9 none (some (.long v)) := by
  by_cases h1 : (0 ≤ a ∧ a < nI (bN (zsF σ))) ∧ (0 ≤ b ∧ b < nI (gN (zsF σ)))
  · obtain ⟨j, j1, j2, j3⟩ := nI_box (by have := hσ.2.1.1.2.2; omega) h1.1
    obtain ⟨i, i1, i2, i3⟩ := nI_box (by have := hσ.2.1.1.1.1.2.1; omega) h1.2
    by_cases hs : zsF σ (24 + 10 * j + 3) = 0
    · subst j2; subst i2
      exact ⟨_, _, hσ.act (Nat.le_add_right M 60) (ln_K hσ.2.1 j1 i1 hs).1, fun hs0 k H hI => s_launch hI hσ j1 i1 hs⟩
    · have h3 : fltL (zsF σ) a b = nI 3 := by unfold fltL; rw [if_pos h1, j3, if_neg hs]; rfl
      exact ⟨_, σ, hσ.mono (by omega), fun hs0 k H hI => ⟨H, hI, e_launch3 hI hσ h3 hl9⟩⟩
  · have h3 : fltL (zsF σ) a b = nI 1 := by unfold fltL; rw [if_neg h1]; rfl
    exact ⟨_, σ, hσ.mono (by omega), fun hs0 k H hI => ⟨H, hI, e_launch1 hI hσ h3 hl9⟩⟩
theorem u_hook {a b c : Int32} (hσ : OKs M σ) (hl9 : l.stackTraces = false) : ∃ (v : Int64) (σ9 : ZS), OKs (M + 60) σ9 ∧ ∀ (hs0 : Hs) (k : Nat) (H : Hs), IS w hs0 k σ H → ∃ H9, IS w hs0 k σ9 H9 ∧ Cw l w mL_hook [(0, 8, 9, 34)] 1 6 [.ref (wB w + k), .int a, .int b, .int c] H none H9 none (some (.long v)) := by
  by_cases h1 : (0 ≤ a ∧ a ≤ 3) ∧ icl (zsF σ) (gN (zsF σ)) b c = true
  · obtain ⟨o, o1, o2, o3, o4⟩ := nI_le9 (a := 0) (b := 3) (by omega) (by omega) h1.1
    subst o3
    exact ⟨_, _, hσ.act (Nat.le_add_right M 60) ((hok_K hσ.2.1 (by omega) h1.2).mono (by omega)), fun hs0 k H hI => s_hook hI hσ (by omega) h1.2⟩
  · have h3 : fltH (zsF σ) a b c = nI 1 := by unfold fltH; rw [if_neg h1]; rfl
    exact ⟨_, σ, hσ.mono (by omega), fun hs0 k H hI => ⟨H, hI, e_hook1 hI hσ h3 hl9⟩⟩
theorem u_claim {a b : Int32} (hσ : OKs M σ) (hl9 : l.stackTraces = false) : ∃ (v : Int64) (σ9 : ZS), OKs (M + 60) σ9 ∧ ∀ (hs0 : Hs) (k : Nat) (H : Hs), IS w hs0 k σ H → ∃ H9, IS w hs0 k σ9 H9 ∧ Cw l w mL_claim [(0, 7, 8, 34)] 1 6 [.ref (wB w + k), .int a, .int b] H none H9 none (some (.long v)) := by
  by_cases h1 : (0 ≤ a ∧ a ≤ 3) ∧ (0 ≤ b ∧ b < nI (bN (zsF σ)))
  · obtain ⟨o, o1, o2, o3, o4⟩ := nI_le9 (a := 0) (b := 3) (by omega) (by omega) h1.1
    obtain ⟨j, j1, j2, j3⟩ := nI_box (by have := hσ.2.1.1.2.2; omega) h1.2
    subst o3; subst j2
    exact ⟨_, _, hσ.act (Nat.le_add_right M 60) (clm_K2 hσ.2.1 (by omega) j1).1, fun hs0 k H hI => s_claim hI hσ (by omega) j1⟩
  · have h3 : fltC (zsF σ) a b = nI 1 := by unfold fltC; rw [if_neg h1]; rfl
    exact ⟨_, σ, hσ.mono (by omega), fun hs0 k H hI => ⟨H, hI, e_claim1 hI hσ h3 hl9⟩⟩
theorem u_minutes {a : Int32} (hσ : OKs M σ) (hl9 : l.stackTraces = false) : ∃ (v : Int64) (σ9 : ZS), OKs (M + 60) σ9 ∧ ∀ (hs0 : Hs) (k : Nat) (H : Hs), IS w hs0 k σ H → ∃ H9, IS w hs0 k σ9 H9 ∧ Cw l w mL_minutes [(0, 6, 7, 15)] 1 6 [.ref (wB w + k), .int a] H none H9 none (some (.long v)) := by
  by_cases h1 : 1 ≤ a ∧ a ≤ 60
  · obtain ⟨i, i1, i2, i3, i4⟩ := nI_le9 (a := 1) (b := 60) (by omega) (by omega) h1
    subst i3
    exact ⟨_, _, hσ.act (Nat.le_add_right M 60) (gms_K hσ.2.1 ⟨i1, i2⟩).1, fun hs0 k H hI => s_minutes hI hσ ⟨i1, i2⟩⟩
  · exact ⟨_, σ, hσ.mono (by omega), fun hs0 k H hI => ⟨H, hI, e_minutes hI hσ h1 hl9⟩⟩
theorem u_set {a b : Int32} (hσ : OKs M σ) (hl9 : l.stackTraces = false) : ∃ (v : Int64) (σ9 : ZS), OKs (M + 60) σ9 ∧ ∀ (hs0 : Hs) (k : Nat) (H : Hs), IS w hs0 k σ H → ∃ H9, IS w hs0 k σ9 H9 ∧ Cw l w mL_set [(0, 7, 8, 15)] 1 6 [.ref (wB w + k), .int a, .int b] H none H9 none (some (.long v)) := by
  by_cases h1 : isSetP a b
  · obtain ⟨j, j1, j2, j3⟩ := isSetP_k h1
    subst j2
    exact ⟨_, _, hσ.act (Nat.le_add_right M 60) ((set_K hσ.2.1 j1 h1).mono (by omega)), fun hs0 k H hI => s_set hI hσ j1 h1⟩
  · exact ⟨_, σ, hσ.mono (by omega), fun hs0 k H hI => ⟨H, hI, e_set hI hσ h1 hl9⟩⟩
theorem u_undo (hσ : OKs M σ) (hl9 : l.stackTraces = false) : ∃ (v : Int64) (σ9 : ZS), OKs (M + 60) σ9 ∧ ∀ (hs0 : Hs) (k : Nat) (H : Hs), IS w hs0 k σ H → ∃ H9, IS w hs0 k σ9 H9 ∧ Cw l w mL_undo [(0, 5, 6, 19)] 1 6 [.ref (wB w + k)] H none H9 none (some (.long v)) := by
  cases hb : zsB σ with
  | nil => exact ⟨_, σ, hσ.mono (by omega), fun hs0 k H hI => ⟨H, hI, e_undo hI hσ hb hl9⟩⟩
  | cons f0 B =>
    have h9 : OKs M ((σ.1, f0, B, zsK σ) : ZS) := by
      have hb2 := hσ.2.2.1
      have hb3 := hσ.2.2.2.1
      rw [hb] at hb2 hb3
      exact ⟨hσ.1, hb3 f0 List.mem_cons_self, Nat.le_trans (Nat.le_succ _) hb2, fun f hf => hb3 f (List.mem_cons_of_mem _ hf), hσ.2.2.2.2⟩
    exact ⟨_, _, h9.mono (by omega), fun hs0 k H hI => s_undo hI hσ hb⟩
theorem okS {i : Nat} (hσ : OKs M σ) : OKs M ((σ.1, zsF σ, zsB σ, fun q => if q = i then some (zsF σ) else zsK σ q) : ZS) := ⟨hσ.1, hσ.2.1, hσ.2.2.1, hσ.2.2.2.1, fun j f hj hf => by
  have hf2 : (if j = i then some (zsF σ) else zsK σ j) = some f := hf
  by_cases e9 : j = i
  · rw [if_pos e9] at hf2
    rw [← Option.some.inj hf2]; exact hσ.2.1
  · rw [if_neg e9] at hf2
    exact hσ.2.2.2.2 j f hj hf2⟩
theorem u_save {i : Nat} (hi : i < 2) (hσ : OKs M σ) (hl9 : l.stackTraces = false) : ∃ (v : Int64) (σ9 : ZS), OKs (M + 60) σ9 ∧ ∀ (hs0 : Hs) (k : Nat) (H : Hs), IS w hs0 k σ H → ∃ H9, IS w hs0 k σ9 H9 ∧ Cw l w mL_save [(0, 6, 7, 34)] 1 6 [.ref (wB w + k), .int (nI i)] H none H9 none (some (.long v)) := ⟨_, _, (okS (i := i) hσ).mono (by omega), fun hs0 k H hI => s_save hI hσ hi⟩
theorem u_restore {i : Nat} (hi : i < 2) (hσ : OKs M σ) (hl9 : l.stackTraces = false) : ∃ (v : Int64) (σ9 : ZS), OKs (M + 60) σ9 ∧ ∀ (hs0 : Hs) (k : Nat) (H : Hs), IS w hs0 k σ H → ∃ H9, IS w hs0 k σ9 H9 ∧ Cw l w mL_restore [(0, 6, 7, 34), (0, 6, 12, 19)] 1 6 [.ref (wB w + k), .int (nI i)] H none H9 none (some (.long v)) := by
  cases hk : zsK σ i with
  | none => exact ⟨_, σ, hσ.mono (by omega), fun hs0 k H hI => ⟨H, hI, e_restore3 hI hσ hi hk hl9⟩⟩
  | some f0 => exact ⟨_, _, (show OKs M ((σ.1, f0, [], zsK σ) : ZS) from ⟨hσ.1, hσ.2.2.2.2 i f0 hi hk, Nat.zero_le _, fun f hf => absurd hf List.not_mem_nil, hσ.2.2.2.2⟩).mono (by omega), fun hs0 k H hI => s_restore hI hσ hi hk⟩
set_option maxHeartbeats 4000000 in
set_option maxRecDepth 100000 in
theorem u_act {x9 y9 : Nat} (hx9 : x9 < 2 ^ 31) (hy9 : y9 < 2 ^ 31) (hσ : OKs M σ) (hl9 : l.stackTraces = false) : ∃ (v : Int64) (σ9 : ZS), OKs (M + 60) σ9 ∧ ∀ (hs0 : Hs) (k : Nat) (H : Hs), IS w hs0 k σ H → Cp l w mL_act 1 6 [.ref (wB w + k), .int (nI x9), .int (nI y9)] H (fun h v9 => IS w hs0 k σ9 h ∧ v9 = .long v) := by
  have ex : nI x9 - nI x9 / 24 * 24 = nI (x9 % 24) := pk_rem (d := 24) hx9 (by omega) (by omega)
  have hx24 := Nat.mod_lt x9 (show 0 < 24 by omega)
  generalize x9 % 24 = t9 at ex hx24
  have ew : nI y9 / 32 = nI (y9 / 32) := pk_div (d := 32) hy9 (by omega) (by omega)
  have hw9 : y9 / 32 < 2 ^ 31 := Nat.lt_of_le_of_lt (Nat.div_le_self _ _) hy9
  generalize y9 / 32 = w9 at ew hw9
  by_cases hd : t9 < 19
  · rcases (show t9 = 0 ∨ t9 = 1 ∨ t9 = 2 ∨ t9 = 3 ∨ t9 = 4 ∨ t9 = 5 ∨ t9 = 6 ∨ t9 = 7 ∨ t9 = 8 ∨ t9 = 9 ∨ t9 = 10 ∨ t9 = 11 ∨ t9 = 12 ∨ t9 = 13 ∨ t9 = 14 ∨ t9 = 15 ∨ t9 = 16 ∨ t9 = 17 ∨ t9 = 18 by omega) with q | q | q | q | q | q | q | q | q | q | q | q | q | q | q | q | q | q | q
    · subst q
      obtain ⟨v, σ9, h1, h2⟩ := u_gutter (l := l) (w := w) (a := (4 + (nI y9 - nI y9 / 12 * 12))) (b := (nI w9 - nI w9 / 6 * 6)) (c := ((nI w9 / 8) - (nI w9 / 8) / 4 * 4)) (e := ((nI w9 / 32) - (nI w9 / 32) / 9 * 9)) hσ hl9
      refine ⟨v, σ9, h1, fun hs0 k H hI => ?_⟩
      obtain ⟨H9, hI9, hC⟩ := h2 hs0 k H hI
      refine Cp.of (d := mL_act) (by decide +kernel) (Nat.le_of_ble_eq_true rfl) ?_
      intro p e R s m args below meth c CX hN
      replace CX : Ctx p s m args meth c R w RL "act" cL_act 4 (some .long) 9 179 1 6 := CX
      show ZW p l e R s m args below meth c w 4 H none 0 0 (MQ below (QP w _) args s 1 6 (wA w)) 0 [(0, .ref (wB w + k)), (1, .int (nI x9)), (2, .int (nI y9))] []
      refine z_iload_n CX 2 dL_act_0 rfl rfl ?_
      refine z_bipush CX (v := 32) dL_act_1 (by decide) ?_
      refine z_idiv CX dL_act_3 (by decide) ?_
      refine z_stk (congrArg (fun q9 => [Value.int q9]) ew) ?_
      refine z_istore_n CX 3 dL_act_4 rfl (by decide) ?_
      refine z_iload_n CX 1 dL_act_5 rfl rfl ?_
      refine z_bipush CX (v := 24) dL_act_6 (by decide) ?_
      refine z_irem CX dL_act_8 (by decide) ?_
      refine z_stk (congrArg (fun q9 => [Value.int q9]) ex) ?_
      refine z_tabIn CX 100 dL_act_9 (by decide) (by decide) rfl (by decide) ?_
      refine z_aload_n CX 0 dL_act_100 rfl rfl ?_
      refine z_iconst CX (v := 4) dL_act_101 (by decide) ?_
      refine z_iload_n CX 2 dL_act_102 rfl rfl ?_
      refine z_bipush CX (v := 12) dL_act_103 (by decide) ?_
      refine z_irem CX dL_act_105 (by decide) ?_
      refine z_iadd CX dL_act_106 ?_
      refine z_iload_n CX 3 dL_act_107 rfl rfl ?_
      refine z_bipush CX (v := 6) dL_act_108 (by decide) ?_
      refine z_irem CX dL_act_110 (by decide) ?_
      refine z_iload_n CX 3 dL_act_111 rfl rfl ?_
      refine z_bipush CX (v := 8) dL_act_112 (by decide) ?_
      refine z_idiv CX dL_act_114 (by decide) ?_
      refine z_iconst CX (v := 4) dL_act_115 (by decide) ?_
      refine z_irem CX dL_act_116 (by decide) ?_
      refine z_iload_n CX 3 dL_act_117 rfl rfl ?_
      refine z_bipush CX (v := 32) dL_act_118 (by decide) ?_
      refine z_idiv CX dL_act_120 (by decide) ?_
      refine z_bipush CX (v := 9) dL_act_121 (by decide) ?_
      refine z_irem CX dL_act_123 (by decide) ?_
      refine z_callSw CX hN dL_act_124 csw_126 hC rfl rfl (Nat.le_of_ble_eq_true rfl) ⟨Nat.le_of_ble_eq_true rfl, Nat.le_of_ble_eq_true rfl⟩ ⟨by omega, by omega⟩ ?_
      exact z_lretP CX dL_act_127 rfl ⟨hI9, rfl⟩ (by omega) (by omega)
    · subst q
      obtain ⟨v, σ9, h1, h2⟩ := u_gutter (l := l) (w := w) (a := (4 + (nI y9 - nI y9 / 12 * 12))) (b := (nI w9 - nI w9 / 6 * 6)) (c := ((nI w9 / 8) - (nI w9 / 8) / 4 * 4)) (e := ((nI w9 / 32) - (nI w9 / 32) / 9 * 9)) hσ hl9
      refine ⟨v, σ9, h1, fun hs0 k H hI => ?_⟩
      obtain ⟨H9, hI9, hC⟩ := h2 hs0 k H hI
      refine Cp.of (d := mL_act) (by decide +kernel) (Nat.le_of_ble_eq_true rfl) ?_
      intro p e R s m args below meth c CX hN
      replace CX : Ctx p s m args meth c R w RL "act" cL_act 4 (some .long) 9 179 1 6 := CX
      show ZW p l e R s m args below meth c w 4 H none 0 0 (MQ below (QP w _) args s 1 6 (wA w)) 0 [(0, .ref (wB w + k)), (1, .int (nI x9)), (2, .int (nI y9))] []
      refine z_iload_n CX 2 dL_act_0 rfl rfl ?_
      refine z_bipush CX (v := 32) dL_act_1 (by decide) ?_
      refine z_idiv CX dL_act_3 (by decide) ?_
      refine z_stk (congrArg (fun q9 => [Value.int q9]) ew) ?_
      refine z_istore_n CX 3 dL_act_4 rfl (by decide) ?_
      refine z_iload_n CX 1 dL_act_5 rfl rfl ?_
      refine z_bipush CX (v := 24) dL_act_6 (by decide) ?_
      refine z_irem CX dL_act_8 (by decide) ?_
      refine z_stk (congrArg (fun q9 => [Value.int q9]) ex) ?_
      refine z_tabIn CX 100 dL_act_9 (by decide) (by decide) rfl (by decide) ?_
      refine z_aload_n CX 0 dL_act_100 rfl rfl ?_
      refine z_iconst CX (v := 4) dL_act_101 (by decide) ?_
      refine z_iload_n CX 2 dL_act_102 rfl rfl ?_
      refine z_bipush CX (v := 12) dL_act_103 (by decide) ?_
      refine z_irem CX dL_act_105 (by decide) ?_
      refine z_iadd CX dL_act_106 ?_
      refine z_iload_n CX 3 dL_act_107 rfl rfl ?_
      refine z_bipush CX (v := 6) dL_act_108 (by decide) ?_
      refine z_irem CX dL_act_110 (by decide) ?_
      refine z_iload_n CX 3 dL_act_111 rfl rfl ?_
      refine z_bipush CX (v := 8) dL_act_112 (by decide) ?_
      refine z_idiv CX dL_act_114 (by decide) ?_
      refine z_iconst CX (v := 4) dL_act_115 (by decide) ?_
      refine z_irem CX dL_act_116 (by decide) ?_
      refine z_iload_n CX 3 dL_act_117 rfl rfl ?_
      refine z_bipush CX (v := 32) dL_act_118 (by decide) ?_
      refine z_idiv CX dL_act_120 (by decide) ?_
      refine z_bipush CX (v := 9) dL_act_121 (by decide) ?_
      refine z_irem CX dL_act_123 (by decide) ?_
      refine z_callSw CX hN dL_act_124 csw_126 hC rfl rfl (Nat.le_of_ble_eq_true rfl) ⟨Nat.le_of_ble_eq_true rfl, Nat.le_of_ble_eq_true rfl⟩ ⟨by omega, by omega⟩ ?_
      exact z_lretP CX dL_act_127 rfl ⟨hI9, rfl⟩ (by omega) (by omega)
    · subst q
      obtain ⟨v, σ9, h1, h2⟩ := u_boat (l := l) (w := w) (a := (1 + (nI y9 - nI y9 / 9 * 9))) (b := (nI w9 - nI w9 / 4 * 4)) (c := ((nI w9 / 4) - (nI w9 / 4) / 4 * 4)) hσ hl9
      refine ⟨v, σ9, h1, fun hs0 k H hI => ?_⟩
      obtain ⟨H9, hI9, hC⟩ := h2 hs0 k H hI
      refine Cp.of (d := mL_act) (by decide +kernel) (Nat.le_of_ble_eq_true rfl) ?_
      intro p e R s m args below meth c CX hN
      replace CX : Ctx p s m args meth c R w RL "act" cL_act 4 (some .long) 9 179 1 6 := CX
      show ZW p l e R s m args below meth c w 4 H none 0 0 (MQ below (QP w _) args s 1 6 (wA w)) 0 [(0, .ref (wB w + k)), (1, .int (nI x9)), (2, .int (nI y9))] []
      refine z_iload_n CX 2 dL_act_0 rfl rfl ?_
      refine z_bipush CX (v := 32) dL_act_1 (by decide) ?_
      refine z_idiv CX dL_act_3 (by decide) ?_
      refine z_stk (congrArg (fun q9 => [Value.int q9]) ew) ?_
      refine z_istore_n CX 3 dL_act_4 rfl (by decide) ?_
      refine z_iload_n CX 1 dL_act_5 rfl rfl ?_
      refine z_bipush CX (v := 24) dL_act_6 (by decide) ?_
      refine z_irem CX dL_act_8 (by decide) ?_
      refine z_stk (congrArg (fun q9 => [Value.int q9]) ex) ?_
      refine z_tabIn CX 128 dL_act_9 (by decide) (by decide) rfl (by decide) ?_
      refine z_aload_n CX 0 dL_act_128 rfl rfl ?_
      refine z_iconst CX (v := 1) dL_act_129 (by decide) ?_
      refine z_iload_n CX 2 dL_act_130 rfl rfl ?_
      refine z_bipush CX (v := 9) dL_act_131 (by decide) ?_
      refine z_irem CX dL_act_133 (by decide) ?_
      refine z_iadd CX dL_act_134 ?_
      refine z_iload_n CX 3 dL_act_135 rfl rfl ?_
      refine z_iconst CX (v := 4) dL_act_136 (by decide) ?_
      refine z_irem CX dL_act_137 (by decide) ?_
      refine z_iload_n CX 3 dL_act_138 rfl rfl ?_
      refine z_iconst CX (v := 4) dL_act_139 (by decide) ?_
      refine z_idiv CX dL_act_140 (by decide) ?_
      refine z_iconst CX (v := 4) dL_act_141 (by decide) ?_
      refine z_irem CX dL_act_142 (by decide) ?_
      refine z_callSw CX hN dL_act_143 csw_129 hC rfl rfl (Nat.le_of_ble_eq_true rfl) ⟨Nat.le_of_ble_eq_true rfl, Nat.le_of_ble_eq_true rfl⟩ ⟨by omega, by omega⟩ ?_
      exact z_lretP CX dL_act_146 rfl ⟨hI9, rfl⟩ (by omega) (by omega)
    · subst q
      obtain ⟨v, σ9, h1, h2⟩ := u_boat (l := l) (w := w) (a := (1 + (nI y9 - nI y9 / 9 * 9))) (b := (nI w9 - nI w9 / 4 * 4)) (c := ((nI w9 / 4) - (nI w9 / 4) / 4 * 4)) hσ hl9
      refine ⟨v, σ9, h1, fun hs0 k H hI => ?_⟩
      obtain ⟨H9, hI9, hC⟩ := h2 hs0 k H hI
      refine Cp.of (d := mL_act) (by decide +kernel) (Nat.le_of_ble_eq_true rfl) ?_
      intro p e R s m args below meth c CX hN
      replace CX : Ctx p s m args meth c R w RL "act" cL_act 4 (some .long) 9 179 1 6 := CX
      show ZW p l e R s m args below meth c w 4 H none 0 0 (MQ below (QP w _) args s 1 6 (wA w)) 0 [(0, .ref (wB w + k)), (1, .int (nI x9)), (2, .int (nI y9))] []
      refine z_iload_n CX 2 dL_act_0 rfl rfl ?_
      refine z_bipush CX (v := 32) dL_act_1 (by decide) ?_
      refine z_idiv CX dL_act_3 (by decide) ?_
      refine z_stk (congrArg (fun q9 => [Value.int q9]) ew) ?_
      refine z_istore_n CX 3 dL_act_4 rfl (by decide) ?_
      refine z_iload_n CX 1 dL_act_5 rfl rfl ?_
      refine z_bipush CX (v := 24) dL_act_6 (by decide) ?_
      refine z_irem CX dL_act_8 (by decide) ?_
      refine z_stk (congrArg (fun q9 => [Value.int q9]) ex) ?_
      refine z_tabIn CX 128 dL_act_9 (by decide) (by decide) rfl (by decide) ?_
      refine z_aload_n CX 0 dL_act_128 rfl rfl ?_
      refine z_iconst CX (v := 1) dL_act_129 (by decide) ?_
      refine z_iload_n CX 2 dL_act_130 rfl rfl ?_
      refine z_bipush CX (v := 9) dL_act_131 (by decide) ?_
      refine z_irem CX dL_act_133 (by decide) ?_
      refine z_iadd CX dL_act_134 ?_
      refine z_iload_n CX 3 dL_act_135 rfl rfl ?_
      refine z_iconst CX (v := 4) dL_act_136 (by decide) ?_
      refine z_irem CX dL_act_137 (by decide) ?_
      refine z_iload_n CX 3 dL_act_138 rfl rfl ?_
      refine z_iconst CX (v := 4) dL_act_139 (by decide) ?_
      refine z_idiv CX dL_act_140 (by decide) ?_
      refine z_iconst CX (v := 4) dL_act_141 (by decide) ?_
      refine z_irem CX dL_act_142 (by decide) ?_
      refine z_callSw CX hN dL_act_143 csw_129 hC rfl rfl (Nat.le_of_ble_eq_true rfl) ⟨Nat.le_of_ble_eq_true rfl, Nat.le_of_ble_eq_true rfl⟩ ⟨by omega, by omega⟩ ?_
      exact z_lretP CX dL_act_146 rfl ⟨hI9, rfl⟩ (by omega) (by omega)
    · subst q
      obtain ⟨v, σ9, h1, h2⟩ := u_boat (l := l) (w := w) (a := (1 + (nI y9 - nI y9 / 9 * 9))) (b := (nI w9 - nI w9 / 4 * 4)) (c := ((nI w9 / 4) - (nI w9 / 4) / 4 * 4)) hσ hl9
      refine ⟨v, σ9, h1, fun hs0 k H hI => ?_⟩
      obtain ⟨H9, hI9, hC⟩ := h2 hs0 k H hI
      refine Cp.of (d := mL_act) (by decide +kernel) (Nat.le_of_ble_eq_true rfl) ?_
      intro p e R s m args below meth c CX hN
      replace CX : Ctx p s m args meth c R w RL "act" cL_act 4 (some .long) 9 179 1 6 := CX
      show ZW p l e R s m args below meth c w 4 H none 0 0 (MQ below (QP w _) args s 1 6 (wA w)) 0 [(0, .ref (wB w + k)), (1, .int (nI x9)), (2, .int (nI y9))] []
      refine z_iload_n CX 2 dL_act_0 rfl rfl ?_
      refine z_bipush CX (v := 32) dL_act_1 (by decide) ?_
      refine z_idiv CX dL_act_3 (by decide) ?_
      refine z_stk (congrArg (fun q9 => [Value.int q9]) ew) ?_
      refine z_istore_n CX 3 dL_act_4 rfl (by decide) ?_
      refine z_iload_n CX 1 dL_act_5 rfl rfl ?_
      refine z_bipush CX (v := 24) dL_act_6 (by decide) ?_
      refine z_irem CX dL_act_8 (by decide) ?_
      refine z_stk (congrArg (fun q9 => [Value.int q9]) ex) ?_
      refine z_tabIn CX 128 dL_act_9 (by decide) (by decide) rfl (by decide) ?_
      refine z_aload_n CX 0 dL_act_128 rfl rfl ?_
      refine z_iconst CX (v := 1) dL_act_129 (by decide) ?_
      refine z_iload_n CX 2 dL_act_130 rfl rfl ?_
      refine z_bipush CX (v := 9) dL_act_131 (by decide) ?_
      refine z_irem CX dL_act_133 (by decide) ?_
      refine z_iadd CX dL_act_134 ?_
      refine z_iload_n CX 3 dL_act_135 rfl rfl ?_
      refine z_iconst CX (v := 4) dL_act_136 (by decide) ?_
      refine z_irem CX dL_act_137 (by decide) ?_
      refine z_iload_n CX 3 dL_act_138 rfl rfl ?_
      refine z_iconst CX (v := 4) dL_act_139 (by decide) ?_
      refine z_idiv CX dL_act_140 (by decide) ?_
      refine z_iconst CX (v := 4) dL_act_141 (by decide) ?_
      refine z_irem CX dL_act_142 (by decide) ?_
      refine z_callSw CX hN dL_act_143 csw_129 hC rfl rfl (Nat.le_of_ble_eq_true rfl) ⟨Nat.le_of_ble_eq_true rfl, Nat.le_of_ble_eq_true rfl⟩ ⟨by omega, by omega⟩ ?_
      exact z_lretP CX dL_act_146 rfl ⟨hI9, rfl⟩ (by omega) (by omega)
    · subst q
      obtain ⟨v, σ9, h1, h2⟩ := u_launch (l := l) (w := w) (a := (nI y9 - nI y9 / 7 * 7)) (b := (nI w9 - nI w9 / 3 * 3)) hσ hl9
      refine ⟨v, σ9, h1, fun hs0 k H hI => ?_⟩
      obtain ⟨H9, hI9, hC⟩ := h2 hs0 k H hI
      refine Cp.of (d := mL_act) (by decide +kernel) (Nat.le_of_ble_eq_true rfl) ?_
      intro p e R s m args below meth c CX hN
      replace CX : Ctx p s m args meth c R w RL "act" cL_act 4 (some .long) 9 179 1 6 := CX
      show ZW p l e R s m args below meth c w 4 H none 0 0 (MQ below (QP w _) args s 1 6 (wA w)) 0 [(0, .ref (wB w + k)), (1, .int (nI x9)), (2, .int (nI y9))] []
      refine z_iload_n CX 2 dL_act_0 rfl rfl ?_
      refine z_bipush CX (v := 32) dL_act_1 (by decide) ?_
      refine z_idiv CX dL_act_3 (by decide) ?_
      refine z_stk (congrArg (fun q9 => [Value.int q9]) ew) ?_
      refine z_istore_n CX 3 dL_act_4 rfl (by decide) ?_
      refine z_iload_n CX 1 dL_act_5 rfl rfl ?_
      refine z_bipush CX (v := 24) dL_act_6 (by decide) ?_
      refine z_irem CX dL_act_8 (by decide) ?_
      refine z_stk (congrArg (fun q9 => [Value.int q9]) ex) ?_
      refine z_tabIn CX 147 dL_act_9 (by decide) (by decide) rfl (by decide) ?_
      refine z_aload_n CX 0 dL_act_147 rfl rfl ?_
      refine z_iload_n CX 2 dL_act_148 rfl rfl ?_
      refine z_bipush CX (v := 7) dL_act_149 (by decide) ?_
      refine z_irem CX dL_act_151 (by decide) ?_
      refine z_iload_n CX 3 dL_act_152 rfl rfl ?_
      refine z_iconst CX (v := 3) dL_act_153 (by decide) ?_
      refine z_irem CX dL_act_154 (by decide) ?_
      refine z_callSw CX hN dL_act_155 csw_131 hC rfl rfl (Nat.le_of_ble_eq_true rfl) ⟨Nat.le_of_ble_eq_true rfl, Nat.le_of_ble_eq_true rfl⟩ ⟨by omega, by omega⟩ ?_
      exact z_lretP CX dL_act_158 rfl ⟨hI9, rfl⟩ (by omega) (by omega)
    · subst q
      obtain ⟨v, σ9, h1, h2⟩ := u_launch (l := l) (w := w) (a := (nI y9 - nI y9 / 7 * 7)) (b := (nI w9 - nI w9 / 3 * 3)) hσ hl9
      refine ⟨v, σ9, h1, fun hs0 k H hI => ?_⟩
      obtain ⟨H9, hI9, hC⟩ := h2 hs0 k H hI
      refine Cp.of (d := mL_act) (by decide +kernel) (Nat.le_of_ble_eq_true rfl) ?_
      intro p e R s m args below meth c CX hN
      replace CX : Ctx p s m args meth c R w RL "act" cL_act 4 (some .long) 9 179 1 6 := CX
      show ZW p l e R s m args below meth c w 4 H none 0 0 (MQ below (QP w _) args s 1 6 (wA w)) 0 [(0, .ref (wB w + k)), (1, .int (nI x9)), (2, .int (nI y9))] []
      refine z_iload_n CX 2 dL_act_0 rfl rfl ?_
      refine z_bipush CX (v := 32) dL_act_1 (by decide) ?_
      refine z_idiv CX dL_act_3 (by decide) ?_
      refine z_stk (congrArg (fun q9 => [Value.int q9]) ew) ?_
      refine z_istore_n CX 3 dL_act_4 rfl (by decide) ?_
      refine z_iload_n CX 1 dL_act_5 rfl rfl ?_
      refine z_bipush CX (v := 24) dL_act_6 (by decide) ?_
      refine z_irem CX dL_act_8 (by decide) ?_
      refine z_stk (congrArg (fun q9 => [Value.int q9]) ex) ?_
      refine z_tabIn CX 147 dL_act_9 (by decide) (by decide) rfl (by decide) ?_
      refine z_aload_n CX 0 dL_act_147 rfl rfl ?_
      refine z_iload_n CX 2 dL_act_148 rfl rfl ?_
      refine z_bipush CX (v := 7) dL_act_149 (by decide) ?_
      refine z_irem CX dL_act_151 (by decide) ?_
      refine z_iload_n CX 3 dL_act_152 rfl rfl ?_
      refine z_iconst CX (v := 3) dL_act_153 (by decide) ?_
      refine z_irem CX dL_act_154 (by decide) ?_
      refine z_callSw CX hN dL_act_155 csw_131 hC rfl rfl (Nat.le_of_ble_eq_true rfl) ⟨Nat.le_of_ble_eq_true rfl, Nat.le_of_ble_eq_true rfl⟩ ⟨by omega, by omega⟩ ?_
      exact z_lretP CX dL_act_158 rfl ⟨hI9, rfl⟩ (by omega) (by omega)
    · subst q
      obtain ⟨v, σ9, h1, h2⟩ := u_launch (l := l) (w := w) (a := (nI y9 - nI y9 / 7 * 7)) (b := (nI w9 - nI w9 / 3 * 3)) hσ hl9
      refine ⟨v, σ9, h1, fun hs0 k H hI => ?_⟩
      obtain ⟨H9, hI9, hC⟩ := h2 hs0 k H hI
      refine Cp.of (d := mL_act) (by decide +kernel) (Nat.le_of_ble_eq_true rfl) ?_
      intro p e R s m args below meth c CX hN
      replace CX : Ctx p s m args meth c R w RL "act" cL_act 4 (some .long) 9 179 1 6 := CX
      show ZW p l e R s m args below meth c w 4 H none 0 0 (MQ below (QP w _) args s 1 6 (wA w)) 0 [(0, .ref (wB w + k)), (1, .int (nI x9)), (2, .int (nI y9))] []
      refine z_iload_n CX 2 dL_act_0 rfl rfl ?_
      refine z_bipush CX (v := 32) dL_act_1 (by decide) ?_
      refine z_idiv CX dL_act_3 (by decide) ?_
      refine z_stk (congrArg (fun q9 => [Value.int q9]) ew) ?_
      refine z_istore_n CX 3 dL_act_4 rfl (by decide) ?_
      refine z_iload_n CX 1 dL_act_5 rfl rfl ?_
      refine z_bipush CX (v := 24) dL_act_6 (by decide) ?_
      refine z_irem CX dL_act_8 (by decide) ?_
      refine z_stk (congrArg (fun q9 => [Value.int q9]) ex) ?_
      refine z_tabIn CX 147 dL_act_9 (by decide) (by decide) rfl (by decide) ?_
      refine z_aload_n CX 0 dL_act_147 rfl rfl ?_
      refine z_iload_n CX 2 dL_act_148 rfl rfl ?_
      refine z_bipush CX (v := 7) dL_act_149 (by decide) ?_
      refine z_irem CX dL_act_151 (by decide) ?_
      refine z_iload_n CX 3 dL_act_152 rfl rfl ?_
      refine z_iconst CX (v := 3) dL_act_153 (by decide) ?_
      refine z_irem CX dL_act_154 (by decide) ?_
      refine z_callSw CX hN dL_act_155 csw_131 hC rfl rfl (Nat.le_of_ble_eq_true rfl) ⟨Nat.le_of_ble_eq_true rfl, Nat.le_of_ble_eq_true rfl⟩ ⟨by omega, by omega⟩ ?_
      exact z_lretP CX dL_act_158 rfl ⟨hI9, rfl⟩ (by omega) (by omega)
    · subst q
      obtain ⟨v, σ9, h1, h2⟩ := u_launch (l := l) (w := w) (a := (nI y9 - nI y9 / 7 * 7)) (b := (nI w9 - nI w9 / 3 * 3)) hσ hl9
      refine ⟨v, σ9, h1, fun hs0 k H hI => ?_⟩
      obtain ⟨H9, hI9, hC⟩ := h2 hs0 k H hI
      refine Cp.of (d := mL_act) (by decide +kernel) (Nat.le_of_ble_eq_true rfl) ?_
      intro p e R s m args below meth c CX hN
      replace CX : Ctx p s m args meth c R w RL "act" cL_act 4 (some .long) 9 179 1 6 := CX
      show ZW p l e R s m args below meth c w 4 H none 0 0 (MQ below (QP w _) args s 1 6 (wA w)) 0 [(0, .ref (wB w + k)), (1, .int (nI x9)), (2, .int (nI y9))] []
      refine z_iload_n CX 2 dL_act_0 rfl rfl ?_
      refine z_bipush CX (v := 32) dL_act_1 (by decide) ?_
      refine z_idiv CX dL_act_3 (by decide) ?_
      refine z_stk (congrArg (fun q9 => [Value.int q9]) ew) ?_
      refine z_istore_n CX 3 dL_act_4 rfl (by decide) ?_
      refine z_iload_n CX 1 dL_act_5 rfl rfl ?_
      refine z_bipush CX (v := 24) dL_act_6 (by decide) ?_
      refine z_irem CX dL_act_8 (by decide) ?_
      refine z_stk (congrArg (fun q9 => [Value.int q9]) ex) ?_
      refine z_tabIn CX 147 dL_act_9 (by decide) (by decide) rfl (by decide) ?_
      refine z_aload_n CX 0 dL_act_147 rfl rfl ?_
      refine z_iload_n CX 2 dL_act_148 rfl rfl ?_
      refine z_bipush CX (v := 7) dL_act_149 (by decide) ?_
      refine z_irem CX dL_act_151 (by decide) ?_
      refine z_iload_n CX 3 dL_act_152 rfl rfl ?_
      refine z_iconst CX (v := 3) dL_act_153 (by decide) ?_
      refine z_irem CX dL_act_154 (by decide) ?_
      refine z_callSw CX hN dL_act_155 csw_131 hC rfl rfl (Nat.le_of_ble_eq_true rfl) ⟨Nat.le_of_ble_eq_true rfl, Nat.le_of_ble_eq_true rfl⟩ ⟨by omega, by omega⟩ ?_
      exact z_lretP CX dL_act_158 rfl ⟨hI9, rfl⟩ (by omega) (by omega)
    · subst q
      obtain ⟨v, σ9, h1, h2⟩ := u_launch (l := l) (w := w) (a := (nI y9 - nI y9 / 7 * 7)) (b := (nI w9 - nI w9 / 3 * 3)) hσ hl9
      refine ⟨v, σ9, h1, fun hs0 k H hI => ?_⟩
      obtain ⟨H9, hI9, hC⟩ := h2 hs0 k H hI
      refine Cp.of (d := mL_act) (by decide +kernel) (Nat.le_of_ble_eq_true rfl) ?_
      intro p e R s m args below meth c CX hN
      replace CX : Ctx p s m args meth c R w RL "act" cL_act 4 (some .long) 9 179 1 6 := CX
      show ZW p l e R s m args below meth c w 4 H none 0 0 (MQ below (QP w _) args s 1 6 (wA w)) 0 [(0, .ref (wB w + k)), (1, .int (nI x9)), (2, .int (nI y9))] []
      refine z_iload_n CX 2 dL_act_0 rfl rfl ?_
      refine z_bipush CX (v := 32) dL_act_1 (by decide) ?_
      refine z_idiv CX dL_act_3 (by decide) ?_
      refine z_stk (congrArg (fun q9 => [Value.int q9]) ew) ?_
      refine z_istore_n CX 3 dL_act_4 rfl (by decide) ?_
      refine z_iload_n CX 1 dL_act_5 rfl rfl ?_
      refine z_bipush CX (v := 24) dL_act_6 (by decide) ?_
      refine z_irem CX dL_act_8 (by decide) ?_
      refine z_stk (congrArg (fun q9 => [Value.int q9]) ex) ?_
      refine z_tabIn CX 147 dL_act_9 (by decide) (by decide) rfl (by decide) ?_
      refine z_aload_n CX 0 dL_act_147 rfl rfl ?_
      refine z_iload_n CX 2 dL_act_148 rfl rfl ?_
      refine z_bipush CX (v := 7) dL_act_149 (by decide) ?_
      refine z_irem CX dL_act_151 (by decide) ?_
      refine z_iload_n CX 3 dL_act_152 rfl rfl ?_
      refine z_iconst CX (v := 3) dL_act_153 (by decide) ?_
      refine z_irem CX dL_act_154 (by decide) ?_
      refine z_callSw CX hN dL_act_155 csw_131 hC rfl rfl (Nat.le_of_ble_eq_true rfl) ⟨Nat.le_of_ble_eq_true rfl, Nat.le_of_ble_eq_true rfl⟩ ⟨by omega, by omega⟩ ?_
      exact z_lretP CX dL_act_158 rfl ⟨hI9, rfl⟩ (by omega) (by omega)
    · subst q
      obtain ⟨v, σ9, h1, h2⟩ := u_launch (l := l) (w := w) (a := (nI y9 - nI y9 / 7 * 7)) (b := (nI w9 - nI w9 / 3 * 3)) hσ hl9
      refine ⟨v, σ9, h1, fun hs0 k H hI => ?_⟩
      obtain ⟨H9, hI9, hC⟩ := h2 hs0 k H hI
      refine Cp.of (d := mL_act) (by decide +kernel) (Nat.le_of_ble_eq_true rfl) ?_
      intro p e R s m args below meth c CX hN
      replace CX : Ctx p s m args meth c R w RL "act" cL_act 4 (some .long) 9 179 1 6 := CX
      show ZW p l e R s m args below meth c w 4 H none 0 0 (MQ below (QP w _) args s 1 6 (wA w)) 0 [(0, .ref (wB w + k)), (1, .int (nI x9)), (2, .int (nI y9))] []
      refine z_iload_n CX 2 dL_act_0 rfl rfl ?_
      refine z_bipush CX (v := 32) dL_act_1 (by decide) ?_
      refine z_idiv CX dL_act_3 (by decide) ?_
      refine z_stk (congrArg (fun q9 => [Value.int q9]) ew) ?_
      refine z_istore_n CX 3 dL_act_4 rfl (by decide) ?_
      refine z_iload_n CX 1 dL_act_5 rfl rfl ?_
      refine z_bipush CX (v := 24) dL_act_6 (by decide) ?_
      refine z_irem CX dL_act_8 (by decide) ?_
      refine z_stk (congrArg (fun q9 => [Value.int q9]) ex) ?_
      refine z_tabIn CX 147 dL_act_9 (by decide) (by decide) rfl (by decide) ?_
      refine z_aload_n CX 0 dL_act_147 rfl rfl ?_
      refine z_iload_n CX 2 dL_act_148 rfl rfl ?_
      refine z_bipush CX (v := 7) dL_act_149 (by decide) ?_
      refine z_irem CX dL_act_151 (by decide) ?_
      refine z_iload_n CX 3 dL_act_152 rfl rfl ?_
      refine z_iconst CX (v := 3) dL_act_153 (by decide) ?_
      refine z_irem CX dL_act_154 (by decide) ?_
      refine z_callSw CX hN dL_act_155 csw_131 hC rfl rfl (Nat.le_of_ble_eq_true rfl) ⟨Nat.le_of_ble_eq_true rfl, Nat.le_of_ble_eq_true rfl⟩ ⟨by omega, by omega⟩ ?_
      exact z_lretP CX dL_act_158 rfl ⟨hI9, rfl⟩ (by omega) (by omega)
    · subst q
      obtain ⟨v, σ9, h1, h2⟩ := u_hook (l := l) (w := w) (a := (nI y9 - nI y9 / 4 * 4)) (b := (nI w9 - nI w9 / 3 * 3)) (c := ((nI w9 / 4) - (nI w9 / 4) / 8 * 8)) hσ hl9
      refine ⟨v, σ9, h1, fun hs0 k H hI => ?_⟩
      obtain ⟨H9, hI9, hC⟩ := h2 hs0 k H hI
      refine Cp.of (d := mL_act) (by decide +kernel) (Nat.le_of_ble_eq_true rfl) ?_
      intro p e R s m args below meth c CX hN
      replace CX : Ctx p s m args meth c R w RL "act" cL_act 4 (some .long) 9 179 1 6 := CX
      show ZW p l e R s m args below meth c w 4 H none 0 0 (MQ below (QP w _) args s 1 6 (wA w)) 0 [(0, .ref (wB w + k)), (1, .int (nI x9)), (2, .int (nI y9))] []
      refine z_iload_n CX 2 dL_act_0 rfl rfl ?_
      refine z_bipush CX (v := 32) dL_act_1 (by decide) ?_
      refine z_idiv CX dL_act_3 (by decide) ?_
      refine z_stk (congrArg (fun q9 => [Value.int q9]) ew) ?_
      refine z_istore_n CX 3 dL_act_4 rfl (by decide) ?_
      refine z_iload_n CX 1 dL_act_5 rfl rfl ?_
      refine z_bipush CX (v := 24) dL_act_6 (by decide) ?_
      refine z_irem CX dL_act_8 (by decide) ?_
      refine z_stk (congrArg (fun q9 => [Value.int q9]) ex) ?_
      refine z_tabIn CX 159 dL_act_9 (by decide) (by decide) rfl (by decide) ?_
      refine z_aload_n CX 0 dL_act_159 rfl rfl ?_
      refine z_iload_n CX 2 dL_act_160 rfl rfl ?_
      refine z_iconst CX (v := 4) dL_act_161 (by decide) ?_
      refine z_irem CX dL_act_162 (by decide) ?_
      refine z_iload_n CX 3 dL_act_163 rfl rfl ?_
      refine z_iconst CX (v := 3) dL_act_164 (by decide) ?_
      refine z_irem CX dL_act_165 (by decide) ?_
      refine z_iload_n CX 3 dL_act_166 rfl rfl ?_
      refine z_iconst CX (v := 4) dL_act_167 (by decide) ?_
      refine z_idiv CX dL_act_168 (by decide) ?_
      refine z_bipush CX (v := 8) dL_act_169 (by decide) ?_
      refine z_irem CX dL_act_171 (by decide) ?_
      refine z_callSw CX hN dL_act_172 csw_133 hC rfl rfl (Nat.le_of_ble_eq_true rfl) ⟨Nat.le_of_ble_eq_true rfl, Nat.le_of_ble_eq_true rfl⟩ ⟨by omega, by omega⟩ ?_
      exact z_lretP CX dL_act_175 rfl ⟨hI9, rfl⟩ (by omega) (by omega)
    · subst q
      obtain ⟨v, σ9, h1, h2⟩ := u_hook (l := l) (w := w) (a := (nI y9 - nI y9 / 4 * 4)) (b := (nI w9 - nI w9 / 3 * 3)) (c := ((nI w9 / 4) - (nI w9 / 4) / 8 * 8)) hσ hl9
      refine ⟨v, σ9, h1, fun hs0 k H hI => ?_⟩
      obtain ⟨H9, hI9, hC⟩ := h2 hs0 k H hI
      refine Cp.of (d := mL_act) (by decide +kernel) (Nat.le_of_ble_eq_true rfl) ?_
      intro p e R s m args below meth c CX hN
      replace CX : Ctx p s m args meth c R w RL "act" cL_act 4 (some .long) 9 179 1 6 := CX
      show ZW p l e R s m args below meth c w 4 H none 0 0 (MQ below (QP w _) args s 1 6 (wA w)) 0 [(0, .ref (wB w + k)), (1, .int (nI x9)), (2, .int (nI y9))] []
      refine z_iload_n CX 2 dL_act_0 rfl rfl ?_
      refine z_bipush CX (v := 32) dL_act_1 (by decide) ?_
      refine z_idiv CX dL_act_3 (by decide) ?_
      refine z_stk (congrArg (fun q9 => [Value.int q9]) ew) ?_
      refine z_istore_n CX 3 dL_act_4 rfl (by decide) ?_
      refine z_iload_n CX 1 dL_act_5 rfl rfl ?_
      refine z_bipush CX (v := 24) dL_act_6 (by decide) ?_
      refine z_irem CX dL_act_8 (by decide) ?_
      refine z_stk (congrArg (fun q9 => [Value.int q9]) ex) ?_
      refine z_tabIn CX 159 dL_act_9 (by decide) (by decide) rfl (by decide) ?_
      refine z_aload_n CX 0 dL_act_159 rfl rfl ?_
      refine z_iload_n CX 2 dL_act_160 rfl rfl ?_
      refine z_iconst CX (v := 4) dL_act_161 (by decide) ?_
      refine z_irem CX dL_act_162 (by decide) ?_
      refine z_iload_n CX 3 dL_act_163 rfl rfl ?_
      refine z_iconst CX (v := 3) dL_act_164 (by decide) ?_
      refine z_irem CX dL_act_165 (by decide) ?_
      refine z_iload_n CX 3 dL_act_166 rfl rfl ?_
      refine z_iconst CX (v := 4) dL_act_167 (by decide) ?_
      refine z_idiv CX dL_act_168 (by decide) ?_
      refine z_bipush CX (v := 8) dL_act_169 (by decide) ?_
      refine z_irem CX dL_act_171 (by decide) ?_
      refine z_callSw CX hN dL_act_172 csw_133 hC rfl rfl (Nat.le_of_ble_eq_true rfl) ⟨Nat.le_of_ble_eq_true rfl, Nat.le_of_ble_eq_true rfl⟩ ⟨by omega, by omega⟩ ?_
      exact z_lretP CX dL_act_175 rfl ⟨hI9, rfl⟩ (by omega) (by omega)
    · subst q
      obtain ⟨v, σ9, h1, h2⟩ := u_claim (l := l) (w := w) (a := (nI y9 - nI y9 / 4 * 4)) (b := (nI w9 - nI w9 / 7 * 7)) hσ hl9
      refine ⟨v, σ9, h1, fun hs0 k H hI => ?_⟩
      obtain ⟨H9, hI9, hC⟩ := h2 hs0 k H hI
      refine Cp.of (d := mL_act) (by decide +kernel) (Nat.le_of_ble_eq_true rfl) ?_
      intro p e R s m args below meth c CX hN
      replace CX : Ctx p s m args meth c R w RL "act" cL_act 4 (some .long) 9 179 1 6 := CX
      show ZW p l e R s m args below meth c w 4 H none 0 0 (MQ below (QP w _) args s 1 6 (wA w)) 0 [(0, .ref (wB w + k)), (1, .int (nI x9)), (2, .int (nI y9))] []
      refine z_iload_n CX 2 dL_act_0 rfl rfl ?_
      refine z_bipush CX (v := 32) dL_act_1 (by decide) ?_
      refine z_idiv CX dL_act_3 (by decide) ?_
      refine z_stk (congrArg (fun q9 => [Value.int q9]) ew) ?_
      refine z_istore_n CX 3 dL_act_4 rfl (by decide) ?_
      refine z_iload_n CX 1 dL_act_5 rfl rfl ?_
      refine z_bipush CX (v := 24) dL_act_6 (by decide) ?_
      refine z_irem CX dL_act_8 (by decide) ?_
      refine z_stk (congrArg (fun q9 => [Value.int q9]) ex) ?_
      refine z_tabIn CX 176 dL_act_9 (by decide) (by decide) rfl (by decide) ?_
      refine z_aload_n CX 0 dL_act_176 rfl rfl ?_
      refine z_iload_n CX 2 dL_act_177 rfl rfl ?_
      refine z_iconst CX (v := 4) dL_act_178 (by decide) ?_
      refine z_irem CX dL_act_179 (by decide) ?_
      refine z_iload_n CX 3 dL_act_180 rfl rfl ?_
      refine z_bipush CX (v := 7) dL_act_181 (by decide) ?_
      refine z_irem CX dL_act_183 (by decide) ?_
      refine z_callSw CX hN dL_act_184 csw_135 hC rfl rfl (Nat.le_of_ble_eq_true rfl) ⟨Nat.le_of_ble_eq_true rfl, Nat.le_of_ble_eq_true rfl⟩ ⟨by omega, by omega⟩ ?_
      exact z_lretP CX dL_act_187 rfl ⟨hI9, rfl⟩ (by omega) (by omega)
    · subst q
      obtain ⟨v, σ9, h1, h2⟩ := u_claim (l := l) (w := w) (a := (nI y9 - nI y9 / 4 * 4)) (b := (nI w9 - nI w9 / 7 * 7)) hσ hl9
      refine ⟨v, σ9, h1, fun hs0 k H hI => ?_⟩
      obtain ⟨H9, hI9, hC⟩ := h2 hs0 k H hI
      refine Cp.of (d := mL_act) (by decide +kernel) (Nat.le_of_ble_eq_true rfl) ?_
      intro p e R s m args below meth c CX hN
      replace CX : Ctx p s m args meth c R w RL "act" cL_act 4 (some .long) 9 179 1 6 := CX
      show ZW p l e R s m args below meth c w 4 H none 0 0 (MQ below (QP w _) args s 1 6 (wA w)) 0 [(0, .ref (wB w + k)), (1, .int (nI x9)), (2, .int (nI y9))] []
      refine z_iload_n CX 2 dL_act_0 rfl rfl ?_
      refine z_bipush CX (v := 32) dL_act_1 (by decide) ?_
      refine z_idiv CX dL_act_3 (by decide) ?_
      refine z_stk (congrArg (fun q9 => [Value.int q9]) ew) ?_
      refine z_istore_n CX 3 dL_act_4 rfl (by decide) ?_
      refine z_iload_n CX 1 dL_act_5 rfl rfl ?_
      refine z_bipush CX (v := 24) dL_act_6 (by decide) ?_
      refine z_irem CX dL_act_8 (by decide) ?_
      refine z_stk (congrArg (fun q9 => [Value.int q9]) ex) ?_
      refine z_tabIn CX 176 dL_act_9 (by decide) (by decide) rfl (by decide) ?_
      refine z_aload_n CX 0 dL_act_176 rfl rfl ?_
      refine z_iload_n CX 2 dL_act_177 rfl rfl ?_
      refine z_iconst CX (v := 4) dL_act_178 (by decide) ?_
      refine z_irem CX dL_act_179 (by decide) ?_
      refine z_iload_n CX 3 dL_act_180 rfl rfl ?_
      refine z_bipush CX (v := 7) dL_act_181 (by decide) ?_
      refine z_irem CX dL_act_183 (by decide) ?_
      refine z_callSw CX hN dL_act_184 csw_135 hC rfl rfl (Nat.le_of_ble_eq_true rfl) ⟨Nat.le_of_ble_eq_true rfl, Nat.le_of_ble_eq_true rfl⟩ ⟨by omega, by omega⟩ ?_
      exact z_lretP CX dL_act_187 rfl ⟨hI9, rfl⟩ (by omega) (by omega)
    · subst q
      obtain ⟨v, σ9, h1, h2⟩ := u_set (l := l) (w := w) (a := (nI y9 - nI y9 / 3 * 3)) (b := (nI w9 - nI w9 / 6 * 6)) hσ hl9
      refine ⟨v, σ9, h1, fun hs0 k H hI => ?_⟩
      obtain ⟨H9, hI9, hC⟩ := h2 hs0 k H hI
      refine Cp.of (d := mL_act) (by decide +kernel) (Nat.le_of_ble_eq_true rfl) ?_
      intro p e R s m args below meth c CX hN
      replace CX : Ctx p s m args meth c R w RL "act" cL_act 4 (some .long) 9 179 1 6 := CX
      show ZW p l e R s m args below meth c w 4 H none 0 0 (MQ below (QP w _) args s 1 6 (wA w)) 0 [(0, .ref (wB w + k)), (1, .int (nI x9)), (2, .int (nI y9))] []
      refine z_iload_n CX 2 dL_act_0 rfl rfl ?_
      refine z_bipush CX (v := 32) dL_act_1 (by decide) ?_
      refine z_idiv CX dL_act_3 (by decide) ?_
      refine z_stk (congrArg (fun q9 => [Value.int q9]) ew) ?_
      refine z_istore_n CX 3 dL_act_4 rfl (by decide) ?_
      refine z_iload_n CX 1 dL_act_5 rfl rfl ?_
      refine z_bipush CX (v := 24) dL_act_6 (by decide) ?_
      refine z_irem CX dL_act_8 (by decide) ?_
      refine z_stk (congrArg (fun q9 => [Value.int q9]) ex) ?_
      refine z_tabIn CX 188 dL_act_9 (by decide) (by decide) rfl (by decide) ?_
      refine z_aload_n CX 0 dL_act_188 rfl rfl ?_
      refine z_iload_n CX 2 dL_act_189 rfl rfl ?_
      refine z_iconst CX (v := 3) dL_act_190 (by decide) ?_
      refine z_irem CX dL_act_191 (by decide) ?_
      refine z_iload_n CX 3 dL_act_192 rfl rfl ?_
      refine z_bipush CX (v := 6) dL_act_193 (by decide) ?_
      refine z_irem CX dL_act_195 (by decide) ?_
      refine z_callSw CX hN dL_act_196 csw_139 hC rfl rfl (Nat.le_of_ble_eq_true rfl) ⟨Nat.le_of_ble_eq_true rfl, Nat.le_of_ble_eq_true rfl⟩ ⟨by omega, by omega⟩ ?_
      exact z_lretP CX dL_act_199 rfl ⟨hI9, rfl⟩ (by omega) (by omega)
    · subst q
      obtain ⟨v, σ9, h1, h2⟩ := u_undo (l := l) (w := w)  hσ hl9
      refine ⟨v, σ9, h1, fun hs0 k H hI => ?_⟩
      obtain ⟨H9, hI9, hC⟩ := h2 hs0 k H hI
      refine Cp.of (d := mL_act) (by decide +kernel) (Nat.le_of_ble_eq_true rfl) ?_
      intro p e R s m args below meth c CX hN
      replace CX : Ctx p s m args meth c R w RL "act" cL_act 4 (some .long) 9 179 1 6 := CX
      show ZW p l e R s m args below meth c w 4 H none 0 0 (MQ below (QP w _) args s 1 6 (wA w)) 0 [(0, .ref (wB w + k)), (1, .int (nI x9)), (2, .int (nI y9))] []
      refine z_iload_n CX 2 dL_act_0 rfl rfl ?_
      refine z_bipush CX (v := 32) dL_act_1 (by decide) ?_
      refine z_idiv CX dL_act_3 (by decide) ?_
      refine z_stk (congrArg (fun q9 => [Value.int q9]) ew) ?_
      refine z_istore_n CX 3 dL_act_4 rfl (by decide) ?_
      refine z_iload_n CX 1 dL_act_5 rfl rfl ?_
      refine z_bipush CX (v := 24) dL_act_6 (by decide) ?_
      refine z_irem CX dL_act_8 (by decide) ?_
      refine z_stk (congrArg (fun q9 => [Value.int q9]) ex) ?_
      refine z_tabIn CX 200 dL_act_9 (by decide) (by decide) rfl (by decide) ?_
      refine z_aload_n CX 0 dL_act_200 rfl rfl ?_
      refine z_callSw CX hN dL_act_201 csw_174 hC rfl rfl (Nat.le_of_ble_eq_true rfl) ⟨Nat.le_of_ble_eq_true rfl, Nat.le_of_ble_eq_true rfl⟩ ⟨by omega, by omega⟩ ?_
      exact z_lretP CX dL_act_204 rfl ⟨hI9, rfl⟩ (by omega) (by omega)
    · subst q
      obtain ⟨v, σ9, h1, h2⟩ := u_undo (l := l) (w := w)  hσ hl9
      refine ⟨v, σ9, h1, fun hs0 k H hI => ?_⟩
      obtain ⟨H9, hI9, hC⟩ := h2 hs0 k H hI
      refine Cp.of (d := mL_act) (by decide +kernel) (Nat.le_of_ble_eq_true rfl) ?_
      intro p e R s m args below meth c CX hN
      replace CX : Ctx p s m args meth c R w RL "act" cL_act 4 (some .long) 9 179 1 6 := CX
      show ZW p l e R s m args below meth c w 4 H none 0 0 (MQ below (QP w _) args s 1 6 (wA w)) 0 [(0, .ref (wB w + k)), (1, .int (nI x9)), (2, .int (nI y9))] []
      refine z_iload_n CX 2 dL_act_0 rfl rfl ?_
      refine z_bipush CX (v := 32) dL_act_1 (by decide) ?_
      refine z_idiv CX dL_act_3 (by decide) ?_
      refine z_stk (congrArg (fun q9 => [Value.int q9]) ew) ?_
      refine z_istore_n CX 3 dL_act_4 rfl (by decide) ?_
      refine z_iload_n CX 1 dL_act_5 rfl rfl ?_
      refine z_bipush CX (v := 24) dL_act_6 (by decide) ?_
      refine z_irem CX dL_act_8 (by decide) ?_
      refine z_stk (congrArg (fun q9 => [Value.int q9]) ex) ?_
      refine z_tabIn CX 200 dL_act_9 (by decide) (by decide) rfl (by decide) ?_
      refine z_aload_n CX 0 dL_act_200 rfl rfl ?_
      refine z_callSw CX hN dL_act_201 csw_174 hC rfl rfl (Nat.le_of_ble_eq_true rfl) ⟨Nat.le_of_ble_eq_true rfl, Nat.le_of_ble_eq_true rfl⟩ ⟨by omega, by omega⟩ ?_
      exact z_lretP CX dL_act_204 rfl ⟨hI9, rfl⟩ (by omega) (by omega)
    · subst q
      have e2 : nI w9 - nI w9 / 2 * 2 = nI (w9 % 2) := pk_rem (d := 2) hw9 (by omega) (by omega)
      obtain ⟨j, hj, ej⟩ := pk_andE (nI w9 / 2) (m := 1) 1 (by decide)
      by_cases hz : w9 % 2 = 0
      · obtain ⟨v, σ9, h1, h2⟩ := u_save (l := l) (w := w) (i := j) (by omega) hσ hl9
        refine ⟨v, σ9, h1, fun hs0 k H hI => ?_⟩
        obtain ⟨H9, hI9, hC⟩ := h2 hs0 k H hI
        refine Cp.of (d := mL_act) (by decide +kernel) (Nat.le_of_ble_eq_true rfl) ?_
        intro p e R s m args below meth c CX hN
        replace CX : Ctx p s m args meth c R w RL "act" cL_act 4 (some .long) 9 179 1 6 := CX
        show ZW p l e R s m args below meth c w 4 H none 0 0 (MQ below (QP w _) args s 1 6 (wA w)) 0 [(0, .ref (wB w + k)), (1, .int (nI x9)), (2, .int (nI y9))] []
        refine z_iload_n CX 2 dL_act_0 rfl rfl ?_
        refine z_bipush CX (v := 32) dL_act_1 (by decide) ?_
        refine z_idiv CX dL_act_3 (by decide) ?_
        refine z_stk (congrArg (fun q9 => [Value.int q9]) ew) ?_
        refine z_istore_n CX 3 dL_act_4 rfl (by decide) ?_
        refine z_iload_n CX 1 dL_act_5 rfl rfl ?_
        refine z_bipush CX (v := 24) dL_act_6 (by decide) ?_
        refine z_irem CX dL_act_8 (by decide) ?_
        refine z_stk (congrArg (fun q9 => [Value.int q9]) ex) ?_
        refine z_tabIn CX 205 dL_act_9 (by decide) (by decide) rfl (by decide) ?_
        refine z_iload_n CX 3 dL_act_205 rfl rfl ?_
        refine z_iconst CX (v := 2) dL_act_206 (by decide) ?_
        refine z_irem CX dL_act_207 (by decide) ?_
        refine z_if_ne CX 223 dL_act_208 (by decide) (fun q9 => absurd q9 (fun z9 => z9 (by rw [e2, hz]; rfl))) (fun _ => ?_)
        refine z_aload_n CX 0 dL_act_211 rfl rfl ?_
        refine z_iload_n CX 3 dL_act_212 rfl rfl ?_
        refine z_iconst CX (v := 2) dL_act_213 (by decide) ?_
        refine z_idiv CX dL_act_214 (by decide) ?_
        refine z_iconst CX (v := 1) dL_act_215 (by decide) ?_
        refine z_iand CX dL_act_216 ?_
        refine z_stk (congrArg (fun q9 => [Value.int q9, Value.ref (wB w + k)]) ej) ?_
        refine z_callSw CX hN dL_act_217 csw_156 hC rfl rfl (Nat.le_of_ble_eq_true rfl) ⟨Nat.le_of_ble_eq_true rfl, Nat.le_of_ble_eq_true rfl⟩ ⟨by omega, by omega⟩ ?_
        refine z_goto CX 232 dL_act_220 (by decide) ?_
        exact z_lretP CX dL_act_232 rfl ⟨hI9, rfl⟩ (by omega) (by omega)
      · obtain ⟨v, σ9, h1, h2⟩ := u_restore (l := l) (w := w) (i := j) (by omega) hσ hl9
        refine ⟨v, σ9, h1, fun hs0 k H hI => ?_⟩
        obtain ⟨H9, hI9, hC⟩ := h2 hs0 k H hI
        refine Cp.of (d := mL_act) (by decide +kernel) (Nat.le_of_ble_eq_true rfl) ?_
        intro p e R s m args below meth c CX hN
        replace CX : Ctx p s m args meth c R w RL "act" cL_act 4 (some .long) 9 179 1 6 := CX
        show ZW p l e R s m args below meth c w 4 H none 0 0 (MQ below (QP w _) args s 1 6 (wA w)) 0 [(0, .ref (wB w + k)), (1, .int (nI x9)), (2, .int (nI y9))] []
        refine z_iload_n CX 2 dL_act_0 rfl rfl ?_
        refine z_bipush CX (v := 32) dL_act_1 (by decide) ?_
        refine z_idiv CX dL_act_3 (by decide) ?_
        refine z_stk (congrArg (fun q9 => [Value.int q9]) ew) ?_
        refine z_istore_n CX 3 dL_act_4 rfl (by decide) ?_
        refine z_iload_n CX 1 dL_act_5 rfl rfl ?_
        refine z_bipush CX (v := 24) dL_act_6 (by decide) ?_
        refine z_irem CX dL_act_8 (by decide) ?_
        refine z_stk (congrArg (fun q9 => [Value.int q9]) ex) ?_
        refine z_tabIn CX 205 dL_act_9 (by decide) (by decide) rfl (by decide) ?_
        refine z_iload_n CX 3 dL_act_205 rfl rfl ?_
        refine z_iconst CX (v := 2) dL_act_206 (by decide) ?_
        refine z_irem CX dL_act_207 (by decide) ?_
        refine z_if_ne CX 223 dL_act_208 (by decide) (fun _ => ?_) (fun q9 => absurd q9 (by rw [e2]; exact nI_ne0 (by omega) (by omega)))
        refine z_aload_n CX 0 dL_act_223 rfl rfl ?_
        refine z_iload_n CX 3 dL_act_224 rfl rfl ?_
        refine z_iconst CX (v := 2) dL_act_225 (by decide) ?_
        refine z_idiv CX dL_act_226 (by decide) ?_
        refine z_iconst CX (v := 1) dL_act_227 (by decide) ?_
        refine z_iand CX dL_act_228 ?_
        refine z_stk (congrArg (fun q9 => [Value.int q9, Value.ref (wB w + k)]) ej) ?_
        refine z_callSw CX hN dL_act_229 csw_158 hC rfl rfl (Nat.le_of_ble_eq_true rfl) ⟨Nat.le_of_ble_eq_true rfl, Nat.le_of_ble_eq_true rfl⟩ ⟨by omega, by omega⟩ ?_
        exact z_lretP CX dL_act_232 rfl ⟨hI9, rfl⟩ (by omega) (by omega)
  · skip
    obtain ⟨v, σ9, h1, h2⟩ := u_minutes (l := l) (w := w) (a := (1 + (nI y9 - nI y9 / 4 * 4))) hσ hl9
    refine ⟨v, σ9, h1, fun hs0 k H hI => ?_⟩
    obtain ⟨H9, hI9, hC⟩ := h2 hs0 k H hI
    refine Cp.of (d := mL_act) (by decide +kernel) (Nat.le_of_ble_eq_true rfl) ?_
    intro p e R s m args below meth c CX hN
    replace CX : Ctx p s m args meth c R w RL "act" cL_act 4 (some .long) 9 179 1 6 := CX
    show ZW p l e R s m args below meth c w 4 H none 0 0 (MQ below (QP w _) args s 1 6 (wA w)) 0 [(0, .ref (wB w + k)), (1, .int (nI x9)), (2, .int (nI y9))] []
    refine z_iload_n CX 2 dL_act_0 rfl rfl ?_
    refine z_bipush CX (v := 32) dL_act_1 (by decide) ?_
    refine z_idiv CX dL_act_3 (by decide) ?_
    refine z_stk (congrArg (fun q9 => [Value.int q9]) ew) ?_
    refine z_istore_n CX 3 dL_act_4 rfl (by decide) ?_
    refine z_iload_n CX 1 dL_act_5 rfl rfl ?_
    refine z_bipush CX (v := 24) dL_act_6 (by decide) ?_
    refine z_irem CX dL_act_8 (by decide) ?_
    refine z_stk (congrArg (fun q9 => [Value.int q9]) ex) ?_
    refine z_tabOut CX 233 dL_act_9 (Or.inr (by rw [nI_toInt (by omega)]; omega)) (by decide) ?_
    refine z_aload_n CX 0 dL_act_233 rfl rfl ?_
    refine z_iconst CX (v := 1) dL_act_234 (by decide) ?_
    refine z_iload_n CX 2 dL_act_235 rfl rfl ?_
    refine z_iconst CX (v := 4) dL_act_236 (by decide) ?_
    refine z_irem CX dL_act_237 (by decide) ?_
    refine z_iadd CX dL_act_238 ?_
    refine z_callSw CX hN dL_act_239 csw_137 hC rfl rfl (Nat.le_of_ble_eq_true rfl) ⟨Nat.le_of_ble_eq_true rfl, Nat.le_of_ble_eq_true rfl⟩ ⟨by omega, by omega⟩ ?_
    exact z_lretP CX dL_act_242 rfl ⟨hI9, rfl⟩ (by omega) (by omega)
end
