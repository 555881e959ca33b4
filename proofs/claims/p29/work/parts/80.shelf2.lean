/-! a shelf made -/
def z00 : Nat → Int32 := fun _ => 0
theorem va9 {i : Nat} {v : Nat → Nat} (q : Nat) : va_up (fun q => if q < i then some (v q) else none) i (some (v i)) q = if q < i + 1 then some (v q) else none := by
  unfold va_up
  by_cases h9 : q = i
  · subst h9
    rw [if_pos (show q < q + 1 by omega)]
    exact if_pos rfl
  · refine (if_neg h9).trans ?_
    by_cases h : q < i
    · rw [if_pos (show q < i + 1 by omega)]; exact if_pos h
    · rw [if_neg (show ¬ q < i + 1 by omega)]; exact if_neg h
def SP (w : Wt) (hs : Hs) (k N i : Nat) : Hs := fun j => if j = k then some (.inr (1, [.ref (wB w + (k + 1)), .ref (wB w + (k + 2))])) else if j = k + 1 then some (.inl (wC w 3, N, .inr (.inr (.inr (.inr (fun q => if q < i then some (wB w + (k + 3 + 7 * q)) else none)))))) else if j = k + 2 then some (.inl (wC w 1, N, .inl (fun _ => 0))) else if k + 3 ≤ j ∧ j < k + 3 + 7 * i then some (tcell w (k + 3 + 7 * ((j - (k + 3)) / 7)) (sF (frF z00) 0) (gF (frF z00) (fun _ _ => 0)) (rF (frF z00)) ((j - (k + 3)) % 7)) else hs j
section
variable {w : Wt} {hs : Hs} {k N i : Nat}
theorem sp_0 : SP w hs k N i k = some (.inr (1, [.ref (wB w + (k + 1)), .ref (wB w + (k + 2))])) := if_pos rfl
theorem sp_1 : SP w hs k N i (k + 1) = some (.inl (wC w 3, N, .inr (.inr (.inr (.inr (fun q => if q < i then some (wB w + (k + 3 + 7 * q)) else none)))))) := by unfold SP; rw [if_neg (by omega), if_pos rfl]
theorem sp_N : SP w hs k N N = SH w hs k N (fun _ => 0) (fun _ => frF z00) (fun _ => 0) (fun _ _ _ => 0) := rfl
theorem sp_s {v : va_E} (f9 : Nat → Option Nat) (hf : ∀ q, f9 q = if q < i + 1 then some (wB w + (k + 3 + 7 * q)) else none) : upH (TH w (upH (SP w hs k N i) (k + 3 + 7 * i) v) (k + 3 + 7 * i) (frF z00) 0 (fun _ _ => 0)) (k + 1) (.inl (wC w 3, N, .inr (.inr (.inr (.inr f9))))) = SP w hs k N (i + 1) := by
  have hf9 : f9 = fun q => if q < i + 1 then some (wB w + (k + 3 + 7 * q)) else none := funext hf
  subst hf9
  funext j
  by_cases h1 : j = k + 1
  · subst h1
    rw [sp_1]; exact if_pos rfl
  · show (if j = k + 1 then _ else TT w (upH (SP w hs k N i) (k + 3 + 7 * i) v) (k + 3 + 7 * i) (sF (frF z00) 0) (gF (frF z00) (fun _ _ => 0)) (rF (frF z00)) j) = _
    rw [if_neg h1]
    by_cases h : k + 3 + 7 * i ≤ j ∧ j < k + 3 + 7 * i + 7
    · obtain ⟨q, hq, rfl⟩ : ∃ q, q < 7 ∧ j = k + 3 + 7 * i + q := ⟨j - (k + 3 + 7 * i), by omega, by omega⟩
      rw [to_i hq]
      unfold SP
      rw [if_neg (by omega), if_neg (by omega), if_neg (by omega), if_pos ⟨by omega, by omega⟩, show (k + 3 + 7 * i + q - (k + 3)) / 7 = i by omega, show (k + 3 + 7 * i + q - (k + 3)) % 7 = q by omega]
    · rw [to_n (by omega), upH_n (by omega)]
      unfold SP
      rw [if_neg h1, if_neg h1]
      by_cases c1 : k + 3 ≤ j ∧ j < k + 3 + 7 * i
      · rw [if_pos c1, if_pos (show k + 3 ≤ j ∧ j < k + 3 + 7 * (i + 1) by omega)]
      · rw [if_neg c1, if_neg (show ¬ (k + 3 ≤ j ∧ j < k + 3 + 7 * (i + 1)) by omega)]
end
theorem mx0 {N : Nat} (h : N < 2 ^ 31) : (if (0 : Int32) < nI N then nI N else 0) = nI N := by
  by_cases c : N = 0
  · subst c; decide
  · rw [if_pos (show (0 : Int32) < nI N from nI_lt (a := 0) (by omega) h)]
set_option maxHeartbeats 4000000 in
set_option maxRecDepth 100000 in
theorem h_init {l : Launch} {w : Wt} {hs : Hs} {k N : Nat} (hN : N ≤ 100) (h0 : hs k = some (.inr (1, [.null, .null]))) : Cn l w mX1_init (2 + 7 * N) (2 * N + 165 * N) [.ref (wB w + k), .int (nI N)] hs (some (k + 1)) (SP w hs k N N) (some (k + 3 + 7 * N)) none := by
  refine Cn.of (d := mX1_init) (by decide +kernel) (Nat.le_of_ble_eq_true rfl) ?_
  intro p e R s m args below meth c CX
  replace CX : Ctx p s m args meth c R w RX1 "<init>" cX1_init 4 none 3 66 (2 + 7 * N) (2 * N + 165 * N) := CX
  show ZW p l e R s m args below meth c w 4 _ _ 0 0 (MQ below (Qn w _ _ _) args s (2 + 7 * N) (2 * N + 165 * N) (wA w)) 0 [(0, .ref (wB w + k)), (1, .int _)] []
  have LP : ∀ (j i : Nat), i + j = N → ZW p l e R s m args below meth c w 4 (SP w hs k N i) (some (k + 3 + 7 * i)) (2 + 7 * i) (2 * N + 165 * i) (MQ below (Qn w (SP w hs k N N) (some (k + 3 + 7 * N)) none) args s (2 + 7 * N) (2 * N + 165 * N) (wA w)) 27 [(0, .ref (wB w + k)), (1, .int (nI N)), (2, .int (nI N)), (3, .int (nI i))] [] := by
    intro j
    induction j with
    | zero =>
      intro i hi
      have hi9 : i = N := by omega
      subst hi9
      refine z_iload_n CX 3 dX1_init_27 rfl rfl ?_
      refine z_aload_n CX 0 dX1_init_28 rfl rfl ?_
      refine z_get CX dX1_init_29 fg_X1_15 sp_0 rfl ?_
      refine z_alen CX 3 dX1_init_32 sp_1 rfl rfl ?_
      refine z_icmp_ge CX 55 dX1_init_33 (by decide) (fun _ => ?_) (fun q9 => absurd (nI_le (Nat.le_refl _) (by omega)) q9)
      exact z_vret CX dX1_init_55 rfl rfl (Or.inl rfl)
    | succ j ih =>
      intro i hi
      refine z_iload_n CX 3 dX1_init_27 rfl rfl ?_
      refine z_aload_n CX 0 dX1_init_28 rfl rfl ?_
      refine z_get CX dX1_init_29 fg_X1_15 sp_0 rfl ?_
      refine z_alen CX 3 dX1_init_32 sp_1 rfl rfl ?_
      refine z_icmp_ge CX 55 dX1_init_33 (by decide) (fun q9 => absurd q9 (nI_ge (b := N) (by omega) (by omega))) (fun _ => ?_)
      refine z_aload_n CX 0 dX1_init_36 rfl rfl ?_
      refine z_get CX dX1_init_37 fg_X1_15 sp_0 rfl ?_
      refine z_iload_n CX 3 dX1_init_40 rfl rfl ?_
      refine z_new CX (k := k + 3 + 7 * i) dX1_init_41 fn_X1_13 (by omega) (by omega) ?_
      refine z_dup CX dX1_init_44 rfl ?_
      refine z_callI CX dX1_init_45 ci_X1_25 (t_init (k := k + 3 + 7 * i) z00 (upH_s _ _ _)) rfl rfl (Nat.le_of_ble_eq_true rfl) ⟨Nat.le_of_ble_eq_true rfl, Nat.le_of_ble_eq_true rfl⟩ ⟨by omega, by omega⟩ ?_
      refine z_aast CX (j := k + 3 + 7 * i) dX1_init_48 ((to_n (by omega)).trans ((upH_n (by omega)).trans sp_1)) to_0 (vp_in_nI (by omega) (by omega)) ?_
      refine z_heap (sp_s _ (fun q => by rw [nI_clamp (by omega)]; exact va9 (v := fun q => wB w + (k + 3 + 7 * q)) q)) ?_
      refine z_iinc CX (v := nI (i + 1)) dX1_init_49 rfl (nI_1 i) (by decide) ?_
      refine z_goto CX 27 dX1_init_52 (by decide) ?_
      refine z_loc [(0, .ref (wB w + k)), (1, .int (nI N)), (2, .int (nI N)), (3, .int (nI (i + 1)))] ⟨rfl, rfl, rfl, rfl, trivial⟩ ?_
      have hh9 := ih (i + 1) (by omega)
      rw [show k + 3 + 7 * (i + 1) = k + 3 + 7 * i + 7 by omega, show 2 + 7 * (i + 1) = 2 + 7 * i + 1 + 6 by omega, show 2 * N + 165 * (i + 1) = 2 * N + 165 * i + 10 + 155 by omega] at hh9
      exact hh9
  refine z_aload_n CX 0 dX1_init_0 rfl rfl ?_
  refine z_objinit CX dX1_init_1 (wa_mem 132 (by decide +kernel) rfl) (wa_mem 21 (by decide +kernel) rfl) (wa_mem 22 (by decide +kernel) rfl) (by decide) (Nat.le_of_ble_eq_true rfl) ?_
  refine z_iconst CX (v := 0) dX1_init_4 (by decide) ?_
  refine z_iload_n CX 1 dX1_init_5 rfl rfl ?_
  refine z_max CX dX1_init_6 (wa_mem 133 (by decide +kernel) rfl) (wa_mem 59 (by decide +kernel) rfl) (wa_mem 5 (by decide +kernel) rfl) (wa_mem 60 (by decide +kernel) rfl) (by decide) (Nat.le_of_ble_eq_true rfl) (Nat.zero_le _) (Nat.zero_le _) ?_
  rw [show (if (0 : Int32) < nI N then nI N else 0) = nI N from mx0 (by omega)]
  refine z_istore_n CX 2 dX1_init_9 rfl (by decide) ?_
  refine z_aload_n CX 0 dX1_init_10 rfl rfl ?_
  refine z_iload_n CX 2 dX1_init_11 rfl rfl ?_
  refine z_anew CX (N := N) dX1_init_12 (wa_mem 134 (by decide +kernel) rfl) (nI_pos (by omega)) (nI_clamp (by omega)) (by omega) (by omega) (by omega) ?_
  refine z_putF CX dX1_init_15 fg_X1_15 fp_X1_0 rfl fw_X1_15 (fs := [.null, .null]) (by simp [upH, h0]) (Nat.le_of_ble_eq_true rfl) rfl rfl ?_
  refine z_aload_n CX 0 dX1_init_18 rfl rfl ?_
  refine z_iload_n CX 2 dX1_init_19 rfl rfl ?_
  refine z_newZ CX (N := N) dX1_init_20 (wa_mem 144 (by decide +kernel) rfl) (nI_pos (by omega)) (nI_clamp (by omega)) (by omega) (by omega) (by omega) ?_
  refine z_putF CX dX1_init_22 fg_X1_21 fp_X1_1 rfl fw_X1_21 (fs := [.ref (wB w + (k + 1)), .null]) (by simp [upH, h0, show ¬ k = k + 1 + 1 by omega]) (Nat.le_of_ble_eq_true rfl) rfl rfl ?_
  refine z_iconst CX (v := 0) dX1_init_25 (by decide) ?_
  refine z_istore_n CX 3 dX1_init_26 rfl (by decide) ?_
  refine z_heap (show _ = SP w hs k N 0 from ?_) ?_
  · funext j
    unfold SP
    by_cases h1 : j = k
    · subst h1; simp [upH]
    by_cases h2 : j = k + 1
    · subst h2; simp [upH]
    by_cases h3 : j = k + 2
    · subst h3; simp [upH]
    rw [if_neg h1, if_neg h2, if_neg h3, if_neg (by omega)]
    simp [upH, h1, h2, show ¬ j = k + 1 + 1 by omega, h3]
  refine z_loc [(0, .ref (wB w + k)), (1, .int (nI N)), (2, .int (nI N)), (3, .int (nI 0))] ⟨rfl, rfl, rfl, rfl, trivial⟩ ?_
  have hh9 := LP N 0 (by omega)
  rw [show 2 * N + 165 * 0 = 0 + N + N by omega] at hh9
  exact hh9
