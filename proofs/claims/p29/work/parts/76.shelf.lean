/-! a text made; a shelf of tournaments: the object, its places, what is filled, then N tournaments of seven cells -/
set_option maxHeartbeats 4000000 in
set_option maxRecDepth 100000 in
theorem x_init {l : Launch} {w : Wt} {hs : Hs} {k : Nat} (h0 : hs k = some (.inr (3, [.null, .null, .int 0, .int 0, .int 0]))) : Cn l w mX3_init 2 124 [.ref (wB w + k)] hs (some (k + 1)) (XT w hs k (fun _ => 0) (fun _ => 0) (fun _ => 0)) (some (k + 3)) none := by
  refine Cn.of (d := mX3_init) (by decide +kernel) (Nat.le_of_ble_eq_true rfl) ?_
  intro p e R s m args below meth c CX
  replace CX : Ctx p s m args meth c R w RX3 "<init>" cX3_init 1 none 1 20 2 124 := CX
  show ZW p l e R s m args below meth c w 1 _ _ 0 0 (MQ below (Qn w _ _ _) args s 2 124 (wA w)) 0 [(0, .ref (wB w + k))] []
  refine z_aload_n CX 0 dX3_init_0 rfl rfl ?_
  refine z_objinit CX dX3_init_1 (wa_mem 28 (by decide +kernel) rfl) (wa_mem 21 (by decide +kernel) rfl) (wa_mem 22 (by decide +kernel) rfl) (by decide) (Nat.le_of_ble_eq_true rfl) ?_
  refine z_aload_n CX 0 dX3_init_4 rfl rfl ?_
  refine z_bipush CX (v := 120) dX3_init_5 (by decide) ?_
  refine z_newI CX (N := 120) dX3_init_7 (wa_mem 45 (by decide +kernel) rfl) (by decide) (by decide) (by omega) (by omega) (by omega) ?_
  refine z_putF CX dX3_init_9 fg_X3_9 fp_X3_0 rfl fw_X3_9 (fs := [.null, .null, .int 0, .int 0, .int 0]) (by simp [upH, h0, show ¬ k = k + 1 by omega, show ¬ k = k + 1 + 1 by omega, show ¬ k = k + 2 by omega]) (Nat.le_of_ble_eq_true rfl) rfl rfl ?_
  refine z_aload_n CX 0 dX3_init_12 rfl rfl ?_
  refine z_iconst CX (v := 4) dX3_init_13 (by decide) ?_
  refine z_newI CX (N := 4) dX3_init_14 (wa_mem 45 (by decide +kernel) rfl) (by decide) (by decide) (by omega) (by omega) (by omega) ?_
  refine z_putF CX dX3_init_16 fg_X3_15 fp_X3_1 rfl fw_X3_15 (fs := [.ref (wB w + (k + 1)), .null, .int 0, .int 0, .int 0]) (by simp [upH, h0, show ¬ k = k + 1 by omega, show ¬ k = k + 1 + 1 by omega, show ¬ k = k + 2 by omega]) (Nat.le_of_ble_eq_true rfl) rfl rfl ?_
  refine z_heap (show _ = XT w hs k (fun _ => 0) (fun _ => 0) (fun _ => 0) from ?_) ?_
  · funext j
    unfold XT
    by_cases h1 : j = k
    · subst h1; simp [upH]
    by_cases h2 : j = k + 1
    · subst h2; simp [upH]
    by_cases h3 : j = k + 2
    · subst h3; simp [upH]
    rw [if_neg h1, if_neg h2, if_neg h3]
    simp [upH, h1, h2, show ¬ j = k + 1 + 1 by omega, h3]
  exact z_vret CX dX3_init_19 rfl rfl (Or.inl rfl)
/-- a shelf -/
def SH (w : Wt) (hs : Hs) (k N : Nat) (b : Nat → Int32) (F : Nat → Nat → Int32) (X : Nat → Int32) (Z : Nat → Nat → Nat → Int32) : Hs := fun j => if j = k then some (.inr (1, [.ref (wB w + (k + 1)), .ref (wB w + (k + 2))])) else if j = k + 1 then some (.inl (wC w 3, N, .inr (.inr (.inr (.inr (fun i => if i < N then some (wB w + (k + 3 + 7 * i)) else none)))))) else if j = k + 2 then some (.inl (wC w 1, N, .inl b)) else if k + 3 ≤ j ∧ j < k + 3 + 7 * N then some (tcell w (k + 3 + 7 * ((j - (k + 3)) / 7)) (sF (F ((j - (k + 3)) / 7)) (X ((j - (k + 3)) / 7))) (gF (F ((j - (k + 3)) / 7)) (Z ((j - (k + 3)) / 7))) (rF (F ((j - (k + 3)) / 7))) ((j - (k + 3)) % 7)) else hs j
section
variable {w : Wt} {hs : Hs} {k N : Nat} {b : Nat → Int32} {F : Nat → Nat → Int32} {X : Nat → Int32} {Z : Nat → Nat → Nat → Int32}
theorem sh_0 : SH w hs k N b F X Z k = some (.inr (1, [.ref (wB w + (k + 1)), .ref (wB w + (k + 2))])) := if_pos rfl
theorem sh_1 : SH w hs k N b F X Z (k + 1) = some (.inl (wC w 3, N, .inr (.inr (.inr (.inr (fun i => if i < N then some (wB w + (k + 3 + 7 * i)) else none)))))) := by unfold SH; rw [if_neg (by omega), if_pos rfl]
theorem sh_2 : SH w hs k N b F X Z (k + 2) = some (.inl (wC w 1, N, .inl b)) := by unfold SH; rw [if_neg (by omega), if_neg (by omega), if_pos rfl]
theorem sh_t {i c : Nat} (hi : i < N) (hc : c < 7) : SH w hs k N b F X Z (k + 3 + 7 * i + c) = some (tcell w (k + 3 + 7 * i) (sF (F i) (X i)) (gF (F i) (Z i)) (rF (F i)) c) := by
  unfold SH
  rw [if_neg (by omega), if_neg (by omega), if_neg (by omega), if_pos ⟨by omega, by omega⟩, show (k + 3 + 7 * i + c - (k + 3)) / 7 = i by omega, show (k + 3 + 7 * i + c - (k + 3)) % 7 = c by omega]
theorem sh_n {j : Nat} (h : j < k ∨ k + 3 + 7 * N ≤ j) : SH w hs k N b F X Z j = hs j := by unfold SH; rw [if_neg (by omega), if_neg (by omega), if_neg (by omega), if_neg (by omega)]
theorem sh_b {f : Nat → Int32} : upH (SH w hs k N b F X Z) (k + 2) (.inl (wC w 1, N, .inl f)) = SH w hs k N f F X Z := by
  funext j; unfold upH SH
  by_cases h : j = k + 2
  · rw [if_pos h, if_neg (by omega), if_neg (by omega), if_pos h]
  · rw [if_neg h, if_neg h, if_neg h]
/-- the shelf seen as one of its tournaments over the rest -/
theorem sh_T {i : Nat} (hi : i < N) {f : Nat → Int32} {x : Int32} {z : Nat → Nat → Int32} : TH w (SH w hs k N b F X Z) (k + 3 + 7 * i) f x z = SH w hs k N b (fun q => if q = i then f else F q) (fun q => if q = i then x else X q) (fun q => if q = i then z else Z q) := by
  funext j
  show (if k + 3 + 7 * i ≤ j ∧ j < k + 3 + 7 * i + 7 then some (tcell w (k + 3 + 7 * i) (sF f x) (gF f z) (rF f) (j - (k + 3 + 7 * i))) else SH w hs k N b F X Z j) = _
  by_cases h : k + 3 + 7 * i ≤ j ∧ j < k + 3 + 7 * i + 7
  · obtain ⟨c, hc, rfl⟩ : ∃ c, c < 7 ∧ j = k + 3 + 7 * i + c := ⟨j - (k + 3 + 7 * i), by omega, by omega⟩
    rw [if_pos h, sh_t hi hc, show k + 3 + 7 * i + c - (k + 3 + 7 * i) = c by omega, if_pos rfl, if_pos rfl, if_pos rfl]
  · rw [if_neg h]
    unfold SH
    by_cases c1 : k + 3 ≤ j ∧ j < k + 3 + 7 * N
    · have hq : ¬ (j - (k + 3)) / 7 = i := by omega
      rw [if_pos c1, if_pos c1]
      simp only [if_neg hq]
    · rw [if_neg c1, if_neg c1]
theorem sh_S {i : Nat} (hi : i < N) : TH w (SH w hs k N b F X Z) (k + 3 + 7 * i) (F i) (X i) (Z i) = SH w hs k N b F X Z := by
  rw [sh_T hi]
  congr 1
  · funext q; by_cases e : q = i
    · rw [if_pos e, e]
    · rw [if_neg e]
  · funext q; by_cases e : q = i
    · rw [if_pos e, e]
    · rw [if_neg e]
  · funext q; by_cases e : q = i
    · rw [if_pos e, e]
    · rw [if_neg e]
end
