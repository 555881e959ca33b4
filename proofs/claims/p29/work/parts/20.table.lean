/-! TABLE: an object and its cells, the one behind the other -/
def tabH (w : Wt) (hs : Hs) (k C len r : Nat) (f : Nat → Int32) : Hs := upH (upH hs k (.inr (2, [.int (nI C), .ref (wB w + (k + 1)), .int (nI r)]))) (k + 1) (.inl (wC w 0, len, .inl f))
theorem tab_0 {w : Wt} {hs : Hs} {k C len r : Nat} {f : Nat → Int32} : tabH w hs k C len r f k = some (.inr (2, [.int (nI C), .ref (wB w + (k + 1)), .int (nI r)])) := by simp [tabH, upH]
theorem tab_1 {w : Wt} {hs : Hs} {k C len r : Nat} {f : Nat → Int32} : tabH w hs k C len r f (k + 1) = some (.inl (wC w 0, len, .inl f)) := by simp [tabH, upH]
theorem tab_n {w : Wt} {hs : Hs} {k C len r j : Nat} {f : Nat → Int32} (h : j < k ∨ k + 1 < j) : tabH w hs k C len r f j = hs j := by
  have h1 : ¬ j = k + 1 := by omega
  have h2 : ¬ j = k := by omega
  simp [tabH, upH, h1, h2]
theorem tab_u0 {w : Wt} {hs : Hs} {k C len r r' : Nat} {f : Nat → Int32} {x : Int32} (hx : x = nI r') : upH (tabH w hs k C len r f) k (.inr (2, [.int (nI C), .ref (wB w + (k + 1)), .int x])) = tabH w hs k C len r' f := by
  subst hx
  funext j
  unfold tabH upH
  by_cases h1 : j = k + 1
  · subst h1; simp
  · by_cases h2 : j = k
    · subst h2; simp
    · simp [h1, h2]
theorem tab_u1 {w : Wt} {hs : Hs} {k C len r : Nat} {f f' : Nat → Int32} : upH (tabH w hs k C len r f) (k + 1) (.inl (wC w 0, len, .inl f')) = tabH w hs k C len r f' := by
  unfold tabH; rw [upH_up]
theorem tab_self {w : Wt} {hs : Hs} {k C len r : Nat} {f : Nat → Int32} (h0 : hs k = some (.inr (2, [.int (nI C), .ref (wB w + (k + 1)), .int (nI r)]))) (h1 : hs (k + 1) = some (.inl (wC w 0, len, .inl f))) : tabH w hs k C len r f = hs := by
  funext j
  unfold tabH upH
  by_cases g1 : j = k + 1
  · subst g1; simp [h1]
  · by_cases g2 : j = k
    · subst g2; simp [h0]
    · simp [g1, g2]
theorem nIx {x : Int32} {r : Nat} (hr : r < 2 ^ 31) (h0 : ¬ x < 0) (h1 : ¬ nI r ≤ x) : ∃ a, a < r ∧ x = nI a := by
  obtain ⟨a, ha, rfl⟩ := nI_of h0
  refine ⟨a, ?_, rfl⟩
  rcases Nat.lt_or_ge a r with q | q
  · exact q
  · exact absurd (nI_le q ha) h1
theorem mulx {a b r C : Nat} (ha : a < r) (hb : b < C) : a * C + b < r * C := by
  have h : (a + 1) * C ≤ r * C := Nat.mul_le_mul_right C ha
  rw [Nat.succ_mul] at h
  omega
/-- what a table answers, what it holds behind a put -/
def atV (C r : Nat) (f : Nat → Int32) (x y : Int32) : Int32 := if 0 ≤ x ∧ x < nI r ∧ 0 ≤ y ∧ y < nI C then f (x.toNatClampNeg * C + y.toNatClampNeg) else -1
def ptV (C r : Nat) (f : Nat → Int32) (x y v : Int32) : Nat → Int32 := if 0 ≤ x ∧ x < nI r ∧ 0 ≤ y ∧ y < nI C then upd f (x.toNatClampNeg * C + y.toNatClampNeg) v else f
theorem atV_in {C r a b : Nat} {f : Nat → Int32} (hr : r < 2 ^ 31) (hC : C < 2 ^ 31) (ha : a < r) (hb : b < C) : atV C r f (nI a) (nI b) = f (a * C + b) := by
  have h1 : a < 2 ^ 31 := by omega
  have h2 : b < 2 ^ 31 := by omega
  unfold atV
  rw [if_pos ⟨nI_pos' h1, nI_lt ha hr, nI_pos' h2, nI_lt hb hC⟩, nI_clamp h1, nI_clamp h2]
theorem ptV_in {C r a b : Nat} {f : Nat → Int32} {v : Int32} (hr : r < 2 ^ 31) (hC : C < 2 ^ 31) (ha : a < r) (hb : b < C) : ptV C r f (nI a) (nI b) v = upd f (a * C + b) v := by
  have h1 : a < 2 ^ 31 := by omega
  have h2 : b < 2 ^ 31 := by omega
  unfold ptV
  rw [if_pos ⟨nI_pos' h1, nI_lt ha hr, nI_pos' h2, nI_lt hb hC⟩, nI_clamp h1, nI_clamp h2]
set_option maxHeartbeats 4000000 in
set_option maxRecDepth 100000 in
theorem c_at {l : Launch} {w : Wt} {hs : Hs} {n : Option Nat} {k cn len r : Nat} {f : Nat → Int32} (hr : r < 1000) (hC : cn < 1000) (hlen : r * cn ≤ len) (hl9 : len < 2 ^ 20) (x y : Int32) : Cn l w mX2_at 0 0 [.ref (wB w + k), .int x, .int y] (tabH w hs k cn len r f) n (tabH w hs k cn len r f) n (some (.int (atV cn r f x y))) := by
  refine Cn.of (d := mX2_at) (by decide +kernel) (Nat.le_of_ble_eq_true rfl) ?_
  intro p e R s m args below meth c CX
  replace CX : Ctx p s m args meth c R w RX2 "at" cX2_at 4 (some .int) 0 0 0 0 := CX
  show ZW p l e R s m args below meth c w 4 _ _ 0 0 (MQ below (Qn w _ _ _) args s 0 0 (wA w)) 0 [(0, .ref (wB w + k)), (1, .int x), (2, .int y)] []
  refine z_iload_n CX 1 dX2_at_0 rfl rfl ?_
  refine z_aload_n CX 0 dX2_at_1 rfl rfl ?_
  refine z_get CX dX2_at_2 fg_X2_15 tab_0 rfl ?_
  refine z_imul CX dX2_at_5 ?_
  refine z_iload_n CX 2 dX2_at_6 rfl rfl ?_
  refine z_iadd CX dX2_at_7 ?_
  refine z_istore_n CX 3 dX2_at_8 rfl (by decide) ?_
  refine z_iload_n CX 1 dX2_at_9 rfl rfl ?_
  refine z_if_lt CX 51 dX2_at_10 (by decide) (fun c_10 => ?_) (fun c_10 => ?_)
  · skip
    refine z_iconst CX (v := -1) dX2_at_51 (by decide) ?_
    exact z_iret CX dX2_at_52 rfl (congrArg Value.int (by unfold atV; rw [if_neg (by rintro ⟨q1, q2, q3, q4⟩; first | exact absurd q1 (Int32.not_le.mpr (by assumption)) | exact absurd q2 (Int32.not_lt.mpr (by assumption)) | exact absurd q3 (Int32.not_le.mpr (by assumption)) | exact absurd q4 (Int32.not_lt.mpr (by assumption)))])) rfl (Or.inl rfl)
  · skip
    refine z_iload_n CX 1 dX2_at_13 rfl rfl ?_
    refine z_aload_n CX 0 dX2_at_14 rfl rfl ?_
    refine z_get CX dX2_at_15 fg_X2_25 tab_0 rfl ?_
    refine z_icmp_ge CX 51 dX2_at_18 (by decide) (fun c_18 => ?_) (fun c_18 => ?_)
    · skip
      refine z_iconst CX (v := -1) dX2_at_51 (by decide) ?_
      exact z_iret CX dX2_at_52 rfl (congrArg Value.int (by unfold atV; rw [if_neg (by rintro ⟨q1, q2, q3, q4⟩; first | exact absurd q1 (Int32.not_le.mpr (by assumption)) | exact absurd q2 (Int32.not_lt.mpr (by assumption)) | exact absurd q3 (Int32.not_le.mpr (by assumption)) | exact absurd q4 (Int32.not_lt.mpr (by assumption)))])) rfl (Or.inl rfl)
    · skip
      refine z_iload_n CX 2 dX2_at_21 rfl rfl ?_
      refine z_if_lt CX 51 dX2_at_22 (by decide) (fun c_22 => ?_) (fun c_22 => ?_)
      · skip
        refine z_iconst CX (v := -1) dX2_at_51 (by decide) ?_
        exact z_iret CX dX2_at_52 rfl (congrArg Value.int (by unfold atV; rw [if_neg (by rintro ⟨q1, q2, q3, q4⟩; first | exact absurd q1 (Int32.not_le.mpr (by assumption)) | exact absurd q2 (Int32.not_lt.mpr (by assumption)) | exact absurd q3 (Int32.not_le.mpr (by assumption)) | exact absurd q4 (Int32.not_lt.mpr (by assumption)))])) rfl (Or.inl rfl)
      · skip
        refine z_iload_n CX 2 dX2_at_25 rfl rfl ?_
        refine z_aload_n CX 0 dX2_at_26 rfl rfl ?_
        refine z_get CX dX2_at_27 fg_X2_15 tab_0 rfl ?_
        refine z_icmp_ge CX 51 dX2_at_30 (by decide) (fun c_30 => ?_) (fun c_30 => ?_)
        · skip
          refine z_iconst CX (v := -1) dX2_at_51 (by decide) ?_
          exact z_iret CX dX2_at_52 rfl (congrArg Value.int (by unfold atV; rw [if_neg (by rintro ⟨q1, q2, q3, q4⟩; first | exact absurd q1 (Int32.not_le.mpr (by assumption)) | exact absurd q2 (Int32.not_lt.mpr (by assumption)) | exact absurd q3 (Int32.not_le.mpr (by assumption)) | exact absurd q4 (Int32.not_lt.mpr (by assumption)))])) rfl (Or.inl rfl)
        · skip
          obtain ⟨a, ha, rfl⟩ := nIx (r := r) (by omega) c_10 c_18
          obtain ⟨b, hb9, rfl⟩ := nIx (r := cn) (by omega) c_22 c_30
          have hi : a * cn + b < len := Nat.lt_of_lt_of_le (mulx ha hb9) hlen
          rw [pk_mul, nI_add]
          refine z_iload_n CX 3 dX2_at_33 rfl rfl ?_
          refine z_aload_n CX 0 dX2_at_34 rfl rfl ?_
          refine z_get CX dX2_at_35 fg_X2_21 tab_0 rfl ?_
          refine z_alen CX 0 dX2_at_38 tab_1 rfl rfl ?_
          refine z_icmp_ge CX 51 dX2_at_39 (by decide) (fun q9 => absurd q9 (nI_ge hi (by omega))) (fun _ => ?_)
          refine z_aload_n CX 0 dX2_at_42 rfl rfl ?_
          refine z_get CX dX2_at_43 fg_X2_21 tab_0 rfl ?_
          refine z_iload_n CX 3 dX2_at_46 rfl rfl ?_
          refine z_iald CX dX2_at_47 tab_1 (vp_in_nI hi (by omega)) rfl ?_
          refine z_goto CX 52 dX2_at_48 (by decide) ?_
          exact z_iret CX dX2_at_52 rfl (by rw [atV_in (by omega) (by omega) ha hb9, nI_clamp (by omega)]) rfl (Or.inl rfl)
set_option maxHeartbeats 4000000 in
set_option maxRecDepth 100000 in
theorem c_put {l : Launch} {w : Wt} {hs : Hs} {n : Option Nat} {k cn len r : Nat} {f : Nat → Int32} (hr : r < 1000) (hC : cn < 1000) (hlen : r * cn ≤ len) (hl9 : len < 2 ^ 20) (x y v : Int32) : Cn l w mX2_put 0 0 [.ref (wB w + k), .int x, .int y, .int v] (tabH w hs k cn len r f) n (tabH w hs k cn len r (ptV cn r f x y v)) n none := by
  refine Cn.of (d := mX2_put) (by decide +kernel) (Nat.le_of_ble_eq_true rfl) ?_
  intro p e R s m args below meth c CX
  replace CX : Ctx p s m args meth c R w RX2 "put" cX2_put 5 none 0 0 0 0 := CX
  show ZW p l e R s m args below meth c w 5 _ _ 0 0 (MQ below (Qn w _ _ _) args s 0 0 (wA w)) 0 [(0, .ref (wB w + k)), (1, .int x), (2, .int y), (3, .int v)] []
  refine z_iload_n CX 1 dX2_put_0 rfl rfl ?_
  refine z_aload_n CX 0 dX2_put_1 rfl rfl ?_
  refine z_get CX dX2_put_2 fg_X2_15 tab_0 rfl ?_
  refine z_imul CX dX2_put_5 ?_
  refine z_iload_n CX 2 dX2_put_6 rfl rfl ?_
  refine z_iadd CX dX2_put_7 ?_
  refine z_istore CX dX2_put_8 (by decide) ?_
  refine z_iload_n CX 1 dX2_put_10 rfl rfl ?_
  refine z_if_lt CX 52 dX2_put_11 (by decide) (fun c_11 => ?_) (fun c_11 => ?_)
  · skip
    exact z_vret CX dX2_put_52 rfl (by unfold ptV; rw [if_neg (by rintro ⟨q1, q2, q3, q4⟩; first | exact absurd q1 (Int32.not_le.mpr (by assumption)) | exact absurd q2 (Int32.not_lt.mpr (by assumption)) | exact absurd q3 (Int32.not_le.mpr (by assumption)) | exact absurd q4 (Int32.not_lt.mpr (by assumption)))]) (Or.inl rfl)
  · skip
    refine z_iload_n CX 1 dX2_put_14 rfl rfl ?_
    refine z_aload_n CX 0 dX2_put_15 rfl rfl ?_
    refine z_get CX dX2_put_16 fg_X2_25 tab_0 rfl ?_
    refine z_icmp_ge CX 52 dX2_put_19 (by decide) (fun c_19 => ?_) (fun c_19 => ?_)
    · skip
      exact z_vret CX dX2_put_52 rfl (by unfold ptV; rw [if_neg (by rintro ⟨q1, q2, q3, q4⟩; first | exact absurd q1 (Int32.not_le.mpr (by assumption)) | exact absurd q2 (Int32.not_lt.mpr (by assumption)) | exact absurd q3 (Int32.not_le.mpr (by assumption)) | exact absurd q4 (Int32.not_lt.mpr (by assumption)))]) (Or.inl rfl)
    · skip
      refine z_iload_n CX 2 dX2_put_22 rfl rfl ?_
      refine z_if_lt CX 52 dX2_put_23 (by decide) (fun c_23 => ?_) (fun c_23 => ?_)
      · skip
        exact z_vret CX dX2_put_52 rfl (by unfold ptV; rw [if_neg (by rintro ⟨q1, q2, q3, q4⟩; first | exact absurd q1 (Int32.not_le.mpr (by assumption)) | exact absurd q2 (Int32.not_lt.mpr (by assumption)) | exact absurd q3 (Int32.not_le.mpr (by assumption)) | exact absurd q4 (Int32.not_lt.mpr (by assumption)))]) (Or.inl rfl)
      · skip
        refine z_iload_n CX 2 dX2_put_26 rfl rfl ?_
        refine z_aload_n CX 0 dX2_put_27 rfl rfl ?_
        refine z_get CX dX2_put_28 fg_X2_15 tab_0 rfl ?_
        refine z_icmp_ge CX 52 dX2_put_31 (by decide) (fun c_31 => ?_) (fun c_31 => ?_)
        · skip
          exact z_vret CX dX2_put_52 rfl (by unfold ptV; rw [if_neg (by rintro ⟨q1, q2, q3, q4⟩; first | exact absurd q1 (Int32.not_le.mpr (by assumption)) | exact absurd q2 (Int32.not_lt.mpr (by assumption)) | exact absurd q3 (Int32.not_le.mpr (by assumption)) | exact absurd q4 (Int32.not_lt.mpr (by assumption)))]) (Or.inl rfl)
        · skip
          obtain ⟨a, ha, rfl⟩ := nIx (r := r) (by omega) c_11 c_19
          obtain ⟨b, hb9, rfl⟩ := nIx (r := cn) (by omega) c_23 c_31
          have hi : a * cn + b < len := Nat.lt_of_lt_of_le (mulx ha hb9) hlen
          rw [pk_mul, nI_add]
          refine z_iload CX dX2_put_34 rfl ?_
          refine z_aload_n CX 0 dX2_put_36 rfl rfl ?_
          refine z_get CX dX2_put_37 fg_X2_21 tab_0 rfl ?_
          refine z_alen CX 0 dX2_put_40 tab_1 rfl rfl ?_
          refine z_icmp_ge CX 52 dX2_put_41 (by decide) (fun q9 => absurd q9 (nI_ge hi (by omega))) (fun _ => ?_)
          refine z_aload_n CX 0 dX2_put_44 rfl rfl ?_
          refine z_get CX dX2_put_45 fg_X2_21 tab_0 rfl ?_
          refine z_iload CX dX2_put_48 rfl ?_
          refine z_iload_n CX 3 dX2_put_50 rfl rfl ?_
          refine z_iast CX dX2_put_51 tab_1 (vp_in_nI hi (by omega)) ?_
          refine z_heap tab_u1 ?_
          exact z_vret CX dX2_put_52 rfl (by rw [ptV_in (by omega) (by omega) ha hb9, nI_clamp (by omega)]) (Or.inl rfl)
set_option maxHeartbeats 4000000 in
set_option maxRecDepth 100000 in
theorem c_inc {l : Launch} {w : Wt} {hs : Hs} {n : Option Nat} {k cn len r : Nat} {f : Nat → Int32} (hr : r < 1000) (hC : cn < 1000) (hlen : r * cn ≤ len) (hl9 : len < 2 ^ 20) (x y v : Int32) : Cn l w mX2_increase 0 0 [.ref (wB w + k), .int x, .int y, .int v] (tabH w hs k cn len r f) n (tabH w hs k cn len r (ptV cn r f x y (atV cn r f x y + v))) n none := by
  refine Cn.of (d := mX2_increase) (by decide +kernel) (Nat.le_of_ble_eq_true rfl) ?_
  intro p e R s m args below meth c CX
  replace CX : Ctx p s m args meth c R w RX2 "increase" cX2_increase 4 none 1 24 0 0 := CX
  show ZW p l e R s m args below meth c w 4 _ _ 0 0 (MQ below (Qn w _ _ _) args s 0 0 (wA w)) 0 [(0, .ref (wB w + k)), (1, .int x), (2, .int y), (3, .int v)] []
  refine z_aload_n CX 0 dX2_increase_0 rfl rfl ?_
  refine z_iload_n CX 1 dX2_increase_1 rfl rfl ?_
  refine z_iload_n CX 2 dX2_increase_2 rfl rfl ?_
  refine z_aload_n CX 0 dX2_increase_3 rfl rfl ?_
  refine z_iload_n CX 1 dX2_increase_4 rfl rfl ?_
  refine z_iload_n CX 2 dX2_increase_5 rfl rfl ?_
  refine z_callV1 CX dX2_increase_6 cv_X2_28 (c_at hr hC hlen hl9 x y) tab_0 rfl rfl (Nat.le_of_ble_eq_true rfl) ⟨Nat.le_of_ble_eq_true rfl, Nat.le_of_ble_eq_true rfl⟩ ⟨Nat.le_refl _, Nat.le_refl _⟩ ?_
  refine z_iload_n CX 3 dX2_increase_9 rfl rfl ?_
  refine z_iadd CX dX2_increase_10 ?_
  refine z_callV0 CX dX2_increase_11 cv_X2_31 (c_put hr hC hlen hl9 x y _) tab_0 rfl rfl (Nat.le_of_ble_eq_true rfl) ⟨Nat.le_of_ble_eq_true rfl, Nat.le_of_ble_eq_true rfl⟩ ⟨Nat.le_refl _, Nat.le_refl _⟩ ?_
  exact z_vret CX dX2_increase_14 rfl rfl (Or.inl rfl)
def cntN (P : Nat → Bool) : Nat → Nat
  | 0 => 0
  | n + 1 => cntN P n + (if P n then 1 else 0)
theorem cntN_le (P : Nat → Bool) : ∀ n, cntN P n ≤ n
  | 0 => Nat.le_refl 0
  | n + 1 => by
    have := cntN_le P n
    unfold cntN
    split <;> omega
set_option maxHeartbeats 4000000 in
set_option maxRecDepth 100000 in
theorem c_sum {l : Launch} {w : Wt} {hs : Hs} {n : Option Nat} {k cn len r : Nat} {f : Nat → Int32} (hr : r < 1000) (hC : cn < 1000) (hlen : r * cn ≤ len) (hl9 : len < 2 ^ 20) {b : Nat} (hb : b < cn) : Cn l w mX2_sum 0 0 [.ref (wB w + k), .int (nI b)] (tabH w hs k cn len r f) n (tabH w hs k cn len r f) n (some (.int (bx_sum (fun a => f (a * cn + b)) r))) := by
  refine Cn.of (d := mX2_sum) (by decide +kernel) (Nat.le_of_ble_eq_true rfl) ?_
  intro p e R s m args below meth c CX
  replace CX : Ctx p s m args meth c R w RX2 "sum" cX2_sum 4 (some .int) 1 23 0 0 := CX
  show ZW p l e R s m args below meth c w 4 _ _ 0 0 (MQ below (Qn w _ _ _) args s 0 0 (wA w)) 0 [(0, .ref (wB w + k)), (1, .int (nI b))] []
  have LP : ∀ (j i : Nat), i + j = r → ZW p l e R s m args below meth c w 4 (tabH w hs k cn len r f) n 0 0 (MQ below (Qn w (tabH w hs k cn len r f) n (some (.int (bx_sum (fun a => f (a * cn + b)) r)))) args s 0 0 (wA w)) 4 [(0, .ref (wB w + k)), (1, .int (nI b)), (2, .int (bx_sum (fun a => f (a * cn + b)) i)), (3, .int (nI i))] [] := by
    intro j
    induction j with
    | zero =>
      intro i hi
      refine z_iload_n CX 3 dX2_sum_4 rfl rfl ?_
      refine z_aload_n CX 0 dX2_sum_5 rfl rfl ?_
      refine z_get CX dX2_sum_6 fg_X2_25 tab_0 rfl ?_
      refine z_icmp_ge CX 27 dX2_sum_9 (by decide) (fun _ => ?_) (fun q9 => absurd (nI_le (by omega) (by omega)) q9)
      refine z_iload_n CX 2 dX2_sum_27 rfl rfl ?_
      exact z_iret CX dX2_sum_28 rfl (by rw [show i = r by omega]) rfl (Or.inl rfl)
    | succ j ih =>
      intro i hi
      refine z_iload_n CX 3 dX2_sum_4 rfl rfl ?_
      refine z_aload_n CX 0 dX2_sum_5 rfl rfl ?_
      refine z_get CX dX2_sum_6 fg_X2_25 tab_0 rfl ?_
      refine z_icmp_ge CX 27 dX2_sum_9 (by decide) (fun q9 => absurd q9 (nI_ge (by omega) (by omega))) (fun _ => ?_)
      refine z_iload_n CX 2 dX2_sum_12 rfl rfl ?_
      refine z_aload_n CX 0 dX2_sum_13 rfl rfl ?_
      refine z_iload_n CX 3 dX2_sum_14 rfl rfl ?_
      refine z_iload_n CX 1 dX2_sum_15 rfl rfl ?_
      refine z_callV1 CX dX2_sum_16 cv_X2_28 (c_at hr hC hlen hl9 (nI i) (nI b)) tab_0 rfl rfl (Nat.le_of_ble_eq_true rfl) ⟨Nat.le_of_ble_eq_true rfl, Nat.le_of_ble_eq_true rfl⟩ ⟨Nat.le_refl _, Nat.le_refl _⟩ ?_
      rw [atV_in (by omega) (by omega) (show i < r by omega) hb]
      refine z_iadd CX dX2_sum_19 ?_
      refine z_istore_n CX 2 dX2_sum_20 rfl (by decide) ?_
      refine z_iinc CX (v := nI (i + 1)) dX2_sum_21 rfl (nI_1 i) (by decide) ?_
      refine z_goto CX 4 dX2_sum_24 (by decide) ?_
      refine z_loc [(0, .ref (wB w + k)), (1, .int (nI b)), (2, .int (bx_sum (fun a => f (a * cn + b)) (i + 1))), (3, .int (nI (i + 1)))] ⟨rfl, rfl, rfl, rfl, trivial⟩ ?_
      exact ih (i + 1) (by omega)
  refine z_iconst CX (v := 0) dX2_sum_0 (by decide) ?_
  refine z_istore_n CX 2 dX2_sum_1 rfl (by decide) ?_
  refine z_iconst CX (v := 0) dX2_sum_2 (by decide) ?_
  refine z_istore_n CX 3 dX2_sum_3 rfl (by decide) ?_
  refine z_loc [(0, .ref (wB w + k)), (1, .int (nI b)), (2, .int (bx_sum (fun a => f (a * cn + b)) 0)), (3, .int (nI 0))] ⟨rfl, rfl, rfl, rfl, trivial⟩ ?_
  exact LP r 0 (by omega)
set_option maxHeartbeats 4000000 in
set_option maxRecDepth 100000 in
theorem c_cnt {l : Launch} {w : Wt} {hs : Hs} {n : Option Nat} {k cn len r : Nat} {f : Nat → Int32} (hr : r < 1000) (hC : cn < 1000) (hlen : r * cn ≤ len) (hl9 : len < 2 ^ 20) {b : Nat} (hb : b < cn) (v : Int32) : Cn l w mX2_count 0 0 [.ref (wB w + k), .int (nI b), .int v] (tabH w hs k cn len r f) n (tabH w hs k cn len r f) n (some (.int (nI (cntN (fun a => decide (f (a * cn + b) = v)) r)))) := by
  refine Cn.of (d := mX2_count) (by decide +kernel) (Nat.le_of_ble_eq_true rfl) ?_
  intro p e R s m args below meth c CX
  replace CX : Ctx p s m args meth c R w RX2 "count" cX2_count 5 (some .int) 1 23 0 0 := CX
  show ZW p l e R s m args below meth c w 5 _ _ 0 0 (MQ below (Qn w _ _ _) args s 0 0 (wA w)) 0 [(0, .ref (wB w + k)), (1, .int (nI b)), (2, .int v)] []
  have LP : ∀ (j i : Nat), i + j = r → ZW p l e R s m args below meth c w 5 (tabH w hs k cn len r f) n 0 0 (MQ below (Qn w (tabH w hs k cn len r f) n (some (.int (nI (cntN (fun a => decide (f (a * cn + b) = v)) r))))) args s 0 0 (wA w)) 5 [(0, .ref (wB w + k)), (1, .int (nI b)), (2, .int v), (3, .int (nI (cntN (fun a => decide (f (a * cn + b) = v)) i))), (4, .int (nI i))] [] := by
    intro j
    induction j with
    | zero =>
      intro i hi
      refine z_iload CX dX2_count_5 rfl ?_
      refine z_aload_n CX 0 dX2_count_7 rfl rfl ?_
      refine z_get CX dX2_count_8 fg_X2_25 tab_0 rfl ?_
      refine z_icmp_ge CX 34 dX2_count_11 (by decide) (fun _ => ?_) (fun q9 => absurd (nI_le (by omega) (by omega)) q9)
      refine z_iload_n CX 3 dX2_count_34 rfl rfl ?_
      exact z_iret CX dX2_count_35 rfl (by rw [show i = r by omega]) rfl (Or.inl rfl)
    | succ j ih =>
      intro i hi
      refine z_iload CX dX2_count_5 rfl ?_
      refine z_aload_n CX 0 dX2_count_7 rfl rfl ?_
      refine z_get CX dX2_count_8 fg_X2_25 tab_0 rfl ?_
      refine z_icmp_ge CX 34 dX2_count_11 (by decide) (fun q9 => absurd q9 (nI_ge (by omega) (by omega))) (fun _ => ?_)
      refine z_aload_n CX 0 dX2_count_14 rfl rfl ?_
      refine z_iload CX dX2_count_15 rfl ?_
      refine z_iload_n CX 1 dX2_count_17 rfl rfl ?_
      refine z_callV1 CX dX2_count_18 cv_X2_28 (c_at hr hC hlen hl9 (nI i) (nI b)) tab_0 rfl rfl (Nat.le_of_ble_eq_true rfl) ⟨Nat.le_of_ble_eq_true rfl, Nat.le_of_ble_eq_true rfl⟩ ⟨Nat.le_refl _, Nat.le_refl _⟩ ?_
      rw [atV_in (by omega) (by omega) (show i < r by omega) hb]
      refine z_iload_n CX 2 dX2_count_21 rfl rfl ?_
      refine z_icmp_ne CX 28 dX2_count_22 (by decide) (fun c_22 => ?_) (fun c_22 => ?_)
      · skip
        refine z_iinc CX (v := nI (i + 1)) dX2_count_28 rfl (nI_1 i) (by decide) ?_
        refine z_goto CX 5 dX2_count_31 (by decide) ?_
        rw [show cntN (fun a => decide (f (a * cn + b) = v)) i = cntN (fun a => decide (f (a * cn + b) = v)) (i + 1) by show _ = cntN _ i + _; simp [c_22]]
        refine z_loc [(0, .ref (wB w + k)), (1, .int (nI b)), (2, .int v), (3, .int (nI (cntN (fun a => decide (f (a * cn + b) = v)) (i + 1)))), (4, .int (nI (i + 1)))] ⟨rfl, rfl, rfl, rfl, rfl, trivial⟩ ?_
        exact ih (i + 1) (by omega)
      · skip
        refine z_iinc CX (v := nI (cntN (fun a => decide (f (a * cn + b) = v)) (i + 1))) dX2_count_25 rfl (by show _ = nI (cntN _ i + _); rw [← nI_add]; simp [c_22]; rfl) (by decide) ?_
        refine z_iinc CX (v := nI (i + 1)) dX2_count_28 rfl (nI_1 i) (by decide) ?_
        refine z_goto CX 5 dX2_count_31 (by decide) ?_
        refine z_loc [(0, .ref (wB w + k)), (1, .int (nI b)), (2, .int v), (3, .int (nI (cntN (fun a => decide (f (a * cn + b) = v)) (i + 1)))), (4, .int (nI (i + 1)))] ⟨rfl, rfl, rfl, rfl, rfl, trivial⟩ ?_
        exact ih (i + 1) (by omega)
  refine z_iconst CX (v := 0) dX2_count_0 (by decide) ?_
  refine z_istore_n CX 3 dX2_count_1 rfl (by decide) ?_
  refine z_iconst CX (v := 0) dX2_count_2 (by decide) ?_
  refine z_istore CX dX2_count_3 (by decide) ?_
  refine z_loc [(0, .ref (wB w + k)), (1, .int (nI b)), (2, .int v), (3, .int (nI (cntN (fun a => decide (f (a * cn + b) = v)) 0))), (4, .int (nI 0))] ⟨rfl, rfl, rfl, rfl, rfl, trivial⟩ ?_
  exact LP r 0 (by omega)
def clrF (lo hi : Nat) (f : Nat → Int32) : Nat → Int32 := fun j => if lo ≤ j ∧ j < hi then 0 else f j
theorem clrF_0 (lo : Nat) (f : Nat → Int32) : clrF lo lo f = f := by
  funext j; unfold clrF; rw [if_neg (by omega)]
theorem clrF_s {lo i : Nat} (h : lo ≤ i) (f : Nat → Int32) : upd (clrF lo i f) i 0 = clrF lo (i + 1) f := by
  funext j; unfold upd clrF
  by_cases h1 : j = i
  · subst h1; simp [h]
  · rw [if_neg h1]
    by_cases h2 : lo ≤ j ∧ j < i
    · rw [if_pos h2, if_pos (by omega)]
    · rw [if_neg h2, if_neg (by omega)]
def cpyF (len : Nat) (g f : Nat → Int32) : Nat → Int32 := fun j => if j < len then g j else f j
theorem cpyF_e (len : Nat) (g f : Nat → Int32) : va_cpy g f 0 0 len = cpyF len g f := by
  funext j; unfold va_cpy cpyF; simp
set_option maxHeartbeats 4000000 in
set_option maxRecDepth 100000 in
theorem c_addRow {l : Launch} {w : Wt} {hs : Hs} {n : Option Nat} {k cn len r : Nat} {f : Nat → Int32} (hr : r < 1000) (hC : cn < 1000) (hlen : r * cn + cn ≤ len) (hl9 : len < 2 ^ 20) : Cn l w mX2_addRow 0 0 [.ref (wB w + k)] (tabH w hs k cn len r f) n (tabH w hs k cn len (r + 1) (clrF (r * cn) (r * cn + cn) f)) n (some (.int (nI r))) := by
  refine Cn.of (d := mX2_addRow) (by decide +kernel) (Nat.le_of_ble_eq_true rfl) ?_
  intro p e R s m args below meth c CX
  replace CX : Ctx p s m args meth c R w RX2 "addRow" cX2_addRow 2 (some .int) 0 0 0 0 := CX
  show ZW p l e R s m args below meth c w 2 _ _ 0 0 (MQ below (Qn w _ _ _) args s 0 0 (wA w)) 0 [(0, .ref (wB w + k))] []
  have LP : ∀ (j i : Nat), i + j = r * cn + cn → r * cn ≤ i → ZW p l e R s m args below meth c w 2 (tabH w hs k cn len r (clrF (r * cn) (i) f)) n 0 0 (MQ below (Qn w (tabH w hs k cn len (r + 1) (clrF (r * cn) (r * cn + cn) f)) n (some (.int (nI r)))) args s 0 0 (wA w)) 31 [(0, .ref (wB w + k)), (1, .int (nI (i)))] [] := by
    intro j
    induction j with
    | zero =>
      intro i hi hi2
      refine z_iload_n CX 1 dX2_addRow_31 rfl rfl ?_
      refine z_aload_n CX 0 dX2_addRow_32 rfl rfl ?_
      refine z_get CX dX2_addRow_33 fg_X2_25 tab_0 rfl ?_
      refine z_iconst CX (v := 1) dX2_addRow_36 (by decide) ?_
      refine z_iadd CX dX2_addRow_37 ?_
      refine z_aload_n CX 0 dX2_addRow_38 rfl rfl ?_
      refine z_get CX dX2_addRow_39 fg_X2_15 tab_0 rfl ?_
      refine z_imul CX dX2_addRow_42 ?_
      rw [show (nI r + 1 : Int32) * nI cn = nI (r * cn + cn) by rw [nI_1, pk_mul, Nat.succ_mul]]
      refine z_icmp_ge CX 68 dX2_addRow_43 (by decide) (fun _ => ?_) (fun q9 => absurd (nI_le (by omega) (by omega)) q9)
      rw [show i = r * cn + cn by omega]
      refine z_aload_n CX 0 dX2_addRow_68 rfl rfl ?_
      refine z_dup CX dX2_addRow_69 rfl ?_
      refine z_get CX dX2_addRow_70 fg_X2_25 tab_0 rfl ?_
      refine z_iconst CX (v := 1) dX2_addRow_73 (by decide) ?_
      refine z_iadd CX dX2_addRow_74 ?_
      rw [show (nI r + 1 : Int32) = nI (r + 1) from nI_1 r]
      refine z_put CX dX2_addRow_75 fg_X2_25 fp_X2_2 tab_0 (Nat.le_of_ble_eq_true rfl) rfl rfl ?_
      refine z_heap (tab_u0 rfl) ?_
      refine z_aload_n CX 0 dX2_addRow_78 rfl rfl ?_
      refine z_get CX dX2_addRow_79 fg_X2_25 tab_0 rfl ?_
      refine z_iconst CX (v := 1) dX2_addRow_82 (by decide) ?_
      refine z_isub CX dX2_addRow_83 ?_
      rw [show (nI (r + 1) - 1 : Int32) = nI r from nI_pred r]
      exact z_iret CX dX2_addRow_84 rfl rfl rfl (Or.inl rfl)
    | succ j ih =>
      intro i hi hi2
      refine z_iload_n CX 1 dX2_addRow_31 rfl rfl ?_
      refine z_aload_n CX 0 dX2_addRow_32 rfl rfl ?_
      refine z_get CX dX2_addRow_33 fg_X2_25 tab_0 rfl ?_
      refine z_iconst CX (v := 1) dX2_addRow_36 (by decide) ?_
      refine z_iadd CX dX2_addRow_37 ?_
      refine z_aload_n CX 0 dX2_addRow_38 rfl rfl ?_
      refine z_get CX dX2_addRow_39 fg_X2_15 tab_0 rfl ?_
      refine z_imul CX dX2_addRow_42 ?_
      rw [show (nI r + 1 : Int32) * nI cn = nI (r * cn + cn) by rw [nI_1, pk_mul, Nat.succ_mul]]
      refine z_icmp_ge CX 68 dX2_addRow_43 (by decide) (fun q9 => absurd q9 (nI_ge (by omega) (by omega))) (fun _ => ?_)
      refine z_iload_n CX 1 dX2_addRow_46 rfl rfl ?_
      refine z_aload_n CX 0 dX2_addRow_47 rfl rfl ?_
      refine z_get CX dX2_addRow_48 fg_X2_21 tab_0 rfl ?_
      refine z_alen CX 0 dX2_addRow_51 tab_1 rfl rfl ?_
      refine z_icmp_ge CX 68 dX2_addRow_52 (by decide) (fun q9 => absurd q9 (nI_ge (by omega) (by omega))) (fun _ => ?_)
      refine z_aload_n CX 0 dX2_addRow_55 rfl rfl ?_
      refine z_get CX dX2_addRow_56 fg_X2_21 tab_0 rfl ?_
      refine z_iload_n CX 1 dX2_addRow_59 rfl rfl ?_
      refine z_iconst CX (v := 0) dX2_addRow_60 (by decide) ?_
      refine z_iast CX dX2_addRow_61 tab_1 (vp_in_nI (by omega) (by omega)) ?_
      refine z_heap ((congrArg (fun z => upH _ _ (.inl (wC w 0, len, .inl (upd _ z 0)))) (nI_clamp (by omega))).trans (tab_u1.trans (congrArg (tabH w hs k cn len r) (clrF_s (by omega) f)))) ?_
      refine z_iinc CX (v := nI (i + 1)) dX2_addRow_62 rfl (nI_1 i) (by decide) ?_
      refine z_goto CX 31 dX2_addRow_65 (by decide) ?_
      refine z_loc [(0, .ref (wB w + k)), (1, .int (nI (i + 1)))] ⟨rfl, rfl, trivial⟩ ?_
      exact ih (i + 1) (by omega) (by omega)
  refine z_aload_n CX 0 dX2_addRow_0 rfl rfl ?_
  refine z_get CX dX2_addRow_1 fg_X2_25 tab_0 rfl ?_
  refine z_iconst CX (v := 1) dX2_addRow_4 (by decide) ?_
  refine z_iadd CX dX2_addRow_5 ?_
  refine z_aload_n CX 0 dX2_addRow_6 rfl rfl ?_
  refine z_get CX dX2_addRow_7 fg_X2_15 tab_0 rfl ?_
  refine z_imul CX dX2_addRow_10 ?_
  refine z_aload_n CX 0 dX2_addRow_11 rfl rfl ?_
  refine z_get CX dX2_addRow_12 fg_X2_21 tab_0 rfl ?_
  refine z_alen CX 0 dX2_addRow_15 tab_1 rfl rfl ?_
  rw [show (nI r + 1 : Int32) * nI cn = nI (r * cn + cn) by rw [nI_1, pk_mul, Nat.succ_mul]]
  refine z_icmp_le CX 21 dX2_addRow_16 (by decide) (fun _ => ?_) (fun q9 => absurd (nI_le (by omega) (by omega)) q9)
  refine z_aload_n CX 0 dX2_addRow_21 rfl rfl ?_
  refine z_get CX dX2_addRow_22 fg_X2_25 tab_0 rfl ?_
  refine z_aload_n CX 0 dX2_addRow_25 rfl rfl ?_
  refine z_get CX dX2_addRow_26 fg_X2_15 tab_0 rfl ?_
  refine z_imul CX dX2_addRow_29 ?_
  rw [pk_mul]
  refine z_istore_n CX 1 dX2_addRow_30 rfl (by decide) ?_
  refine z_heap (congrArg (tabH w hs k cn len r) (clrF_0 (r * cn) f).symm) ?_
  refine z_loc [(0, .ref (wB w + k)), (1, .int (nI (r * cn)))] ⟨rfl, rfl, trivial⟩ ?_
  exact LP cn (r * cn) rfl (Nat.le_refl _)
set_option maxHeartbeats 4000000 in
set_option maxRecDepth 100000 in
theorem c_copy {l : Launch} {w : Wt} {hs : Hs} {n : Option Nat} {k k2 cn c2 len r r2 : Nat} {f g : Nat → Int32} (hl9 : len < 2 ^ 20) (hd : k2 < k ∨ k + 1 < k2) (hd1 : k2 + 1 < k ∨ k + 1 < k2 + 1) (h20 : hs k2 = some (.inr (2, [.int (nI c2), .ref (wB w + (k2 + 1)), .int (nI r2)]))) (h21 : hs (k2 + 1) = some (.inl (wC w 0, len, .inl g))) : Cn l w mX2_copyFrom 0 0 [.ref (wB w + k), .ref (wB w + k2)] (tabH w hs k cn len r f) n (tabH w hs k cn len r2 (cpyF len g f)) n none := by
  refine Cn.of (d := mX2_copyFrom) (by decide +kernel) (Nat.le_of_ble_eq_true rfl) ?_
  intro p e R s m args below meth c CX
  replace CX : Ctx p s m args meth c R w RX2 "copyFrom" cX2_copyFrom 2 none 1 44 0 0 := CX
  show ZW p l e R s m args below meth c w 2 _ _ 0 0 (MQ below (Qn w _ _ _) args s 0 0 (wA w)) 0 [(0, .ref (wB w + k)), (1, .ref (wB w + k2))] []
  refine z_aload_n CX 0 dX2_copyFrom_0 rfl rfl ?_
  refine z_aload_n CX 1 dX2_copyFrom_1 rfl rfl ?_
  refine z_get CX dX2_copyFrom_2 fg_X2_25 ((tab_n hd).trans h20) rfl ?_
  refine z_put CX dX2_copyFrom_5 fg_X2_25 fp_X2_2 tab_0 (Nat.le_of_ble_eq_true rfl) rfl rfl ?_
  refine z_heap (tab_u0 rfl) ?_
  refine z_aload_n CX 1 dX2_copyFrom_8 rfl rfl ?_
  refine z_get CX dX2_copyFrom_9 fg_X2_21 ((tab_n hd).trans h20) rfl ?_
  refine z_iconst CX (v := 0) dX2_copyFrom_12 (by decide) ?_
  refine z_aload_n CX 0 dX2_copyFrom_13 rfl rfl ?_
  refine z_get CX dX2_copyFrom_14 fg_X2_21 tab_0 rfl ?_
  refine z_iconst CX (v := 0) dX2_copyFrom_17 (by decide) ?_
  refine z_aload_n CX 0 dX2_copyFrom_18 rfl rfl ?_
  refine z_get CX dX2_copyFrom_19 fg_X2_21 tab_0 rfl ?_
  refine z_alen CX 0 dX2_copyFrom_22 tab_1 rfl rfl ?_
  refine z_aload_n CX 1 dX2_copyFrom_23 rfl rfl ?_
  refine z_get CX dX2_copyFrom_24 fg_X2_21 ((tab_n hd).trans h20) rfl ?_
  refine z_alen CX 0 dX2_copyFrom_27 ((tab_n hd1).trans h21) rfl rfl ?_
  refine z_min CX dX2_copyFrom_28 (wa_mem 512 (by decide +kernel) rfl) (wa_mem 513 (by decide +kernel) rfl) (wa_mem 5 (by decide +kernel) rfl) (wa_mem 514 (by decide +kernel) rfl) (by decide) (Nat.le_of_ble_eq_true rfl) (Nat.zero_le _) (Nat.zero_le _) ?_
  rw [show (if Int32.ofNat len < Int32.ofNat len then Int32.ofNat len else Int32.ofNat len) = nI len by simp [nI]]
  refine z_copy CX dX2_copyFrom_31 (wa_mem 515 (by decide +kernel) rfl) (wa_mem 517 (by decide +kernel) rfl) (wa_mem 516 (by decide +kernel) rfl) (wa_mem 14 (by decide +kernel) rfl) ((tab_n hd1).trans h21) tab_1 (nI_pos (by omega)) (by rw [nI_clamp (by omega)]; exact Nat.le_refl _) (by rw [nI_clamp (by omega)]; exact Nat.le_refl _) (by decide) (by decide +kernel) ?_
  refine z_heap tab_u1 ?_
  exact z_vret CX dX2_copyFrom_34 rfl (by rw [nI_clamp (by omega), cpyF_e]) (Or.inl rfl)
set_option maxHeartbeats 4000000 in
set_option maxRecDepth 100000 in
theorem c_tinit {l : Launch} {w : Wt} {hs : Hs} {k cn cap : Nat} (hc1 : 1 ≤ cn) (hc2 : cn < 1000) (hcap : cap * cn < 5000) (h0 : hs k = some (.inr (2, [.int 0, .null, .int 0]))) : Cn l w mX2_init 1 (cap * cn) [.ref (wB w + k), .int (nI cap), .int (nI cn)] hs (some (k + 1)) (tabH w hs k cn (cap * cn) 0 (fun _ => 0)) (some (k + 2)) none := by
  refine Cn.of (d := mX2_init) (by decide +kernel) (Nat.le_of_ble_eq_true rfl) ?_
  intro p e R s m args below meth c CX
  replace CX : Ctx p s m args meth c R w RX2 "<init>" cX2_init 3 none 1 21 1 (cap * cn) := CX
  show ZW p l e R s m args below meth c w 3 _ _ 0 0 (MQ below (Qn w _ _ _) args s 1 (cap * cn) (wA w)) 0 [(0, .ref (wB w + k)), (1, .int (nI cap)), (2, .int (nI cn))] []
  refine z_aload_n CX 0 dX2_init_0 rfl rfl ?_
  refine z_objinit CX dX2_init_1 (wa_mem 57 (by decide +kernel) rfl) (wa_mem 21 (by decide +kernel) rfl) (wa_mem 22 (by decide +kernel) rfl) (by decide) (Nat.le_of_ble_eq_true rfl) ?_
  refine z_aload_n CX 0 dX2_init_4 rfl rfl ?_
  refine z_iconst CX (v := 1) dX2_init_5 (by decide) ?_
  refine z_iload_n CX 2 dX2_init_6 rfl rfl ?_
  refine z_max CX dX2_init_7 (wa_mem 58 (by decide +kernel) rfl) (wa_mem 59 (by decide +kernel) rfl) (wa_mem 5 (by decide +kernel) rfl) (wa_mem 60 (by decide +kernel) rfl) (by decide) (Nat.le_of_ble_eq_true rfl) (Nat.zero_le _) (Nat.zero_le _) ?_
  rw [show (if (1 : Int32) < nI cn then nI cn else 1) = nI cn by split; rfl; rename_i hq; exact Int32.le_antisymm (show (1 : Int32) ≤ nI cn from nI_le (a := 1) hc1 (by omega)) (Int32.not_lt.mp hq)]
  refine z_putF CX dX2_init_10 fg_X2_15 fp_X2_0 rfl fw_X2_15 h0 (Nat.le_of_ble_eq_true rfl) rfl rfl ?_
  refine z_aload_n CX 0 dX2_init_13 rfl rfl ?_
  refine z_iconst CX (v := 0) dX2_init_14 (by decide) ?_
  refine z_iload_n CX 1 dX2_init_15 rfl rfl ?_
  refine z_iload_n CX 2 dX2_init_16 rfl rfl ?_
  refine z_imul CX dX2_init_17 ?_
  refine z_max CX dX2_init_18 (wa_mem 58 (by decide +kernel) rfl) (wa_mem 59 (by decide +kernel) rfl) (wa_mem 5 (by decide +kernel) rfl) (wa_mem 60 (by decide +kernel) rfl) (by decide) (Nat.le_of_ble_eq_true rfl) (Nat.zero_le _) (Nat.zero_le _) ?_
  rw [pk_mul, show (if (0 : Int32) < nI (cap * cn) then nI (cap * cn) else 0) = nI (cap * cn) by split; rfl; rename_i hq; exact Int32.le_antisymm (nI_pos' (by omega)) (Int32.not_lt.mp hq)]
  refine z_newI CX dX2_init_21 (wa_mem 45 (by decide +kernel) rfl) (nI_pos (by omega)) (nI_clamp (by omega)) (by omega) (by omega) (by omega) ?_
  refine z_putF CX dX2_init_23 fg_X2_21 fp_X2_1 rfl fw_X2_21 (fs := [.int (nI cn), .null, .int 0]) (by simp [upH]) (Nat.le_of_ble_eq_true rfl) rfl rfl ?_
  refine z_widen (k9 := 1) (n9 := cap * cn) (by omega) (by omega) ?_
  exact z_vret CX dX2_init_26 rfl (by
      funext j; unfold tabH upH
      by_cases h1 : j = k + 1
      · subst h1; simp
      · by_cases h2 : j = k
        · subst h2; simp [nI]
        · simp [h1, h2]) (Or.inl rfl)
