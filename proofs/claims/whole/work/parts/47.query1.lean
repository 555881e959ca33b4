/-! the model: what there is -/
theorem c_inI {l : Launch} {w : Wt} {hs : Hs} {n : Option Nat} (lo hi x : Int32) (a b : Int64) (h1 : a = lo.toInt64) (h2 : b = hi.toInt64) : Cn l w mX6_in 0 0 [.long x.toInt64, .long a, .long b] hs n hs n (some (.int (bI (decide (lo ≤ x ∧ x ≤ hi))))) := by
  have h := c_in (l := l) (w := w) (hs := hs) (n := n) x.toInt64 a b
  rw [bI_c (inC lo hi a b h1 h2 x)] at h
  exact h
abbrev RSt : Type := Int32 × Int32 × (Nat → Int32) × (Nat → Nat → Int32)
def bad (r : Int32) (u : Nat → Int32) (A : Nat → Nat → Int32) : RSt := (r, 0, upd u 0 r, A)
/-- what a boat's number is, as asked -/
def nv (f : Nat → Int32) (b c : Nat) : Int32 := match c with
  | 4 => if f (24 + 10 * b + 3) = 1 ∨ f (24 + 10 * b + 3) = 3 then f (24 + 10 * b + 4) else -1
  | 5 => if f (24 + 10 * b + 3) = 1 ∨ f (24 + 10 * b + 3) = 3 then f (24 + 10 * b + 5) else -1
  | 7 => if f (24 + 10 * b + 3) = 2 then f (24 + 10 * b + 7) else -1
  | c => f (24 + 10 * b + c)
def boV (f : Nat → Int32) (b i : Nat) : Int32 := if i = 10 then bea f b else nv f b i
def ptsF (f : Nat → Int32) : Int32 := bx_sum (fun o => f (134 + 3 * o)) 4
def drtF (f : Nat → Int32) (nb : Nat) : Int32 := bx_sum (fun b => f (24 + 10 * b + 9)) nb
def abV (f : Nat → Int32) (i : Nat) : Int32 := match i with
  | 0 => f 146
  | 1 => f 147
  | 7 => f 148
  | 8 => f 149
  | 9 => f 150
  | 10 => f 151
  | 11 => f 152
  | 12 => ptsF f
  | 13 => drtF f (bN f)
  | i => nI (cntS f (bN f) (nI (i - 2)))
def igF (f : Nat → Int32) (nb : Nat) (g st : Int32) : Nat := cntN (fun b => decide (f (24 + 10 * b + 3) = st ∧ f (24 + 10 * b + 4) = g)) nb
def lwR (f : Nat → Int32) (nb : Nat) (g : Int32) : Nat → Nat → Int32
  | 0, _ => -1
  | j + 1, c => if wrk f nb g (nI c) = true then nI c else lwR f nb g j (c + 1)
def gtV (f : Nat → Int32) (g i : Nat) : Int32 := match i with
  | 4 => nI (igF f (bN f) (nI g) 1)
  | 5 => nI (igF f (bN f) (nI g) 3)
  | 6 => lwR f (bN f) (nI g) (f (4 * g + 0)).toNatClampNeg 0
  | i => f (4 * g + i)
def bofF (f : Nat → Int32) (nb : Nat) (o : Int32) : Nat := cntN (fun b => decide (f (24 + 10 * b + 2) = o)) nb
def owV (f : Nat → Int32) (o i : Nat) : Int32 := match i with
  | 0 => f (134 + 3 * o)
  | 1 => nI (bofF f (bN f) (nI o))
  | 4 => nI (clbF f (bN f) o)
  | i => f (134 + 3 * o + i - 1)
def rs_about (u : Nat → Int32) (A : Nat → Nat → Int32) (x : Int32) : RSt := if 0 ≤ x ∧ x ≤ 13 then (0, abV (A 0) x.toNatClampNeg, upd u 0 0, A) else bad 1 u A
def rs_gutterOf (u : Nat → Int32) (A : Nat → Nat → Int32) (g x : Int32) : RSt := if 0 ≤ g ∧ g < nI (gN (A 0)) then (if 0 ≤ x ∧ x ≤ 6 then (0, gtV (A 0) g.toNatClampNeg x.toNatClampNeg, upd u 0 0, A) else bad 2 u A) else bad 1 u A
def rs_boatOf (u : Nat → Int32) (A : Nat → Nat → Int32) (b x : Int32) : RSt := if 0 ≤ b ∧ b < nI (bN (A 0)) then (if 0 ≤ x ∧ x ≤ 10 then (0, boV (A 0) b.toNatClampNeg x.toNatClampNeg, upd u 0 0, A) else bad 2 u A) else bad 1 u A
def rs_ownerOf (u : Nat → Int32) (A : Nat → Nat → Int32) (o x : Int32) : RSt := if 0 ≤ o ∧ o ≤ 3 then (if 0 ≤ x ∧ x ≤ 4 then (0, owV (A 0) o.toNatClampNeg x.toNatClampNeg, upd u 0 0, A) else bad 2 u A) else bad 1 u A
def rs_way (u : Nat → Int32) (A : Nat → Nat → Int32) (g c y : Int32) : RSt := if icl (A 0) (gN (A 0)) g c = true then (if 0 ≤ y ∧ y ≤ 1 then (0, drn (A 0) 6 0 g.toNatClampNeg c, upd u 0 0, A) else bad 2 u A) else bad 1 u A
def rs_setting (u : Nat → Int32) (A : Nat → Nat → Int32) (x : Int32) : RSt := if 0 ≤ x ∧ x ≤ 2 then (0, A 0 (154 + x.toNatClampNeg), upd u 0 0, A) else bad 1 u A
def rs_why (u : Nat → Int32) (A : Nat → Nat → Int32) (o b : Int32) : RSt := if (0 ≤ o ∧ o ≤ 3) ∧ (0 ≤ b ∧ b < nI (bN (A 0))) then (0, whyF (A 0) o.toNatClampNeg b.toNatClampNeg, upd u 0 0, A) else bad 1 u A
set_option maxHeartbeats 4000000 in
set_option maxRecDepth 100000 in
theorem c_points {l : Launch} {w : Wt} {hs : Hs} {n : Option Nat} {k : Nat} {u : Nat → Int32} {A : Nat → Nat → Int32}  : Cn l w mX6_points 0 0 [.ref (wB w + k)] (modH w hs k u A) n (modH w hs k u A) n (some (.int (ptsF (A 0)))) := by
  refine Cn.of (d := mX6_points) (by decide +kernel) (Nat.le_of_ble_eq_true rfl) ?_
  intro p e R s m args below meth c CX
  replace CX : Ctx p s m args meth c R w RX6 "points" cX6_points 3 (some .int) 0 0 0 0 := CX
  show ZW p l e R s m args below meth c w 3 _ _ 0 0 (MQ below (Qn w _ _ _) args s 0 0 (wA w)) 0 [(0, .ref (wB w + k))] []
  have LP : ∀ (j i : Nat), i + j = 4 → ZW p l e R s m args below meth c w 3 (modH w hs k u A) n 0 0 (MQ below (Qn w (modH w hs k u A) n (some (.int (ptsF (A 0))))) args s 0 0 (wA w)) 4 [(0, .ref (wB w + k)), (1, .int (bx_sum (fun o => A 0 (134 + 3 * o)) i)), (2, .int (nI i))] [] := by
    intro j
    induction j with
    | zero =>
      intro i hi
      have hi9 : i = 4 := by omega
      subst hi9
      refine z_iload_n CX 2 dX6_points_4 rfl rfl ?_
      refine z_iconst CX (v := 4) dX6_points_5 (by decide) ?_
      refine z_icmp_ge CX 30 dX6_points_6 (by decide) (fun _ => ?_) (fun q9 => absurd (by decide) q9)
      refine z_iload_n CX 1 dX6_points_30 rfl rfl ?_
      exact z_iret CX dX6_points_31 rfl rfl rfl (Or.inl rfl)
    | succ j ih =>
      intro i hi
      refine z_iload_n CX 2 dX6_points_4 rfl rfl ?_
      refine z_iconst CX (v := 4) dX6_points_5 (by decide) ?_
      refine z_icmp_ge CX 30 dX6_points_6 (by decide) (fun q9 => absurd q9 (nI_ge (b := 4) (by omega) (by omega))) (fun _ => ?_)
      refine z_iload_n CX 1 dX6_points_9 rfl rfl ?_
      refine z_aload_n CX 0 dX6_points_10 rfl rfl ?_
      refine z_get CX dX6_points_11 fg_X6_7 mo_0 rfl ?_
      refine z_sipush CX (v := 134) dX6_points_14 (by decide) ?_
      refine z_iconst CX (v := 3) dX6_points_17 (by decide) ?_
      refine z_iload_n CX 2 dX6_points_18 rfl rfl ?_
      refine z_imul CX dX6_points_19 ?_
      refine z_iadd CX dX6_points_20 ?_
      refine z_ia CX (j := (134 + (3 * i))) dX6_points_21 mo_1 (ix_add rfl (ix_mul rfl rfl)) (by omega) (by decide) ?_
      refine z_iadd CX dX6_points_22 ?_
      refine z_istore_n CX 1 dX6_points_23 rfl (by decide) ?_
      refine z_iinc CX (v := nI (i + 1)) dX6_points_24 rfl (nI_1 i) (by decide) ?_
      refine z_goto CX 4 dX6_points_27 (by decide) ?_
      refine z_loc [(0, .ref (wB w + k)), (1, .int (bx_sum (fun o => A 0 (134 + 3 * o)) (i + 1))), (2, .int (nI (i + 1)))] ⟨rfl, rfl, rfl, trivial⟩ ?_
      exact ih (i + 1) (by omega)
  refine z_iconst CX (v := 0) dX6_points_0 (by decide) ?_
  refine z_istore_n CX 1 dX6_points_1 rfl (by decide) ?_
  refine z_iconst CX (v := 0) dX6_points_2 (by decide) ?_
  refine z_istore_n CX 2 dX6_points_3 rfl (by decide) ?_
  refine z_loc [(0, .ref (wB w + k)), (1, .int (bx_sum (fun o => A 0 (134 + 3 * o)) 0)), (2, .int (nI 0))] ⟨rfl, rfl, rfl, trivial⟩ ?_
  exact LP 4 0 (by omega)
set_option maxHeartbeats 4000000 in
set_option maxRecDepth 100000 in
theorem c_drifted {l : Launch} {w : Wt} {hs : Hs} {n : Option Nat} {k : Nat} {u : Nat → Int32} {A : Nat → Nat → Int32} {nb : Nat} (hf : A 0 147 = nI nb) (h9 : nb ≤ 11) : Cn l w mX6_drifted 0 0 [.ref (wB w + k)] (modH w hs k u A) n (modH w hs k u A) n (some (.int (drtF (A 0) nb))) := by
  refine Cn.of (d := mX6_drifted) (by decide +kernel) (Nat.le_of_ble_eq_true rfl) ?_
  intro p e R s m args below meth c CX
  replace CX : Ctx p s m args meth c R w RX6 "drifted" cX6_drifted 3 (some .int) 1 20 0 0 := CX
  show ZW p l e R s m args below meth c w 3 _ _ 0 0 (MQ below (Qn w _ _ _) args s 0 0 (wA w)) 0 [(0, .ref (wB w + k))] []
  have LP : ∀ (j i : Nat), i + j = nb → ZW p l e R s m args below meth c w 3 (modH w hs k u A) n 0 0 (MQ below (Qn w (modH w hs k u A) n (some (.int (drtF (A 0) nb)))) args s 0 0 (wA w)) 4 [(0, .ref (wB w + k)), (1, .int (bx_sum (fun b => A 0 (24 + 10 * b + 9)) i)), (2, .int (nI i))] [] := by
    intro j
    induction j with
    | zero =>
      intro i hi
      refine z_iload_n CX 2 dX6_drifted_4 rfl rfl ?_
      refine z_aload_n CX 0 dX6_drifted_5 rfl rfl ?_
      refine z_get CX dX6_drifted_6 fg_X6_7 mo_0 rfl ?_
      refine z_sipush CX (v := 147) dX6_drifted_9 (by decide) ?_
      refine z_ia CX (j := 147) dX6_drifted_12 mo_1 rfl (by omega) (by decide) ?_
      rw [hf]
      refine z_icmp_ge CX 37 dX6_drifted_13 (by decide) (fun _ => ?_) (fun q9 => absurd (nI_le (by omega) (by omega)) q9)
      refine z_iload_n CX 1 dX6_drifted_37 rfl rfl ?_
      exact z_iret CX dX6_drifted_38 rfl (by rw [show i = nb by omega]; rfl) rfl (Or.inl rfl)
    | succ j ih =>
      intro i hi
      refine z_iload_n CX 2 dX6_drifted_4 rfl rfl ?_
      refine z_aload_n CX 0 dX6_drifted_5 rfl rfl ?_
      refine z_get CX dX6_drifted_6 fg_X6_7 mo_0 rfl ?_
      refine z_sipush CX (v := 147) dX6_drifted_9 (by decide) ?_
      refine z_ia CX (j := 147) dX6_drifted_12 mo_1 rfl (by omega) (by decide) ?_
      rw [hf]
      refine z_icmp_ge CX 37 dX6_drifted_13 (by decide) (fun q9 => absurd q9 (nI_ge (by omega) (by omega))) (fun _ => ?_)
      refine z_iload_n CX 1 dX6_drifted_16 rfl rfl ?_
      refine z_aload_n CX 0 dX6_drifted_17 rfl rfl ?_
      refine z_get CX dX6_drifted_18 fg_X6_7 mo_0 rfl ?_
      refine z_iload_n CX 2 dX6_drifted_21 rfl rfl ?_
      refine z_callS1 CX dX6_drifted_22 cs_X6_60 (c_spot i) rfl rfl (Nat.le_of_ble_eq_true rfl) ⟨Nat.le_of_ble_eq_true rfl, Nat.le_of_ble_eq_true rfl⟩ ⟨Nat.le_refl _, Nat.le_refl _⟩ ?_
      refine z_bipush CX (v := 9) dX6_drifted_25 (by decide) ?_
      refine z_iadd CX dX6_drifted_27 ?_
      refine z_ia CX (j := ((24 + 10 * i) + 9)) dX6_drifted_28 mo_1 (ix_add rfl rfl) (by omega) (by decide) ?_
      refine z_iadd CX dX6_drifted_29 ?_
      refine z_istore_n CX 1 dX6_drifted_30 rfl (by decide) ?_
      refine z_iinc CX (v := nI (i + 1)) dX6_drifted_31 rfl (nI_1 i) (by decide) ?_
      refine z_goto CX 4 dX6_drifted_34 (by decide) ?_
      refine z_loc [(0, .ref (wB w + k)), (1, .int (bx_sum (fun b => A 0 (24 + 10 * b + 9)) (i + 1))), (2, .int (nI (i + 1)))] ⟨rfl, rfl, rfl, trivial⟩ ?_
      exact ih (i + 1) (by omega)
  refine z_iconst CX (v := 0) dX6_drifted_0 (by decide) ?_
  refine z_istore_n CX 1 dX6_drifted_1 rfl (by decide) ?_
  refine z_iconst CX (v := 0) dX6_drifted_2 (by decide) ?_
  refine z_istore_n CX 2 dX6_drifted_3 rfl (by decide) ?_
  refine z_loc [(0, .ref (wB w + k)), (1, .int (bx_sum (fun b => A 0 (24 + 10 * b + 9)) 0)), (2, .int (nI 0))] ⟨rfl, rfl, rfl, trivial⟩ ?_
  exact LP nb 0 (by omega)
set_option maxHeartbeats 4000000 in
set_option maxRecDepth 100000 in
theorem c_inG {l : Launch} {w : Wt} {hs : Hs} {n : Option Nat} {k : Nat} {u : Nat → Int32} {A : Nat → Nat → Int32} {nb : Nat} (hf : A 0 147 = nI nb) (h9 : nb ≤ 11) (x y : Int32) : Cn l w mX6_inGutter 0 0 [.ref (wB w + k), .int x, .int y] (modH w hs k u A) n (modH w hs k u A) n (some (.int (nI (igF (A 0) nb x y)))) := by
  refine Cn.of (d := mX6_inGutter) (by decide +kernel) (Nat.le_of_ble_eq_true rfl) ?_
  intro p e R s m args below meth c CX
  replace CX : Ctx p s m args meth c R w RX6 "inGutter" cX6_inGutter 5 (some .int) 2 41 0 0 := CX
  show ZW p l e R s m args below meth c w 5 _ _ 0 0 (MQ below (Qn w _ _ _) args s 0 0 (wA w)) 0 [(0, .ref (wB w + k)), (1, .int x), (2, .int y)] []
  have LP : ∀ (j i : Nat), i + j = nb → ZW p l e R s m args below meth c w 5 (modH w hs k u A) n 0 0 (MQ below (Qn w (modH w hs k u A) n (some (.int (nI (cntN (fun b => decide (A 0 (24 + 10 * b + 3) = y ∧ A 0 (24 + 10 * b + 4) = x)) nb))))) args s 0 0 (wA w)) 5 [(0, .ref (wB w + k)), (1, .int x), (2, .int y), (3, .int (nI (cntN (fun b => decide (A 0 (24 + 10 * b + 3) = y ∧ A 0 (24 + 10 * b + 4) = x)) i))), (4, .int (nI i))] [] := by
    intro j
    induction j with
    | zero =>
      intro i hi
      refine z_iload CX dX6_inGutter_5 rfl ?_
      refine z_aload_n CX 0 dX6_inGutter_7 rfl rfl ?_
      refine z_get CX dX6_inGutter_8 fg_X6_7 mo_0 rfl ?_
      refine z_sipush CX (v := 147) dX6_inGutter_11 (by decide) ?_
      refine z_ia CX (j := 147) dX6_inGutter_14 mo_1 rfl (by omega) (by decide) ?_
      rw [hf]
      refine z_icmp_ge CX 61 dX6_inGutter_15 (by decide) (fun _ => ?_) (fun q9 => absurd (nI_le (by omega) (by omega)) q9)
      refine z_iload_n CX 3 dX6_inGutter_61 rfl rfl ?_
      exact z_iret CX dX6_inGutter_62 rfl (by rw [show i = nb by omega]) rfl (Or.inl rfl)
    | succ j ih =>
      intro i hi
      refine z_iload CX dX6_inGutter_5 rfl ?_
      refine z_aload_n CX 0 dX6_inGutter_7 rfl rfl ?_
      refine z_get CX dX6_inGutter_8 fg_X6_7 mo_0 rfl ?_
      refine z_sipush CX (v := 147) dX6_inGutter_11 (by decide) ?_
      refine z_ia CX (j := 147) dX6_inGutter_14 mo_1 rfl (by omega) (by decide) ?_
      rw [hf]
      refine z_icmp_ge CX 61 dX6_inGutter_15 (by decide) (fun q9 => absurd q9 (nI_ge (by omega) (by omega))) (fun _ => ?_)
      refine z_iload_n CX 3 dX6_inGutter_18 rfl rfl ?_
      refine z_aload_n CX 0 dX6_inGutter_19 rfl rfl ?_
      refine z_get CX dX6_inGutter_20 fg_X6_7 mo_0 rfl ?_
      refine z_iload CX dX6_inGutter_23 rfl ?_
      refine z_callS1 CX dX6_inGutter_25 cs_X6_64 (Cn.row mq_0 mq_0 (a := k + 1) (c_state (b := i) (by omega))) rfl rfl (Nat.le_of_ble_eq_true rfl) ⟨Nat.le_of_ble_eq_true rfl, Nat.le_of_ble_eq_true rfl⟩ ⟨Nat.le_refl _, Nat.le_refl _⟩ ?_
      refine z_iload_n CX 2 dX6_inGutter_28 rfl rfl ?_
      refine z_icmp_ne CX 52 dX6_inGutter_29 (by decide) (fun c_29 => ?_) (fun c_29 => ?_)
      · skip
        refine z_iconst CX (v := 0) dX6_inGutter_52 (by decide) ?_
        refine z_iadd CX dX6_inGutter_53 ?_
        refine z_istore_n CX 3 dX6_inGutter_54 rfl (by decide) ?_
        refine z_iinc CX (v := nI (i + 1)) dX6_inGutter_55 rfl (nI_1 i) (by decide) ?_
        refine z_goto CX 5 dX6_inGutter_58 (by decide) ?_
        refine z_loc [(0, .ref (wB w + k)), (1, .int x), (2, .int y), (3, .int (nI (cntN (fun b => decide (A 0 (24 + 10 * b + 3) = y ∧ A 0 (24 + 10 * b + 4) = x)) (i + 1)))), (4, .int (nI (i + 1)))] ⟨rfl, rfl, rfl, congrArg (fun z => some (Value.int z)) (by show nI (cntN _ i) + 0 = nI (cntN _ i + _); simp [c_29, nI_1]), rfl, trivial⟩ ?_
        exact ih (i + 1) (by omega)
      · skip
        refine z_aload_n CX 0 dX6_inGutter_32 rfl rfl ?_
        refine z_get CX dX6_inGutter_33 fg_X6_7 mo_0 rfl ?_
        refine z_iload CX dX6_inGutter_36 rfl ?_
        refine z_callS1 CX dX6_inGutter_38 cs_X6_60 (c_spot i) rfl rfl (Nat.le_of_ble_eq_true rfl) ⟨Nat.le_of_ble_eq_true rfl, Nat.le_of_ble_eq_true rfl⟩ ⟨Nat.le_refl _, Nat.le_refl _⟩ ?_
        refine z_iconst CX (v := 4) dX6_inGutter_41 (by decide) ?_
        refine z_iadd CX dX6_inGutter_42 ?_
        refine z_ia CX (j := ((24 + 10 * i) + 4)) dX6_inGutter_43 mo_1 (ix_add rfl rfl) (by omega) (by decide) ?_
        refine z_iload_n CX 1 dX6_inGutter_44 rfl rfl ?_
        refine z_icmp_ne CX 52 dX6_inGutter_45 (by decide) (fun c_45 => ?_) (fun c_45 => ?_)
        · skip
          refine z_iconst CX (v := 0) dX6_inGutter_52 (by decide) ?_
          refine z_iadd CX dX6_inGutter_53 ?_
          refine z_istore_n CX 3 dX6_inGutter_54 rfl (by decide) ?_
          refine z_iinc CX (v := nI (i + 1)) dX6_inGutter_55 rfl (nI_1 i) (by decide) ?_
          refine z_goto CX 5 dX6_inGutter_58 (by decide) ?_
          refine z_loc [(0, .ref (wB w + k)), (1, .int x), (2, .int y), (3, .int (nI (cntN (fun b => decide (A 0 (24 + 10 * b + 3) = y ∧ A 0 (24 + 10 * b + 4) = x)) (i + 1)))), (4, .int (nI (i + 1)))] ⟨rfl, rfl, rfl, congrArg (fun z => some (Value.int z)) (by show nI (cntN _ i) + 0 = nI (cntN _ i + _); simp [c_29, c_45, nI_1]), rfl, trivial⟩ ?_
          exact ih (i + 1) (by omega)
        · skip
          refine z_iconst CX (v := 1) dX6_inGutter_48 (by decide) ?_
          refine z_goto CX 53 dX6_inGutter_49 (by decide) ?_
          refine z_iadd CX dX6_inGutter_53 ?_
          refine z_istore_n CX 3 dX6_inGutter_54 rfl (by decide) ?_
          refine z_iinc CX (v := nI (i + 1)) dX6_inGutter_55 rfl (nI_1 i) (by decide) ?_
          refine z_goto CX 5 dX6_inGutter_58 (by decide) ?_
          refine z_loc [(0, .ref (wB w + k)), (1, .int x), (2, .int y), (3, .int (nI (cntN (fun b => decide (A 0 (24 + 10 * b + 3) = y ∧ A 0 (24 + 10 * b + 4) = x)) (i + 1)))), (4, .int (nI (i + 1)))] ⟨rfl, rfl, rfl, congrArg (fun z => some (Value.int z)) (by show nI (cntN _ i) + 1 = nI (cntN _ i + _); simp [c_29, c_45, nI_1]), rfl, trivial⟩ ?_
          exact ih (i + 1) (by omega)
  refine z_iconst CX (v := 0) dX6_inGutter_0 (by decide) ?_
  refine z_istore_n CX 3 dX6_inGutter_1 rfl (by decide) ?_
  refine z_iconst CX (v := 0) dX6_inGutter_2 (by decide) ?_
  refine z_istore CX dX6_inGutter_3 (by decide) ?_
  refine z_loc [(0, .ref (wB w + k)), (1, .int x), (2, .int y), (3, .int (nI (cntN (fun b => decide (A 0 (24 + 10 * b + 3) = y ∧ A 0 (24 + 10 * b + 4) = x)) 0))), (4, .int (nI 0))] ⟨rfl, rfl, rfl, rfl, rfl, trivial⟩ ?_
  exact LP nb 0 (by omega)
set_option maxHeartbeats 4000000 in
set_option maxRecDepth 100000 in
theorem c_bOf {l : Launch} {w : Wt} {hs : Hs} {n : Option Nat} {k : Nat} {u : Nat → Int32} {A : Nat → Nat → Int32} {nb : Nat} (hf : A 0 147 = nI nb) (h9 : nb ≤ 11) (x : Int32) : Cn l w mX6_boatsOf 0 0 [.ref (wB w + k), .int x] (modH w hs k u A) n (modH w hs k u A) n (some (.int (nI (bofF (A 0) nb x)))) := by
  refine Cn.of (d := mX6_boatsOf) (by decide +kernel) (Nat.le_of_ble_eq_true rfl) ?_
  intro p e R s m args below meth c CX
  replace CX : Ctx p s m args meth c R w RX6 "boatsOf" cX6_boatsOf 4 (some .int) 1 20 0 0 := CX
  show ZW p l e R s m args below meth c w 4 _ _ 0 0 (MQ below (Qn w _ _ _) args s 0 0 (wA w)) 0 [(0, .ref (wB w + k)), (1, .int x)] []
  have LP : ∀ (j i : Nat), i + j = nb → ZW p l e R s m args below meth c w 4 (modH w hs k u A) n 0 0 (MQ below (Qn w (modH w hs k u A) n (some (.int (nI (cntN (fun b => decide (A 0 (24 + 10 * b + 2) = x)) nb))))) args s 0 0 (wA w)) 4 [(0, .ref (wB w + k)), (1, .int x), (2, .int (nI (cntN (fun b => decide (A 0 (24 + 10 * b + 2) = x)) i))), (3, .int (nI i))] [] := by
    intro j
    induction j with
    | zero =>
      intro i hi
      refine z_iload_n CX 3 dX6_boatsOf_4 rfl rfl ?_
      refine z_aload_n CX 0 dX6_boatsOf_5 rfl rfl ?_
      refine z_get CX dX6_boatsOf_6 fg_X6_7 mo_0 rfl ?_
      refine z_sipush CX (v := 147) dX6_boatsOf_9 (by decide) ?_
      refine z_ia CX (j := 147) dX6_boatsOf_12 mo_1 rfl (by omega) (by decide) ?_
      rw [hf]
      refine z_icmp_ge CX 45 dX6_boatsOf_13 (by decide) (fun _ => ?_) (fun q9 => absurd (nI_le (by omega) (by omega)) q9)
      refine z_iload_n CX 2 dX6_boatsOf_45 rfl rfl ?_
      exact z_iret CX dX6_boatsOf_46 rfl (by rw [show i = nb by omega]) rfl (Or.inl rfl)
    | succ j ih =>
      intro i hi
      refine z_iload_n CX 3 dX6_boatsOf_4 rfl rfl ?_
      refine z_aload_n CX 0 dX6_boatsOf_5 rfl rfl ?_
      refine z_get CX dX6_boatsOf_6 fg_X6_7 mo_0 rfl ?_
      refine z_sipush CX (v := 147) dX6_boatsOf_9 (by decide) ?_
      refine z_ia CX (j := 147) dX6_boatsOf_12 mo_1 rfl (by omega) (by decide) ?_
      rw [hf]
      refine z_icmp_ge CX 45 dX6_boatsOf_13 (by decide) (fun q9 => absurd q9 (nI_ge (by omega) (by omega))) (fun _ => ?_)
      refine z_iload_n CX 2 dX6_boatsOf_16 rfl rfl ?_
      refine z_aload_n CX 0 dX6_boatsOf_17 rfl rfl ?_
      refine z_get CX dX6_boatsOf_18 fg_X6_7 mo_0 rfl ?_
      refine z_iload_n CX 3 dX6_boatsOf_21 rfl rfl ?_
      refine z_callS1 CX dX6_boatsOf_22 cs_X6_60 (c_spot i) rfl rfl (Nat.le_of_ble_eq_true rfl) ⟨Nat.le_of_ble_eq_true rfl, Nat.le_of_ble_eq_true rfl⟩ ⟨Nat.le_refl _, Nat.le_refl _⟩ ?_
      refine z_iconst CX (v := 2) dX6_boatsOf_25 (by decide) ?_
      refine z_iadd CX dX6_boatsOf_26 ?_
      refine z_ia CX (j := ((24 + 10 * i) + 2)) dX6_boatsOf_27 mo_1 (ix_add rfl rfl) (by omega) (by decide) ?_
      refine z_iload_n CX 1 dX6_boatsOf_28 rfl rfl ?_
      refine z_icmp_ne CX 36 dX6_boatsOf_29 (by decide) (fun c_29 => ?_) (fun c_29 => ?_)
      · skip
        refine z_iconst CX (v := 0) dX6_boatsOf_36 (by decide) ?_
        refine z_iadd CX dX6_boatsOf_37 ?_
        refine z_istore_n CX 2 dX6_boatsOf_38 rfl (by decide) ?_
        refine z_iinc CX (v := nI (i + 1)) dX6_boatsOf_39 rfl (nI_1 i) (by decide) ?_
        refine z_goto CX 4 dX6_boatsOf_42 (by decide) ?_
        refine z_loc [(0, .ref (wB w + k)), (1, .int x), (2, .int (nI (cntN (fun b => decide (A 0 (24 + 10 * b + 2) = x)) (i + 1)))), (3, .int (nI (i + 1)))] ⟨rfl, rfl, congrArg (fun z => some (Value.int z)) (by show nI (cntN _ i) + 0 = nI (cntN _ i + _); simp [c_29, nI_1]), rfl, trivial⟩ ?_
        exact ih (i + 1) (by omega)
      · skip
        refine z_iconst CX (v := 1) dX6_boatsOf_32 (by decide) ?_
        refine z_goto CX 37 dX6_boatsOf_33 (by decide) ?_
        refine z_iadd CX dX6_boatsOf_37 ?_
        refine z_istore_n CX 2 dX6_boatsOf_38 rfl (by decide) ?_
        refine z_iinc CX (v := nI (i + 1)) dX6_boatsOf_39 rfl (nI_1 i) (by decide) ?_
        refine z_goto CX 4 dX6_boatsOf_42 (by decide) ?_
        refine z_loc [(0, .ref (wB w + k)), (1, .int x), (2, .int (nI (cntN (fun b => decide (A 0 (24 + 10 * b + 2) = x)) (i + 1)))), (3, .int (nI (i + 1)))] ⟨rfl, rfl, congrArg (fun z => some (Value.int z)) (by show nI (cntN _ i) + 1 = nI (cntN _ i + _); simp [c_29, nI_1]), rfl, trivial⟩ ?_
        exact ih (i + 1) (by omega)
  refine z_iconst CX (v := 0) dX6_boatsOf_0 (by decide) ?_
  refine z_istore_n CX 2 dX6_boatsOf_1 rfl (by decide) ?_
  refine z_iconst CX (v := 0) dX6_boatsOf_2 (by decide) ?_
  refine z_istore_n CX 3 dX6_boatsOf_3 rfl (by decide) ?_
  refine z_loc [(0, .ref (wB w + k)), (1, .int x), (2, .int (nI (cntN (fun b => decide (A 0 (24 + 10 * b + 2) = x)) 0))), (3, .int (nI 0))] ⟨rfl, rfl, rfl, rfl, trivial⟩ ?_
  exact LP nb 0 (by omega)
set_option maxHeartbeats 4000000 in
set_option maxRecDepth 100000 in
theorem c_lowW {l : Launch} {w : Wt} {hs : Hs} {n : Option Nat} {k : Nat} {u : Nat → Int32} {A : Nat → Nat → Int32} {nb g L : Nat} (hf : A 0 147 = nI nb) (h9 : nb ≤ 11) (hg : g < 6) (hL : A 0 (4 * g + 0) = nI L) (h40 : L ≤ 40) : Cn l w mX6_lowestWreck 0 0 [.ref (wB w + k), .int (nI g)] (modH w hs k u A) n (modH w hs k u A) n (some (.int (lwR (A 0) nb (nI g) L 0))) := by
  refine Cn.of (d := mX6_lowestWreck) (by decide +kernel) (Nat.le_of_ble_eq_true rfl) ?_
  intro p e R s m args below meth c CX
  replace CX : Ctx p s m args meth c R w RX6 "lowestWreck" cX6_lowestWreck 3 (some .int) 3 65 0 0 := CX
  show ZW p l e R s m args below meth c w 3 _ _ 0 0 (MQ below (Qn w _ _ _) args s 0 0 (wA w)) 0 [(0, .ref (wB w + k)), (1, .int (nI g))] []
  have LP : ∀ (j i : Nat) (v : Int32), i + j = L → v = lwR (A 0) nb (nI g) j i → ZW p l e R s m args below meth c w 3 (modH w hs k u A) n 0 0 (MQ below (Qn w (modH w hs k u A) n (some (.int v))) args s 0 0 (wA w)) 2 [(0, .ref (wB w + k)), (1, .int (nI g)), (2, .int (nI i))] [] := by
    intro j
    induction j with
    | zero =>
      intro i v hi hv
      refine z_iload_n CX 2 dX6_lowestWreck_2 rfl rfl ?_
      refine z_aload_n CX 0 dX6_lowestWreck_3 rfl rfl ?_
      refine z_get CX dX6_lowestWreck_4 fg_X6_7 mo_0 rfl ?_
      refine z_iconst CX (v := 4) dX6_lowestWreck_7 (by decide) ?_
      refine z_iload_n CX 1 dX6_lowestWreck_8 rfl rfl ?_
      refine z_imul CX dX6_lowestWreck_9 ?_
      refine z_iconst CX (v := 0) dX6_lowestWreck_10 (by decide) ?_
      refine z_iadd CX dX6_lowestWreck_11 ?_
      refine z_ia CX (j := ((4 * g) + 0)) dX6_lowestWreck_12 mo_1 (ix_add (ix_mul rfl rfl) rfl) (by omega) (by decide) ?_
      rw [show A 0 (4 * g + 0) = nI L from hL]
      refine z_icmp_ge CX 36 dX6_lowestWreck_13 (by decide) (fun _ => ?_) (fun q9 => absurd (nI_le (by omega) (by omega)) q9)
      refine z_iconst CX (v := (-1 : Int32)) dX6_lowestWreck_36 (by decide) ?_
      exact z_iret CX dX6_lowestWreck_37 rfl (by rw [hv]; rfl) rfl (Or.inl rfl)
    | succ j ih =>
      intro i v hi hv
      refine z_iload_n CX 2 dX6_lowestWreck_2 rfl rfl ?_
      refine z_aload_n CX 0 dX6_lowestWreck_3 rfl rfl ?_
      refine z_get CX dX6_lowestWreck_4 fg_X6_7 mo_0 rfl ?_
      refine z_iconst CX (v := 4) dX6_lowestWreck_7 (by decide) ?_
      refine z_iload_n CX 1 dX6_lowestWreck_8 rfl rfl ?_
      refine z_imul CX dX6_lowestWreck_9 ?_
      refine z_iconst CX (v := 0) dX6_lowestWreck_10 (by decide) ?_
      refine z_iadd CX dX6_lowestWreck_11 ?_
      refine z_ia CX (j := ((4 * g) + 0)) dX6_lowestWreck_12 mo_1 (ix_add (ix_mul rfl rfl) rfl) (by omega) (by decide) ?_
      rw [show A 0 (4 * g + 0) = nI L from hL]
      refine z_icmp_ge CX 36 dX6_lowestWreck_13 (by decide) (fun q9 => absurd q9 (nI_ge (by omega) (by omega))) (fun _ => ?_)
      refine z_aload_n CX 0 dX6_lowestWreck_16 rfl rfl ?_
      refine z_get CX dX6_lowestWreck_17 fg_X6_7 mo_0 rfl ?_
      refine z_iload_n CX 1 dX6_lowestWreck_20 rfl rfl ?_
      refine z_iload_n CX 2 dX6_lowestWreck_21 rfl rfl ?_
      refine z_callS1 CX dX6_lowestWreck_22 cs_X6_68 (Cn.row mq_0 mq_0 (a := k + 1) (c_isW hf h9 (nI g) (nI i))) rfl rfl (Nat.le_of_ble_eq_true rfl) ⟨Nat.le_of_ble_eq_true rfl, Nat.le_of_ble_eq_true rfl⟩ ⟨Nat.le_refl _, Nat.le_refl _⟩ ?_
      refine z_if_eq CX 30 dX6_lowestWreck_25 (by decide) (fun c_25 => ?_) (fun c_25 => ?_)
      · skip
        refine z_iinc CX (v := nI (i + 1)) dX6_lowestWreck_30 rfl (nI_1 i) (by decide) ?_
        refine z_goto CX 2 dX6_lowestWreck_33 (by decide) ?_
        refine z_loc [(0, .ref (wB w + k)), (1, .int (nI g)), (2, .int (nI (i + 1)))] ⟨rfl, rfl, rfl, trivial⟩ ?_
        exact ih (i + 1) v (by omega) (by rw [hv]; show (if _ then _ else _) = _; rw [if_neg (by rw [bI_f c_25]; decide)])
      · skip
        refine z_iload_n CX 2 dX6_lowestWreck_28 rfl rfl ?_
        exact z_iret CX dX6_lowestWreck_29 rfl (by rw [hv]; show Value.int (if _ then _ else _) = _; rw [if_pos (bI_t c_25)]) rfl (Or.inl rfl)
  refine z_iconst CX (v := 0) dX6_lowestWreck_0 (by decide) ?_
  refine z_istore_n CX 2 dX6_lowestWreck_1 rfl (by decide) ?_
  refine z_loc [(0, .ref (wB w + k)), (1, .int (nI g)), (2, .int (nI 0))] ⟨rfl, rfl, rfl, trivial⟩ ?_
  exact LP L 0 _ (by omega) rfl
