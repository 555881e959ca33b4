/-! the model: actions, what is remembered, save slots -/
theorem upd_up {f : Nat → Int32} {i : Nat} {x y : Int32} : upd (upd f i x) i y = upd f i y := by
  funext j; unfold upd; split <;> rfl
def shB (b : Nat → Int32) (i : Nat) : Nat → Int32 := fun j => if j < i then b (157 + j) else b j
def wrB (b : Nat → Int32) (m : Nat) (g : Nat → Int32) (i : Nat) : Nat → Int32 := fun j => if 157 * m ≤ j ∧ j < 157 * m + i then g (j - 157 * m) else b j
def rmB (b : Nat → Int32) (ns : Nat) (g : Nat → Int32) : Nat → Int32 := if ns = 14 then wrB (shB b 2041) 13 g 157 else wrB b ns g 157
def rmN (ns : Nat) : Nat := if ns = 14 then 14 else ns + 1
def sl (b : Nat → Int32) (m : Nat) : Nat → Int32 := fun j => b (157 * m + j)
theorem shB_s {b : Nat → Int32} {i : Nat} : upd (shB b i) i (shB b i (157 + i)) = shB b (i + 1) := by
  funext j; unfold upd shB
  by_cases h : j = i
  · subst h; rw [if_pos rfl, if_neg (by omega), if_pos (by omega)]
  · rw [if_neg h]
    by_cases h2 : j < i
    · rw [if_pos h2, if_pos (by omega)]
    · rw [if_neg h2, if_neg (by omega)]
theorem shB_0 {b : Nat → Int32} : shB b 0 = b := funext fun j => if_neg (Nat.not_lt_zero j)
theorem wrB_s {b g : Nat → Int32} {m i : Nat} : upd (wrB b m g i) (157 * m + i) (g i) = wrB b m g (i + 1) := by
  funext j; unfold upd wrB
  by_cases h : j = 157 * m + i
  · subst h; rw [if_pos rfl, if_pos (by omega), show 157 * m + i - 157 * m = i by omega]
  · rw [if_neg h]
    by_cases h2 : 157 * m ≤ j ∧ j < 157 * m + i
    · rw [if_pos h2, if_pos (by omega)]
    · rw [if_neg h2, if_neg (by omega)]
theorem wrB_0 {b g : Nat → Int32} {m : Nat} : wrB b m g 0 = b := funext fun j => if_neg (by omega)
set_option maxHeartbeats 4000000 in
set_option maxRecDepth 100000 in
theorem c_rem {l : Launch} {w : Wt} {hs : Hs} {n : Option Nat} {k : Nat} {u : Nat → Int32} {A : Nat → Nat → Int32} {ns : Nat} (hn : u 1 = nI ns) (h14 : ns ≤ 14) : Cn l w mX6_remember 0 0 [.ref (wB w + k)] (modH w hs k u A) n (modH w hs k (upd u 1 (nI (rmN ns))) (upA A 3 (rmB (A 3) ns (A 0)))) n none := by
  refine Cn.of (d := mX6_remember) (by decide +kernel) (Nat.le_of_ble_eq_true rfl) ?_
  intro p e R s m args below meth c CX
  replace CX : Ctx p s m args meth c R w RX6 "remember" cX6_remember 2 none 0 0 0 0 := CX
  show ZW p l e R s m args below meth c w 2 _ _ 0 0 (MQ below (Qn w _ _ _) args s 0 0 (wA w)) 0 [(0, .ref (wB w + k))] []
  have L2 : ∀ (u2 b9 : Nat → Int32) (m9 : Nat) (hm : u2 1 = nI m9) (h13 : m9 ≤ 13) (j i : Nat), i + j = 157 → ZW p l e R s m args below meth c w 2 (modH w hs k u2 (upA A 3 (wrB b9 m9 (A 0) i))) n 0 0 (MQ below (Qn w (modH w hs k (upd u2 1 (nI (m9 + 1))) (upA A 3 (wrB b9 m9 (A 0) 157))) n none) args s 0 0 (wA w)) 52 [(0, .ref (wB w + k)), (1, .int (nI i))] [] := by
    intro u2 b9 m9 hm h13 j
    induction j with
    | zero =>
      intro i hi
      have hi9 : i = 157 := by omega
      subst hi9
      refine z_iload_n CX 1 dX6_remember_52 rfl rfl ?_
      refine z_sipush CX (v := 157) dX6_remember_53 (by decide) ?_
      refine z_icmp_ge CX 86 dX6_remember_56 (by decide) (fun _ => ?_) (fun q9 => absurd (by decide) q9)
      refine z_aload_n CX 0 dX6_remember_86 rfl rfl ?_
      refine z_dup CX dX6_remember_87 rfl ?_
      refine z_get CX dX6_remember_88 fg_X6_114 mo_0 rfl ?_
      refine z_iconst CX (v := 1) dX6_remember_91 (by decide) ?_
      rw [hm]
      refine z_iadd CX dX6_remember_92 ?_
      rw [nI_1]
      refine z_put CX dX6_remember_93 fg_X6_114 fp_X6_5 mo_0 (Nat.le_of_ble_eq_true rfl) rfl rfl ?_
      refine z_heap mo_f1 ?_
      exact z_vret CX dX6_remember_96 rfl rfl (Or.inl rfl)
    | succ j ih =>
      intro i hi
      refine z_iload_n CX 1 dX6_remember_52 rfl rfl ?_
      refine z_sipush CX (v := 157) dX6_remember_53 (by decide) ?_
      refine z_icmp_ge CX 86 dX6_remember_56 (by decide) (fun q9 => absurd q9 (nI_ge (b := 157) (by omega) (by omega))) (fun _ => ?_)
      refine z_aload_n CX 0 dX6_remember_59 rfl rfl ?_
      refine z_get CX dX6_remember_60 fg_X6_19 mo_0 rfl ?_
      refine z_sipush CX (v := 157) dX6_remember_63 (by decide) ?_
      refine z_aload_n CX 0 dX6_remember_66 rfl rfl ?_
      refine z_get CX dX6_remember_67 fg_X6_114 mo_0 rfl ?_
      refine z_imul CX dX6_remember_70 ?_
      refine z_iload_n CX 1 dX6_remember_71 rfl rfl ?_
      refine z_iadd CX dX6_remember_72 ?_
      refine z_aload_n CX 0 dX6_remember_73 rfl rfl ?_
      refine z_get CX dX6_remember_74 fg_X6_7 mo_0 rfl ?_
      refine z_iload_n CX 1 dX6_remember_77 rfl rfl ?_
      refine z_ia CX (j := i) dX6_remember_78 mo_1 rfl (by omega) (by decide) ?_
      refine z_is CX (j := ((157 * m9) + i)) dX6_remember_79 mo_4 (ix_add (ix_mul rfl hm) rfl) (by omega) (by decide) ?_
      refine z_heap mo_a3 ?_
      refine z_iinc CX (v := nI (i + 1)) dX6_remember_80 rfl (nI_1 i) (by decide) ?_
      refine z_goto CX 52 dX6_remember_83 (by decide) ?_
      refine z_heap (congrArg (fun z => modH w hs k u2 z) (upA_up.trans (congrArg (upA A 3) wrB_s))) ?_
      refine z_loc [(0, .ref (wB w + k)), (1, .int (nI (i + 1)))] ⟨rfl, rfl, trivial⟩ ?_
      exact ih (i + 1) (by omega)
  by_cases h0 : ns = 14
  · subst h0
    have LP : ∀ (j i : Nat), i + j = 2041 → ZW p l e R s m args below meth c w 2 (modH w hs k u (upA A 3 (shB (A 3) i))) n 0 0 (MQ below (Qn w (modH w hs k (upd u 1 (nI 14)) (upA A 3 (wrB (shB (A 3) 2041) 13 (A 0) 157))) n none) args s 0 0 (wA w)) 11 [(0, .ref (wB w + k)), (1, .int (nI i))] [] := by
      intro j
      induction j with
      | zero =>
        intro i hi
        have hi9 : i = 2041 := by omega
        subst hi9
        refine z_iload_n CX 1 dX6_remember_11 rfl rfl ?_
        refine z_sipush CX (v := 2041) dX6_remember_12 (by decide) ?_
        refine z_icmp_ge CX 40 dX6_remember_15 (by decide) (fun _ => ?_) (fun q9 => absurd (by decide) q9)
        refine z_aload_n CX 0 dX6_remember_40 rfl rfl ?_
        refine z_dup CX dX6_remember_41 rfl ?_
        refine z_get CX dX6_remember_42 fg_X6_114 mo_0 rfl ?_
        refine z_iconst CX (v := 1) dX6_remember_45 (by decide) ?_
        rw [show u 1 = nI 14 from hn]
        refine z_isub CX dX6_remember_46 ?_
        refine z_put CX dX6_remember_47 fg_X6_114 fp_X6_5 mo_0 (Nat.le_of_ble_eq_true rfl) rfl rfl ?_
        refine z_heap mo_f1 ?_
        refine z_iconst CX (v := 0) dX6_remember_50 (by decide) ?_
        refine z_istore_n CX 1 dX6_remember_51 rfl (by decide) ?_
        refine z_heap (congrArg (fun z => modH w hs k (upd u 1 (nI 13)) (upA A 3 z)) (wrB_0 (b := shB (A 3) 2041) (m := 13) (g := A 0)).symm) ?_
        refine z_loc [(0, .ref (wB w + k)), (1, .int (nI 0))] ⟨rfl, rfl, trivial⟩ ?_
        have L3 := L2 (upd u 1 (nI 13)) (shB (A 3) 2041) 13 rfl (by omega) 157 0 (by omega)
        rw [upd_up] at L3
        exact L3
      | succ j ih =>
        intro i hi
        refine z_iload_n CX 1 dX6_remember_11 rfl rfl ?_
        refine z_sipush CX (v := 2041) dX6_remember_12 (by decide) ?_
        refine z_icmp_ge CX 40 dX6_remember_15 (by decide) (fun q9 => absurd q9 (nI_ge (b := 2041) (by omega) (by omega))) (fun _ => ?_)
        refine z_aload_n CX 0 dX6_remember_18 rfl rfl ?_
        refine z_get CX dX6_remember_19 fg_X6_19 mo_0 rfl ?_
        refine z_iload_n CX 1 dX6_remember_22 rfl rfl ?_
        refine z_aload_n CX 0 dX6_remember_23 rfl rfl ?_
        refine z_get CX dX6_remember_24 fg_X6_19 mo_0 rfl ?_
        refine z_sipush CX (v := 157) dX6_remember_27 (by decide) ?_
        refine z_iload_n CX 1 dX6_remember_30 rfl rfl ?_
        refine z_iadd CX dX6_remember_31 ?_
        refine z_ia CX (j := (157 + i)) dX6_remember_32 mo_4 (ix_add rfl rfl) (by omega) (by decide) ?_
        refine z_is CX (j := i) dX6_remember_33 mo_4 rfl (by omega) (by decide) ?_
        refine z_heap mo_a3 ?_
        refine z_iinc CX (v := nI (i + 1)) dX6_remember_34 rfl (nI_1 i) (by decide) ?_
        refine z_goto CX 11 dX6_remember_37 (by decide) ?_
        refine z_heap (congrArg (fun z => modH w hs k u z) (upA_up.trans (congrArg (upA A 3) shB_s))) ?_
        refine z_loc [(0, .ref (wB w + k)), (1, .int (nI (i + 1)))] ⟨rfl, rfl, trivial⟩ ?_
        exact ih (i + 1) (by omega)
    refine z_aload_n CX 0 dX6_remember_0 rfl rfl ?_
    refine z_get CX dX6_remember_1 fg_X6_114 mo_0 rfl ?_
    refine z_bipush CX (v := 14) dX6_remember_4 (by decide) ?_
    refine z_icmp_ne CX 50 dX6_remember_6 (by decide) (fun q9 => absurd q9 (fun z => z hn)) (fun _ => ?_)
    refine z_iconst CX (v := 0) dX6_remember_9 (by decide) ?_
    refine z_istore_n CX 1 dX6_remember_10 rfl (by decide) ?_
    refine z_heap (congrArg (fun z => modH w hs k u z) ((congrArg (upA A 3) shB_0).trans upA_id).symm) ?_
    refine z_loc [(0, .ref (wB w + k)), (1, .int (nI 0))] ⟨rfl, rfl, trivial⟩ ?_
    exact LP 2041 0 (by omega)
  · rw [show rmN ns = ns + 1 from if_neg h0, show rmB (A 3) ns (A 0) = wrB (A 3) ns (A 0) 157 from if_neg h0]
    refine z_aload_n CX 0 dX6_remember_0 rfl rfl ?_
    refine z_get CX dX6_remember_1 fg_X6_114 mo_0 rfl ?_
    refine z_bipush CX (v := 14) dX6_remember_4 (by decide) ?_
    refine z_icmp_ne CX 50 dX6_remember_6 (by decide) (fun _ => ?_) (fun q9 => absurd q9 (by rw [hn]; exact fun z => h0 ((nI_eq (b := 14) (by omega) (by omega)).mp z)))
    refine z_iconst CX (v := 0) dX6_remember_50 (by decide) ?_
    refine z_istore_n CX 1 dX6_remember_51 rfl (by decide) ?_
    refine z_heap (congrArg (fun z => modH w hs k u z) ((congrArg (upA A 3) (wrB_0 (m := ns) (g := A 0))).trans upA_id).symm) ?_
    refine z_loc [(0, .ref (wB w + k)), (1, .int (nI 0))] ⟨rfl, rfl, trivial⟩ ?_
    exact L2 u (A 3) ns hn (by omega) 157 0 (by omega)
def RU (u : Nat → Int32) (ns : Nat) : Nat → Int32 := upd (upd u 0 0) 1 (nI (rmN ns))
def RA (A : Nat → Nat → Int32) (ns : Nat) : Nat → Nat → Int32 := upA A 3 (rmB (A 3) ns (A 0))
def act (u : Nat → Int32) (A : Nat → Nat → Int32) (ns : Nat) (v : Int32) (f : Nat → Int32) : RSt := (0, v, RU u ns, upA (RA A ns) 0 f)
def rs_gutter (u : Nat → Int32) (A : Nat → Nat → Int32) (ns : Nat) (a b c d : Int32) : RSt := if gN (A 0) = 0 ∨ icl (A 0) (gN (A 0)) c d = true then (if (4 ≤ a ∧ a ≤ 40) ∧ (0 ≤ b ∧ b ≤ 5) then (if gN (A 0) < 6 then act u A ns (nI (gN (A 0))) (adgF (A 0) (gN (A 0)) a b c d) else bad 3 u A) else bad 2 u A) else bad 1 u A
def rs_boat (u : Nat → Int32) (A : Nat → Nat → Int32) (ns : Nat) (a b c : Int32) : RSt := if 0 ≤ c ∧ c ≤ 3 then (if (1 ≤ a ∧ a ≤ 9) ∧ (0 ≤ b ∧ b ≤ 3) then (if bN (A 0) < 10 then act u A ns (nI (bN (A 0))) (adbF (A 0) (bN (A 0)) a b c) else bad 3 u A) else bad 2 u A) else bad 1 u A
def rs_launch (u : Nat → Int32) (A : Nat → Nat → Int32) (ns : Nat) (a b : Int32) : RSt := if (0 ≤ a ∧ a < nI (bN (A 0))) ∧ (0 ≤ b ∧ b < nI (gN (A 0))) then (if A 0 (24 + 10 * a.toNatClampNeg + 3) = 0 then act u A ns (drn (A 0) 6 0 b.toNatClampNeg 0) (lnF (A 0) (bN (A 0)) a.toNatClampNeg b) else bad 2 u A) else bad 1 u A
def rs_hook (u : Nat → Int32) (A : Nat → Nat → Int32) (ns : Nat) (a b c : Int32) : RSt := if (0 ≤ a ∧ a ≤ 3) ∧ icl (A 0) (gN (A 0)) b c = true then act u A ns (nI (clbF (hokF (A 0) a.toNatClampNeg b c) (bN (A 0)) a.toNatClampNeg)) (hokF (A 0) a.toNatClampNeg b c) else bad 1 u A
def rs_claim (u : Nat → Int32) (A : Nat → Nat → Int32) (ns : Nat) (a b : Int32) : RSt := if (0 ≤ a ∧ a ≤ 3) ∧ (0 ≤ b ∧ b < nI (bN (A 0))) then act u A ns (whyF (A 0) a.toNatClampNeg b.toNatClampNeg) (clmF (A 0) a.toNatClampNeg b.toNatClampNeg) else bad 1 u A
def rs_minutes (u : Nat → Int32) (A : Nat → Nat → Int32) (ns : Nat) (a : Int32) : RSt := if 1 ≤ a ∧ a ≤ 60 then act u A ns (nI (gms (bN (A 0)) a.toNatClampNeg (A 0)).1) (gms (bN (A 0)) a.toNatClampNeg (A 0)).2 else bad 1 u A
def rs_set (u : Nat → Int32) (A : Nat → Nat → Int32) (ns : Nat) (a b : Int32) : RSt := if isSetP a b then act u A ns (A 0 (154 + a.toNatClampNeg)) (upd (A 0) (154 + a.toNatClampNeg) b) else bad 1 u A
def rs_undo (u : Nat → Int32) (A : Nat → Nat → Int32) (ns : Nat) : RSt := if ns = 0 then bad 1 u A else (0, nI (ns - 1), upd (upd u 0 0) 1 (nI (ns - 1)), upA A 0 (cpyF 157 (sl (A 3) (ns - 1)) (A 0)))
def rs_save (u : Nat → Int32) (A : Nat → Nat → Int32) (a : Int32) : RSt := if 0 ≤ a ∧ a ≤ 1 then (0, A 0 148, upd u 0 0, upA (upA A 4 (wrB (A 4) a.toNatClampNeg (A 0) 157)) 5 (upd (A 5) a.toNatClampNeg 1)) else bad 1 u A
def rs_restore (u : Nat → Int32) (A : Nat → Nat → Int32) (a : Int32) : RSt := if 0 ≤ a ∧ a ≤ 1 then (if A 5 a.toNatClampNeg = 0 then bad 2 u A else (0, sl (A 4) a.toNatClampNeg 148, upd (upd u 0 0) 1 0, upA A 0 (cpyF 157 (sl (A 4) a.toNatClampNeg) (A 0)))) else bad 1 u A
set_option maxHeartbeats 4000000 in
set_option maxRecDepth 100000 in
theorem m_gutter {l : Launch} {w : Wt} {hs : Hs} {n : Option Nat} {k : Nat} {u : Nat → Int32} {A : Nat → Nat → Int32} (hO : OKr (A 0)) {ns : Nat} (hn : u 1 = nI ns) (h14 : ns ≤ 14) (a b x y : Int32) : Cn l w mX6_gutter 0 0 [.ref (wB w + k), .int a, .int b, .int x, .int y] (modH w hs k u A) n (modH w hs k (rs_gutter u A ns a b x y).2.2.1 (rs_gutter u A ns a b x y).2.2.2) n (some (.int (rs_gutter u A ns a b x y).2.1)) := by
  have h6 := hO.1.1.2.1
  by_cases h0 : gN (A 0) = 0 ∨ icl (A 0) (gN (A 0)) x y = true
  · have hf : (decide (gN (A 0) = 0) || icl (A 0) (gN (A 0)) x y) = true := Bool.or_eq_true_iff.mpr (h0.imp decide_eq_true id)
    by_cases h1 : (4 ≤ a ∧ a ≤ 40) ∧ (0 ≤ b ∧ b ≤ 5)
    · by_cases h2 : gN (A 0) < 6
      · rw [show rs_gutter u A ns a b x y = act u A ns (nI (gN (A 0))) (adgF (A 0) (gN (A 0)) a b x y) by unfold rs_gutter; rw [if_pos h0, if_pos h1, if_pos h2]]
        refine Cn.of (d := mX6_gutter) (by decide +kernel) (Nat.le_of_ble_eq_true rfl) ?_
        intro p e R s m args below meth c CX
        replace CX : Ctx p s m args meth c R w RX6 "gutter" cX6_gutter 5 (some .int) 4 90 0 0 := CX
        show ZW p l e R s m args below meth c w 5 _ _ 0 0 (MQ below (Qn w _ _ _) args s 0 0 (wA w)) 0 [(0, .ref (wB w + k)), (1, .int _), (2, .int _), (3, .int _), (4, .int _)] []
        refine z_aload_n CX 0 dX6_gutter_0 rfl rfl ?_
        refine z_aload_n CX 0 dX6_gutter_1 rfl rfl ?_
        refine z_get CX dX6_gutter_2 fg_X6_7 mo_0 rfl ?_
        refine z_iload_n CX 3 dX6_gutter_5 rfl rfl ?_
        refine z_iload CX dX6_gutter_6 rfl ?_
        refine z_callS1 CX dX6_gutter_8 cs_X6_151 (Cn.row mq_0 mq_0 (a := k + 1) (c_flow hO.1.1 _ _)) rfl rfl (Nat.le_of_ble_eq_true rfl) ⟨Nat.le_of_ble_eq_true rfl, Nat.le_of_ble_eq_true rfl⟩ ⟨Nat.le_refl _, Nat.le_refl _⟩ ?_
        refine z_if_ne CX 18 dX6_gutter_11 (by decide) (fun _ => ?_) (fun q9 => absurd q9 (by rw [hf]; decide))
        refine z_iload_n CX 1 dX6_gutter_18 rfl rfl ?_
        refine z_iload_n CX 2 dX6_gutter_19 rfl rfl ?_
        refine z_callS1 CX dX6_gutter_20 cs_X6_240 (c_isFlow _ _) rfl rfl (Nat.le_of_ble_eq_true rfl) ⟨Nat.le_of_ble_eq_true rfl, Nat.le_of_ble_eq_true rfl⟩ ⟨Nat.le_refl _, Nat.le_refl _⟩ ?_
        refine z_if_ne CX 30 dX6_gutter_23 (by decide) (fun _ => ?_) (fun q9 => absurd q9 (by rw [bI_1 h1]; decide))
        refine z_aload_n CX 0 dX6_gutter_30 rfl rfl ?_
        refine z_get CX dX6_gutter_31 fg_X6_7 mo_0 rfl ?_
        refine z_sipush CX (v := 146) dX6_gutter_34 (by decide) ?_
        refine z_ia CX (j := 146) dX6_gutter_37 mo_1 rfl (by omega) (by decide) ?_
        refine z_bipush CX (v := 6) dX6_gutter_38 (by decide) ?_
        rw [show A 0 146 = nI (gN (A 0)) from hO.1.1.1]
        refine z_icmp_ne CX 47 dX6_gutter_40 (by decide) (fun _ => ?_) (fun q9 => absurd q9 (fun z => absurd ((nI_eq (b := 6) (by omega) (by omega)).mp z) (by omega)))
        refine z_iconst CX (v := 0) dX6_gutter_47 (by decide) ?_
        refine z_callV1 CX dX6_gutter_48 cv_X6_122 (c_ref _) mo_0 rfl rfl (Nat.le_of_ble_eq_true rfl) ⟨Nat.le_of_ble_eq_true rfl, Nat.le_of_ble_eq_true rfl⟩ ⟨Nat.le_refl _, Nat.le_refl _⟩ ?_
        refine z_if_eq CX 56 dX6_gutter_51 (by decide) (fun _ => ?_) (fun q9 => absurd (by decide) q9)
        refine z_aload_n CX 0 dX6_gutter_56 rfl rfl ?_
        refine z_callV0 CX dX6_gutter_57 cv_X6_243 (c_rem (u := upd u 0 0) (A := A) (ns := ns) hn h14) mo_0 rfl rfl (Nat.le_of_ble_eq_true rfl) ⟨Nat.le_of_ble_eq_true rfl, Nat.le_of_ble_eq_true rfl⟩ ⟨Nat.le_refl _, Nat.le_refl _⟩ ?_
        refine z_aload_n CX 0 dX6_gutter_60 rfl rfl ?_
        refine z_get CX dX6_gutter_61 fg_X6_7 mo_0 rfl ?_
        refine z_iload_n CX 1 dX6_gutter_64 rfl rfl ?_
        refine z_iload_n CX 2 dX6_gutter_65 rfl rfl ?_
        refine z_iload_n CX 3 dX6_gutter_66 rfl rfl ?_
        refine z_iload CX dX6_gutter_67 rfl ?_
        refine z_callS1 CX dX6_gutter_69 cs_X6_158 (Cn.row (mq_0 (A := RA A ns)) (mr_0 (A := RA A ns)) (a := k + 1) (f := A 0) (c_addG hO.1.1.1 h2 a b x y)) rfl rfl (Nat.le_of_ble_eq_true rfl) ⟨Nat.le_of_ble_eq_true rfl, Nat.le_of_ble_eq_true rfl⟩ ⟨Nat.le_refl _, Nat.le_refl _⟩ ?_
        exact z_iret CX dX6_gutter_72 rfl rfl rfl (Or.inl rfl)
      · rw [show rs_gutter u A ns a b x y = bad 3 u A by unfold rs_gutter; rw [if_pos h0, if_pos h1, if_neg h2]]
        refine Cn.of (d := mX6_gutter) (by decide +kernel) (Nat.le_of_ble_eq_true rfl) ?_
        intro p e R s m args below meth c CX
        replace CX : Ctx p s m args meth c R w RX6 "gutter" cX6_gutter 5 (some .int) 4 90 0 0 := CX
        show ZW p l e R s m args below meth c w 5 _ _ 0 0 (MQ below (Qn w _ _ _) args s 0 0 (wA w)) 0 [(0, .ref (wB w + k)), (1, .int _), (2, .int _), (3, .int _), (4, .int _)] []
        refine z_aload_n CX 0 dX6_gutter_0 rfl rfl ?_
        refine z_aload_n CX 0 dX6_gutter_1 rfl rfl ?_
        refine z_get CX dX6_gutter_2 fg_X6_7 mo_0 rfl ?_
        refine z_iload_n CX 3 dX6_gutter_5 rfl rfl ?_
        refine z_iload CX dX6_gutter_6 rfl ?_
        refine z_callS1 CX dX6_gutter_8 cs_X6_151 (Cn.row mq_0 mq_0 (a := k + 1) (c_flow hO.1.1 _ _)) rfl rfl (Nat.le_of_ble_eq_true rfl) ⟨Nat.le_of_ble_eq_true rfl, Nat.le_of_ble_eq_true rfl⟩ ⟨Nat.le_refl _, Nat.le_refl _⟩ ?_
        refine z_if_ne CX 18 dX6_gutter_11 (by decide) (fun _ => ?_) (fun q9 => absurd q9 (by rw [hf]; decide))
        refine z_iload_n CX 1 dX6_gutter_18 rfl rfl ?_
        refine z_iload_n CX 2 dX6_gutter_19 rfl rfl ?_
        refine z_callS1 CX dX6_gutter_20 cs_X6_240 (c_isFlow _ _) rfl rfl (Nat.le_of_ble_eq_true rfl) ⟨Nat.le_of_ble_eq_true rfl, Nat.le_of_ble_eq_true rfl⟩ ⟨Nat.le_refl _, Nat.le_refl _⟩ ?_
        refine z_if_ne CX 30 dX6_gutter_23 (by decide) (fun _ => ?_) (fun q9 => absurd q9 (by rw [bI_1 h1]; decide))
        refine z_aload_n CX 0 dX6_gutter_30 rfl rfl ?_
        refine z_get CX dX6_gutter_31 fg_X6_7 mo_0 rfl ?_
        refine z_sipush CX (v := 146) dX6_gutter_34 (by decide) ?_
        refine z_ia CX (j := 146) dX6_gutter_37 mo_1 rfl (by omega) (by decide) ?_
        refine z_bipush CX (v := 6) dX6_gutter_38 (by decide) ?_
        rw [show A 0 146 = nI (gN (A 0)) from hO.1.1.1]
        refine z_icmp_ne CX 47 dX6_gutter_40 (by decide) (fun q9 => absurd q9 (fun z => z (by rw [show gN (A 0) = 6 by omega]; rfl))) (fun _ => ?_)
        refine z_iconst CX (v := 3) dX6_gutter_43 (by decide) ?_
        refine z_goto CX 48 dX6_gutter_44 (by decide) ?_
        refine z_callV1 CX dX6_gutter_48 cv_X6_122 (c_ref _) mo_0 rfl rfl (Nat.le_of_ble_eq_true rfl) ⟨Nat.le_of_ble_eq_true rfl, Nat.le_of_ble_eq_true rfl⟩ ⟨Nat.le_refl _, Nat.le_refl _⟩ ?_
        refine z_if_eq CX 56 dX6_gutter_51 (by decide) (fun q9 => absurd q9 (by decide)) (fun _ => ?_)
        refine z_iconst CX (v := 0) dX6_gutter_54 (by decide) ?_
        exact z_iret CX dX6_gutter_55 rfl rfl rfl (Or.inl rfl)
    · rw [show rs_gutter u A ns a b x y = bad 2 u A by unfold rs_gutter; rw [if_pos h0, if_neg h1]]
      refine Cn.of (d := mX6_gutter) (by decide +kernel) (Nat.le_of_ble_eq_true rfl) ?_
      intro p e R s m args below meth c CX
      replace CX : Ctx p s m args meth c R w RX6 "gutter" cX6_gutter 5 (some .int) 4 90 0 0 := CX
      show ZW p l e R s m args below meth c w 5 _ _ 0 0 (MQ below (Qn w _ _ _) args s 0 0 (wA w)) 0 [(0, .ref (wB w + k)), (1, .int _), (2, .int _), (3, .int _), (4, .int _)] []
      refine z_aload_n CX 0 dX6_gutter_0 rfl rfl ?_
      refine z_aload_n CX 0 dX6_gutter_1 rfl rfl ?_
      refine z_get CX dX6_gutter_2 fg_X6_7 mo_0 rfl ?_
      refine z_iload_n CX 3 dX6_gutter_5 rfl rfl ?_
      refine z_iload CX dX6_gutter_6 rfl ?_
      refine z_callS1 CX dX6_gutter_8 cs_X6_151 (Cn.row mq_0 mq_0 (a := k + 1) (c_flow hO.1.1 _ _)) rfl rfl (Nat.le_of_ble_eq_true rfl) ⟨Nat.le_of_ble_eq_true rfl, Nat.le_of_ble_eq_true rfl⟩ ⟨Nat.le_refl _, Nat.le_refl _⟩ ?_
      refine z_if_ne CX 18 dX6_gutter_11 (by decide) (fun _ => ?_) (fun q9 => absurd q9 (by rw [hf]; decide))
      refine z_iload_n CX 1 dX6_gutter_18 rfl rfl ?_
      refine z_iload_n CX 2 dX6_gutter_19 rfl rfl ?_
      refine z_callS1 CX dX6_gutter_20 cs_X6_240 (c_isFlow _ _) rfl rfl (Nat.le_of_ble_eq_true rfl) ⟨Nat.le_of_ble_eq_true rfl, Nat.le_of_ble_eq_true rfl⟩ ⟨Nat.le_refl _, Nat.le_refl _⟩ ?_
      refine z_if_ne CX 30 dX6_gutter_23 (by decide) (fun q9 => absurd q9 (fun q => q (bI_0 h1))) (fun _ => ?_)
      refine z_iconst CX (v := 2) dX6_gutter_26 (by decide) ?_
      refine z_goto CX 48 dX6_gutter_27 (by decide) ?_
      refine z_callV1 CX dX6_gutter_48 cv_X6_122 (c_ref _) mo_0 rfl rfl (Nat.le_of_ble_eq_true rfl) ⟨Nat.le_of_ble_eq_true rfl, Nat.le_of_ble_eq_true rfl⟩ ⟨Nat.le_refl _, Nat.le_refl _⟩ ?_
      refine z_if_eq CX 56 dX6_gutter_51 (by decide) (fun q9 => absurd q9 (by decide)) (fun _ => ?_)
      refine z_iconst CX (v := 0) dX6_gutter_54 (by decide) ?_
      exact z_iret CX dX6_gutter_55 rfl rfl rfl (Or.inl rfl)
  · have hf : (decide (gN (A 0) = 0) || icl (A 0) (gN (A 0)) x y) = false := Bool.eq_false_iff.mpr (fun z => h0 ((Bool.or_eq_true_iff.mp z).imp of_decide_eq_true id))
    rw [show rs_gutter u A ns a b x y = bad 1 u A from if_neg h0]
    refine Cn.of (d := mX6_gutter) (by decide +kernel) (Nat.le_of_ble_eq_true rfl) ?_
    intro p e R s m args below meth c CX
    replace CX : Ctx p s m args meth c R w RX6 "gutter" cX6_gutter 5 (some .int) 4 90 0 0 := CX
    show ZW p l e R s m args below meth c w 5 _ _ 0 0 (MQ below (Qn w _ _ _) args s 0 0 (wA w)) 0 [(0, .ref (wB w + k)), (1, .int _), (2, .int _), (3, .int _), (4, .int _)] []
    refine z_aload_n CX 0 dX6_gutter_0 rfl rfl ?_
    refine z_aload_n CX 0 dX6_gutter_1 rfl rfl ?_
    refine z_get CX dX6_gutter_2 fg_X6_7 mo_0 rfl ?_
    refine z_iload_n CX 3 dX6_gutter_5 rfl rfl ?_
    refine z_iload CX dX6_gutter_6 rfl ?_
    refine z_callS1 CX dX6_gutter_8 cs_X6_151 (Cn.row mq_0 mq_0 (a := k + 1) (c_flow hO.1.1 _ _)) rfl rfl (Nat.le_of_ble_eq_true rfl) ⟨Nat.le_of_ble_eq_true rfl, Nat.le_of_ble_eq_true rfl⟩ ⟨Nat.le_refl _, Nat.le_refl _⟩ ?_
    refine z_if_ne CX 18 dX6_gutter_11 (by decide) (fun q9 => absurd q9 (by rw [hf]; decide)) (fun _ => ?_)
    refine z_iconst CX (v := 1) dX6_gutter_14 (by decide) ?_
    refine z_goto CX 48 dX6_gutter_15 (by decide) ?_
    refine z_callV1 CX dX6_gutter_48 cv_X6_122 (c_ref _) mo_0 rfl rfl (Nat.le_of_ble_eq_true rfl) ⟨Nat.le_of_ble_eq_true rfl, Nat.le_of_ble_eq_true rfl⟩ ⟨Nat.le_refl _, Nat.le_refl _⟩ ?_
    refine z_if_eq CX 56 dX6_gutter_51 (by decide) (fun q9 => absurd q9 (by decide)) (fun _ => ?_)
    refine z_iconst CX (v := 0) dX6_gutter_54 (by decide) ?_
    exact z_iret CX dX6_gutter_55 rfl rfl rfl (Or.inl rfl)
set_option maxHeartbeats 4000000 in
set_option maxRecDepth 100000 in
theorem m_boat {l : Launch} {w : Wt} {hs : Hs} {n : Option Nat} {k : Nat} {u : Nat → Int32} {A : Nat → Nat → Int32} (hO : OKr (A 0)) {ns : Nat} (hn : u 1 = nI ns) (h14 : ns ≤ 14) (a b x : Int32) : Cn l w mX6_boat 0 0 [.ref (wB w + k), .int a, .int b, .int x] (modH w hs k u A) n (modH w hs k (rs_boat u A ns a b x).2.2.1 (rs_boat u A ns a b x).2.2.2) n (some (.int (rs_boat u A ns a b x).2.1)) := by
  have h9 := hO.2.2
  by_cases h0 : 0 ≤ x ∧ x ≤ 3
  · by_cases h1 : (1 ≤ a ∧ a ≤ 9) ∧ (0 ≤ b ∧ b ≤ 3)
    · by_cases h2 : bN (A 0) < 10
      · rw [show rs_boat u A ns a b x = act u A ns (nI (bN (A 0))) (adbF (A 0) (bN (A 0)) a b x) by unfold rs_boat; rw [if_pos h0, if_pos h1, if_pos h2]]
        refine Cn.of (d := mX6_boat) (by decide +kernel) (Nat.le_of_ble_eq_true rfl) ?_
        intro p e R s m args below meth c CX
        replace CX : Ctx p s m args meth c R w RX6 "boat" cX6_boat 4 (some .int) 2 46 0 0 := CX
        show ZW p l e R s m args below meth c w 4 _ _ 0 0 (MQ below (Qn w _ _ _) args s 0 0 (wA w)) 0 [(0, .ref (wB w + k)), (1, .int _), (2, .int _), (3, .int _)] []
        refine z_aload_n CX 0 dX6_boat_0 rfl rfl ?_
        refine z_iload_n CX 3 dX6_boat_1 rfl rfl ?_
        refine z_callS1 CX dX6_boat_2 cs_X6_232 (c_isO _) rfl rfl (Nat.le_of_ble_eq_true rfl) ⟨Nat.le_of_ble_eq_true rfl, Nat.le_of_ble_eq_true rfl⟩ ⟨Nat.le_refl _, Nat.le_refl _⟩ ?_
        refine z_if_ne CX 12 dX6_boat_5 (by decide) (fun _ => ?_) (fun q9 => absurd q9 (by rw [bI_1 h0]; decide))
        refine z_iload_n CX 1 dX6_boat_12 rfl rfl ?_
        refine z_iload_n CX 2 dX6_boat_13 rfl rfl ?_
        refine z_callS1 CX dX6_boat_14 cs_X6_246 (c_isFolded _ _) rfl rfl (Nat.le_of_ble_eq_true rfl) ⟨Nat.le_of_ble_eq_true rfl, Nat.le_of_ble_eq_true rfl⟩ ⟨Nat.le_refl _, Nat.le_refl _⟩ ?_
        refine z_if_ne CX 24 dX6_boat_17 (by decide) (fun _ => ?_) (fun q9 => absurd q9 (by rw [bI_1 h1]; decide))
        refine z_aload_n CX 0 dX6_boat_24 rfl rfl ?_
        refine z_get CX dX6_boat_25 fg_X6_7 mo_0 rfl ?_
        refine z_sipush CX (v := 147) dX6_boat_28 (by decide) ?_
        refine z_ia CX (j := 147) dX6_boat_31 mo_1 rfl (by omega) (by decide) ?_
        refine z_bipush CX (v := 10) dX6_boat_32 (by decide) ?_
        rw [show A 0 147 = nI (bN (A 0)) from hO.1.2.1]
        refine z_icmp_ne CX 41 dX6_boat_34 (by decide) (fun _ => ?_) (fun q9 => absurd q9 (fun z => absurd ((nI_eq (b := 10) (by omega) (by omega)).mp z) (by omega)))
        refine z_iconst CX (v := 0) dX6_boat_41 (by decide) ?_
        refine z_callV1 CX dX6_boat_42 cv_X6_122 (c_ref _) mo_0 rfl rfl (Nat.le_of_ble_eq_true rfl) ⟨Nat.le_of_ble_eq_true rfl, Nat.le_of_ble_eq_true rfl⟩ ⟨Nat.le_refl _, Nat.le_refl _⟩ ?_
        refine z_if_eq CX 50 dX6_boat_45 (by decide) (fun _ => ?_) (fun q9 => absurd (by decide) q9)
        refine z_aload_n CX 0 dX6_boat_50 rfl rfl ?_
        refine z_callV0 CX dX6_boat_51 cv_X6_243 (c_rem (u := upd u 0 0) (A := A) (ns := ns) hn h14) mo_0 rfl rfl (Nat.le_of_ble_eq_true rfl) ⟨Nat.le_of_ble_eq_true rfl, Nat.le_of_ble_eq_true rfl⟩ ⟨Nat.le_refl _, Nat.le_refl _⟩ ?_
        refine z_aload_n CX 0 dX6_boat_54 rfl rfl ?_
        refine z_get CX dX6_boat_55 fg_X6_7 mo_0 rfl ?_
        refine z_iload_n CX 1 dX6_boat_58 rfl rfl ?_
        refine z_iload_n CX 2 dX6_boat_59 rfl rfl ?_
        refine z_iload_n CX 3 dX6_boat_60 rfl rfl ?_
        refine z_callS1 CX dX6_boat_61 cs_X6_162 (Cn.row (mq_0 (A := RA A ns)) (mr_0 (A := RA A ns)) (a := k + 1) (f := A 0) (c_addB hO.1.2.1 (by omega) a b x)) rfl rfl (Nat.le_of_ble_eq_true rfl) ⟨Nat.le_of_ble_eq_true rfl, Nat.le_of_ble_eq_true rfl⟩ ⟨Nat.le_refl _, Nat.le_refl _⟩ ?_
        exact z_iret CX dX6_boat_64 rfl rfl rfl (Or.inl rfl)
      · rw [show rs_boat u A ns a b x = bad 3 u A by unfold rs_boat; rw [if_pos h0, if_pos h1, if_neg h2]]
        refine Cn.of (d := mX6_boat) (by decide +kernel) (Nat.le_of_ble_eq_true rfl) ?_
        intro p e R s m args below meth c CX
        replace CX : Ctx p s m args meth c R w RX6 "boat" cX6_boat 4 (some .int) 2 46 0 0 := CX
        show ZW p l e R s m args below meth c w 4 _ _ 0 0 (MQ below (Qn w _ _ _) args s 0 0 (wA w)) 0 [(0, .ref (wB w + k)), (1, .int _), (2, .int _), (3, .int _)] []
        refine z_aload_n CX 0 dX6_boat_0 rfl rfl ?_
        refine z_iload_n CX 3 dX6_boat_1 rfl rfl ?_
        refine z_callS1 CX dX6_boat_2 cs_X6_232 (c_isO _) rfl rfl (Nat.le_of_ble_eq_true rfl) ⟨Nat.le_of_ble_eq_true rfl, Nat.le_of_ble_eq_true rfl⟩ ⟨Nat.le_refl _, Nat.le_refl _⟩ ?_
        refine z_if_ne CX 12 dX6_boat_5 (by decide) (fun _ => ?_) (fun q9 => absurd q9 (by rw [bI_1 h0]; decide))
        refine z_iload_n CX 1 dX6_boat_12 rfl rfl ?_
        refine z_iload_n CX 2 dX6_boat_13 rfl rfl ?_
        refine z_callS1 CX dX6_boat_14 cs_X6_246 (c_isFolded _ _) rfl rfl (Nat.le_of_ble_eq_true rfl) ⟨Nat.le_of_ble_eq_true rfl, Nat.le_of_ble_eq_true rfl⟩ ⟨Nat.le_refl _, Nat.le_refl _⟩ ?_
        refine z_if_ne CX 24 dX6_boat_17 (by decide) (fun _ => ?_) (fun q9 => absurd q9 (by rw [bI_1 h1]; decide))
        refine z_aload_n CX 0 dX6_boat_24 rfl rfl ?_
        refine z_get CX dX6_boat_25 fg_X6_7 mo_0 rfl ?_
        refine z_sipush CX (v := 147) dX6_boat_28 (by decide) ?_
        refine z_ia CX (j := 147) dX6_boat_31 mo_1 rfl (by omega) (by decide) ?_
        refine z_bipush CX (v := 10) dX6_boat_32 (by decide) ?_
        rw [show A 0 147 = nI (bN (A 0)) from hO.1.2.1]
        refine z_icmp_ne CX 41 dX6_boat_34 (by decide) (fun q9 => absurd q9 (fun z => z (by rw [show bN (A 0) = 10 by omega]; rfl))) (fun _ => ?_)
        refine z_iconst CX (v := 3) dX6_boat_37 (by decide) ?_
        refine z_goto CX 42 dX6_boat_38 (by decide) ?_
        refine z_callV1 CX dX6_boat_42 cv_X6_122 (c_ref _) mo_0 rfl rfl (Nat.le_of_ble_eq_true rfl) ⟨Nat.le_of_ble_eq_true rfl, Nat.le_of_ble_eq_true rfl⟩ ⟨Nat.le_refl _, Nat.le_refl _⟩ ?_
        refine z_if_eq CX 50 dX6_boat_45 (by decide) (fun q9 => absurd q9 (by decide)) (fun _ => ?_)
        refine z_iconst CX (v := 0) dX6_boat_48 (by decide) ?_
        exact z_iret CX dX6_boat_49 rfl rfl rfl (Or.inl rfl)
    · rw [show rs_boat u A ns a b x = bad 2 u A by unfold rs_boat; rw [if_pos h0, if_neg h1]]
      refine Cn.of (d := mX6_boat) (by decide +kernel) (Nat.le_of_ble_eq_true rfl) ?_
      intro p e R s m args below meth c CX
      replace CX : Ctx p s m args meth c R w RX6 "boat" cX6_boat 4 (some .int) 2 46 0 0 := CX
      show ZW p l e R s m args below meth c w 4 _ _ 0 0 (MQ below (Qn w _ _ _) args s 0 0 (wA w)) 0 [(0, .ref (wB w + k)), (1, .int _), (2, .int _), (3, .int _)] []
      refine z_aload_n CX 0 dX6_boat_0 rfl rfl ?_
      refine z_iload_n CX 3 dX6_boat_1 rfl rfl ?_
      refine z_callS1 CX dX6_boat_2 cs_X6_232 (c_isO _) rfl rfl (Nat.le_of_ble_eq_true rfl) ⟨Nat.le_of_ble_eq_true rfl, Nat.le_of_ble_eq_true rfl⟩ ⟨Nat.le_refl _, Nat.le_refl _⟩ ?_
      refine z_if_ne CX 12 dX6_boat_5 (by decide) (fun _ => ?_) (fun q9 => absurd q9 (by rw [bI_1 h0]; decide))
      refine z_iload_n CX 1 dX6_boat_12 rfl rfl ?_
      refine z_iload_n CX 2 dX6_boat_13 rfl rfl ?_
      refine z_callS1 CX dX6_boat_14 cs_X6_246 (c_isFolded _ _) rfl rfl (Nat.le_of_ble_eq_true rfl) ⟨Nat.le_of_ble_eq_true rfl, Nat.le_of_ble_eq_true rfl⟩ ⟨Nat.le_refl _, Nat.le_refl _⟩ ?_
      refine z_if_ne CX 24 dX6_boat_17 (by decide) (fun q9 => absurd q9 (fun q => q (bI_0 h1))) (fun _ => ?_)
      refine z_iconst CX (v := 2) dX6_boat_20 (by decide) ?_
      refine z_goto CX 42 dX6_boat_21 (by decide) ?_
      refine z_callV1 CX dX6_boat_42 cv_X6_122 (c_ref _) mo_0 rfl rfl (Nat.le_of_ble_eq_true rfl) ⟨Nat.le_of_ble_eq_true rfl, Nat.le_of_ble_eq_true rfl⟩ ⟨Nat.le_refl _, Nat.le_refl _⟩ ?_
      refine z_if_eq CX 50 dX6_boat_45 (by decide) (fun q9 => absurd q9 (by decide)) (fun _ => ?_)
      refine z_iconst CX (v := 0) dX6_boat_48 (by decide) ?_
      exact z_iret CX dX6_boat_49 rfl rfl rfl (Or.inl rfl)
  · rw [show rs_boat u A ns a b x = bad 1 u A from if_neg h0]
    refine Cn.of (d := mX6_boat) (by decide +kernel) (Nat.le_of_ble_eq_true rfl) ?_
    intro p e R s m args below meth c CX
    replace CX : Ctx p s m args meth c R w RX6 "boat" cX6_boat 4 (some .int) 2 46 0 0 := CX
    show ZW p l e R s m args below meth c w 4 _ _ 0 0 (MQ below (Qn w _ _ _) args s 0 0 (wA w)) 0 [(0, .ref (wB w + k)), (1, .int _), (2, .int _), (3, .int _)] []
    refine z_aload_n CX 0 dX6_boat_0 rfl rfl ?_
    refine z_iload_n CX 3 dX6_boat_1 rfl rfl ?_
    refine z_callS1 CX dX6_boat_2 cs_X6_232 (c_isO _) rfl rfl (Nat.le_of_ble_eq_true rfl) ⟨Nat.le_of_ble_eq_true rfl, Nat.le_of_ble_eq_true rfl⟩ ⟨Nat.le_refl _, Nat.le_refl _⟩ ?_
    refine z_if_ne CX 12 dX6_boat_5 (by decide) (fun q9 => absurd q9 (fun q => q (bI_0 h0))) (fun _ => ?_)
    refine z_iconst CX (v := 1) dX6_boat_8 (by decide) ?_
    refine z_goto CX 42 dX6_boat_9 (by decide) ?_
    refine z_callV1 CX dX6_boat_42 cv_X6_122 (c_ref _) mo_0 rfl rfl (Nat.le_of_ble_eq_true rfl) ⟨Nat.le_of_ble_eq_true rfl, Nat.le_of_ble_eq_true rfl⟩ ⟨Nat.le_refl _, Nat.le_refl _⟩ ?_
    refine z_if_eq CX 50 dX6_boat_45 (by decide) (fun q9 => absurd q9 (by decide)) (fun _ => ?_)
    refine z_iconst CX (v := 0) dX6_boat_48 (by decide) ?_
    exact z_iret CX dX6_boat_49 rfl rfl rfl (Or.inl rfl)
set_option maxHeartbeats 4000000 in
set_option maxRecDepth 100000 in
theorem m_launch {l : Launch} {w : Wt} {hs : Hs} {n : Option Nat} {k : Nat} {u : Nat → Int32} {A : Nat → Nat → Int32} (hO : OKr (A 0)) {ns : Nat} (hn : u 1 = nI ns) (h14 : ns ≤ 14) (a b : Int32) : Cn l w mX6_launch 0 0 [.ref (wB w + k), .int a, .int b] (modH w hs k u A) n (modH w hs k (rs_launch u A ns a b).2.2.1 (rs_launch u A ns a b).2.2.2) n (some (.int (rs_launch u A ns a b).2.1)) := by
  have h9 := hO.2.2
  have h6 := hO.1.1.2.1
  by_cases h0 : 0 ≤ a ∧ a < nI (bN (A 0))
  · by_cases h1 : 0 ≤ b ∧ b < nI (gN (A 0))
    · obtain ⟨i, i1, i2, i3⟩ := nI_box (by omega) h0
      obtain ⟨g, g1, g2, g3⟩ := nI_box (by omega) h1
      by_cases hs9 : A 0 (24 + 10 * i + 3) = 0
      · rw [show rs_launch u A ns a b = act u A ns (drn (A 0) 6 0 g 0) (lnF (A 0) (bN (A 0)) i b) by unfold rs_launch; rw [if_pos ⟨h0, h1⟩, i3, g3, if_pos hs9]]
        subst i2
        subst g2
        refine Cn.of (d := mX6_launch) (by decide +kernel) (Nat.le_of_ble_eq_true rfl) ?_
        intro p e R s m args below meth c CX
        replace CX : Ctx p s m args meth c R w RX6 "launch" cX6_launch 4 (some .int) 4 86 0 0 := CX
        show ZW p l e R s m args below meth c w 4 _ _ 0 0 (MQ below (Qn w _ _ _) args s 0 0 (wA w)) 0 [(0, .ref (wB w + k)), (1, .int _), (2, .int _)] []
        refine z_aload_n CX 0 dX6_launch_0 rfl rfl ?_
        refine z_get CX dX6_launch_1 fg_X6_7 mo_0 rfl ?_
        refine z_iload_n CX 1 dX6_launch_4 rfl rfl ?_
        refine z_callS1 CX dX6_launch_5 cs_X6_166 (Cn.row mq_0 mq_0 (a := k + 1) (c_isB hO.1.2.1 (by have := hO.2.2; omega) _)) rfl rfl (Nat.le_of_ble_eq_true rfl) ⟨Nat.le_of_ble_eq_true rfl, Nat.le_of_ble_eq_true rfl⟩ ⟨Nat.le_refl _, Nat.le_refl _⟩ ?_
        refine z_if_eq CX 26 dX6_launch_8 (by decide) (fun q9 => absurd q9 (by rw [bI_1 h0]; decide)) (fun _ => ?_)
        refine z_aload_n CX 0 dX6_launch_11 rfl rfl ?_
        refine z_get CX dX6_launch_12 fg_X6_7 mo_0 rfl ?_
        refine z_iload_n CX 2 dX6_launch_15 rfl rfl ?_
        refine z_callS1 CX dX6_launch_16 cs_X6_46 (Cn.row mq_0 mq_0 (a := k + 1) (c_isG hO.1.1.1 (by have := hO.1.1.2.1; omega) _)) rfl rfl (Nat.le_of_ble_eq_true rfl) ⟨Nat.le_of_ble_eq_true rfl, Nat.le_of_ble_eq_true rfl⟩ ⟨Nat.le_refl _, Nat.le_refl _⟩ ?_
        refine z_if_eq CX 26 dX6_launch_19 (by decide) (fun q9 => absurd q9 (by rw [bI_1 h1]; decide)) (fun _ => ?_)
        refine z_iconst CX (v := 1) dX6_launch_22 (by decide) ?_
        refine z_goto CX 27 dX6_launch_23 (by decide) ?_
        refine z_istore_n CX 3 dX6_launch_27 rfl (by decide) ?_
        refine z_aload_n CX 0 dX6_launch_28 rfl rfl ?_
        refine z_iload_n CX 3 dX6_launch_29 rfl rfl ?_
        refine z_if_ne CX 37 dX6_launch_30 (by decide) (fun _ => ?_) (fun q9 => absurd q9 (by decide))
        refine z_aload_n CX 0 dX6_launch_37 rfl rfl ?_
        refine z_get CX dX6_launch_38 fg_X6_7 mo_0 rfl ?_
        refine z_iload_n CX 1 dX6_launch_41 rfl rfl ?_
        refine z_callS1 CX dX6_launch_42 cs_X6_64 (Cn.row mq_0 mq_0 (a := k + 1) (c_state (b := i) (by omega))) rfl rfl (Nat.le_of_ble_eq_true rfl) ⟨Nat.le_of_ble_eq_true rfl, Nat.le_of_ble_eq_true rfl⟩ ⟨Nat.le_refl _, Nat.le_refl _⟩ ?_
        refine z_if_eq CX 52 dX6_launch_45 (by decide) (fun _ => ?_) (fun q9 => absurd hs9 q9)
        refine z_iconst CX (v := 0) dX6_launch_52 (by decide) ?_
        refine z_callV1 CX dX6_launch_53 cv_X6_122 (c_ref _) mo_0 rfl rfl (Nat.le_of_ble_eq_true rfl) ⟨Nat.le_of_ble_eq_true rfl, Nat.le_of_ble_eq_true rfl⟩ ⟨Nat.le_refl _, Nat.le_refl _⟩ ?_
        refine z_if_eq CX 61 dX6_launch_56 (by decide) (fun _ => ?_) (fun q9 => absurd (by decide) q9)
        refine z_aload_n CX 0 dX6_launch_61 rfl rfl ?_
        refine z_callV0 CX dX6_launch_62 cv_X6_243 (c_rem (u := upd u 0 0) (A := A) (ns := ns) hn h14) mo_0 rfl rfl (Nat.le_of_ble_eq_true rfl) ⟨Nat.le_of_ble_eq_true rfl, Nat.le_of_ble_eq_true rfl⟩ ⟨Nat.le_refl _, Nat.le_refl _⟩ ?_
        refine z_aload_n CX 0 dX6_launch_65 rfl rfl ?_
        refine z_get CX dX6_launch_66 fg_X6_7 mo_0 rfl ?_
        refine z_iload_n CX 1 dX6_launch_69 rfl rfl ?_
        refine z_iload_n CX 2 dX6_launch_70 rfl rfl ?_
        refine z_callS1 CX dX6_launch_71 cs_X6_169 (Cn.row (mq_0 (A := RA A ns)) (mr_0 (A := RA A ns)) (a := k + 1) (f := A 0) (c_goL hO.1.1 hO.1.2.1 (by omega) (by omega) g1)) rfl rfl (Nat.le_of_ble_eq_true rfl) ⟨Nat.le_of_ble_eq_true rfl, Nat.le_of_ble_eq_true rfl⟩ ⟨Nat.le_refl _, Nat.le_refl _⟩ ?_
        exact z_iret CX dX6_launch_74 rfl rfl rfl (Or.inl rfl)
      · rw [show rs_launch u A ns a b = bad 2 u A by unfold rs_launch; rw [if_pos ⟨h0, h1⟩, i3, if_neg hs9]]
        subst i2
        refine Cn.of (d := mX6_launch) (by decide +kernel) (Nat.le_of_ble_eq_true rfl) ?_
        intro p e R s m args below meth c CX
        replace CX : Ctx p s m args meth c R w RX6 "launch" cX6_launch 4 (some .int) 4 86 0 0 := CX
        show ZW p l e R s m args below meth c w 4 _ _ 0 0 (MQ below (Qn w _ _ _) args s 0 0 (wA w)) 0 [(0, .ref (wB w + k)), (1, .int _), (2, .int _)] []
        refine z_aload_n CX 0 dX6_launch_0 rfl rfl ?_
        refine z_get CX dX6_launch_1 fg_X6_7 mo_0 rfl ?_
        refine z_iload_n CX 1 dX6_launch_4 rfl rfl ?_
        refine z_callS1 CX dX6_launch_5 cs_X6_166 (Cn.row mq_0 mq_0 (a := k + 1) (c_isB hO.1.2.1 (by have := hO.2.2; omega) _)) rfl rfl (Nat.le_of_ble_eq_true rfl) ⟨Nat.le_of_ble_eq_true rfl, Nat.le_of_ble_eq_true rfl⟩ ⟨Nat.le_refl _, Nat.le_refl _⟩ ?_
        refine z_if_eq CX 26 dX6_launch_8 (by decide) (fun q9 => absurd q9 (by rw [bI_1 h0]; decide)) (fun _ => ?_)
        refine z_aload_n CX 0 dX6_launch_11 rfl rfl ?_
        refine z_get CX dX6_launch_12 fg_X6_7 mo_0 rfl ?_
        refine z_iload_n CX 2 dX6_launch_15 rfl rfl ?_
        refine z_callS1 CX dX6_launch_16 cs_X6_46 (Cn.row mq_0 mq_0 (a := k + 1) (c_isG hO.1.1.1 (by have := hO.1.1.2.1; omega) _)) rfl rfl (Nat.le_of_ble_eq_true rfl) ⟨Nat.le_of_ble_eq_true rfl, Nat.le_of_ble_eq_true rfl⟩ ⟨Nat.le_refl _, Nat.le_refl _⟩ ?_
        refine z_if_eq CX 26 dX6_launch_19 (by decide) (fun q9 => absurd q9 (by rw [bI_1 h1]; decide)) (fun _ => ?_)
        refine z_iconst CX (v := 1) dX6_launch_22 (by decide) ?_
        refine z_goto CX 27 dX6_launch_23 (by decide) ?_
        refine z_istore_n CX 3 dX6_launch_27 rfl (by decide) ?_
        refine z_aload_n CX 0 dX6_launch_28 rfl rfl ?_
        refine z_iload_n CX 3 dX6_launch_29 rfl rfl ?_
        refine z_if_ne CX 37 dX6_launch_30 (by decide) (fun _ => ?_) (fun q9 => absurd q9 (by decide))
        refine z_aload_n CX 0 dX6_launch_37 rfl rfl ?_
        refine z_get CX dX6_launch_38 fg_X6_7 mo_0 rfl ?_
        refine z_iload_n CX 1 dX6_launch_41 rfl rfl ?_
        refine z_callS1 CX dX6_launch_42 cs_X6_64 (Cn.row mq_0 mq_0 (a := k + 1) (c_state (b := i) (by omega))) rfl rfl (Nat.le_of_ble_eq_true rfl) ⟨Nat.le_of_ble_eq_true rfl, Nat.le_of_ble_eq_true rfl⟩ ⟨Nat.le_refl _, Nat.le_refl _⟩ ?_
        refine z_if_eq CX 52 dX6_launch_45 (by decide) (fun q9 => absurd q9 hs9) (fun _ => ?_)
        refine z_iconst CX (v := 2) dX6_launch_48 (by decide) ?_
        refine z_goto CX 53 dX6_launch_49 (by decide) ?_
        refine z_callV1 CX dX6_launch_53 cv_X6_122 (c_ref _) mo_0 rfl rfl (Nat.le_of_ble_eq_true rfl) ⟨Nat.le_of_ble_eq_true rfl, Nat.le_of_ble_eq_true rfl⟩ ⟨Nat.le_refl _, Nat.le_refl _⟩ ?_
        refine z_if_eq CX 61 dX6_launch_56 (by decide) (fun q9 => absurd q9 (by decide)) (fun _ => ?_)
        refine z_iconst CX (v := 0) dX6_launch_59 (by decide) ?_
        exact z_iret CX dX6_launch_60 rfl rfl rfl (Or.inl rfl)
    · rw [show rs_launch u A ns a b = bad 1 u A from if_neg (fun z => h1 z.2)]
      refine Cn.of (d := mX6_launch) (by decide +kernel) (Nat.le_of_ble_eq_true rfl) ?_
      intro p e R s m args below meth c CX
      replace CX : Ctx p s m args meth c R w RX6 "launch" cX6_launch 4 (some .int) 4 86 0 0 := CX
      show ZW p l e R s m args below meth c w 4 _ _ 0 0 (MQ below (Qn w _ _ _) args s 0 0 (wA w)) 0 [(0, .ref (wB w + k)), (1, .int _), (2, .int _)] []
      refine z_aload_n CX 0 dX6_launch_0 rfl rfl ?_
      refine z_get CX dX6_launch_1 fg_X6_7 mo_0 rfl ?_
      refine z_iload_n CX 1 dX6_launch_4 rfl rfl ?_
      refine z_callS1 CX dX6_launch_5 cs_X6_166 (Cn.row mq_0 mq_0 (a := k + 1) (c_isB hO.1.2.1 (by have := hO.2.2; omega) _)) rfl rfl (Nat.le_of_ble_eq_true rfl) ⟨Nat.le_of_ble_eq_true rfl, Nat.le_of_ble_eq_true rfl⟩ ⟨Nat.le_refl _, Nat.le_refl _⟩ ?_
      refine z_if_eq CX 26 dX6_launch_8 (by decide) (fun q9 => absurd q9 (by rw [bI_1 h0]; decide)) (fun _ => ?_)
      refine z_aload_n CX 0 dX6_launch_11 rfl rfl ?_
      refine z_get CX dX6_launch_12 fg_X6_7 mo_0 rfl ?_
      refine z_iload_n CX 2 dX6_launch_15 rfl rfl ?_
      refine z_callS1 CX dX6_launch_16 cs_X6_46 (Cn.row mq_0 mq_0 (a := k + 1) (c_isG hO.1.1.1 (by have := hO.1.1.2.1; omega) _)) rfl rfl (Nat.le_of_ble_eq_true rfl) ⟨Nat.le_of_ble_eq_true rfl, Nat.le_of_ble_eq_true rfl⟩ ⟨Nat.le_refl _, Nat.le_refl _⟩ ?_
      refine z_if_eq CX 26 dX6_launch_19 (by decide) (fun _ => ?_) (fun q9 => absurd (bI_0 h1) q9)
      refine z_iconst CX (v := 0) dX6_launch_26 (by decide) ?_
      refine z_istore_n CX 3 dX6_launch_27 rfl (by decide) ?_
      refine z_aload_n CX 0 dX6_launch_28 rfl rfl ?_
      refine z_iload_n CX 3 dX6_launch_29 rfl rfl ?_
      refine z_if_ne CX 37 dX6_launch_30 (by decide) (fun q9 => absurd q9 (fun z => z rfl)) (fun _ => ?_)
      refine z_iconst CX (v := 1) dX6_launch_33 (by decide) ?_
      refine z_goto CX 53 dX6_launch_34 (by decide) ?_
      refine z_callV1 CX dX6_launch_53 cv_X6_122 (c_ref _) mo_0 rfl rfl (Nat.le_of_ble_eq_true rfl) ⟨Nat.le_of_ble_eq_true rfl, Nat.le_of_ble_eq_true rfl⟩ ⟨Nat.le_refl _, Nat.le_refl _⟩ ?_
      refine z_if_eq CX 61 dX6_launch_56 (by decide) (fun q9 => absurd q9 (by decide)) (fun _ => ?_)
      refine z_iconst CX (v := 0) dX6_launch_59 (by decide) ?_
      exact z_iret CX dX6_launch_60 rfl rfl rfl (Or.inl rfl)
  · rw [show rs_launch u A ns a b = bad 1 u A from if_neg (fun z => h0 z.1)]
    refine Cn.of (d := mX6_launch) (by decide +kernel) (Nat.le_of_ble_eq_true rfl) ?_
    intro p e R s m args below meth c CX
    replace CX : Ctx p s m args meth c R w RX6 "launch" cX6_launch 4 (some .int) 4 86 0 0 := CX
    show ZW p l e R s m args below meth c w 4 _ _ 0 0 (MQ below (Qn w _ _ _) args s 0 0 (wA w)) 0 [(0, .ref (wB w + k)), (1, .int _), (2, .int _)] []
    refine z_aload_n CX 0 dX6_launch_0 rfl rfl ?_
    refine z_get CX dX6_launch_1 fg_X6_7 mo_0 rfl ?_
    refine z_iload_n CX 1 dX6_launch_4 rfl rfl ?_
    refine z_callS1 CX dX6_launch_5 cs_X6_166 (Cn.row mq_0 mq_0 (a := k + 1) (c_isB hO.1.2.1 (by have := hO.2.2; omega) _)) rfl rfl (Nat.le_of_ble_eq_true rfl) ⟨Nat.le_of_ble_eq_true rfl, Nat.le_of_ble_eq_true rfl⟩ ⟨Nat.le_refl _, Nat.le_refl _⟩ ?_
    refine z_if_eq CX 26 dX6_launch_8 (by decide) (fun _ => ?_) (fun q9 => absurd (bI_0 h0) q9)
    refine z_iconst CX (v := 0) dX6_launch_26 (by decide) ?_
    refine z_istore_n CX 3 dX6_launch_27 rfl (by decide) ?_
    refine z_aload_n CX 0 dX6_launch_28 rfl rfl ?_
    refine z_iload_n CX 3 dX6_launch_29 rfl rfl ?_
    refine z_if_ne CX 37 dX6_launch_30 (by decide) (fun q9 => absurd q9 (fun z => z rfl)) (fun _ => ?_)
    refine z_iconst CX (v := 1) dX6_launch_33 (by decide) ?_
    refine z_goto CX 53 dX6_launch_34 (by decide) ?_
    refine z_callV1 CX dX6_launch_53 cv_X6_122 (c_ref _) mo_0 rfl rfl (Nat.le_of_ble_eq_true rfl) ⟨Nat.le_of_ble_eq_true rfl, Nat.le_of_ble_eq_true rfl⟩ ⟨Nat.le_refl _, Nat.le_refl _⟩ ?_
    refine z_if_eq CX 61 dX6_launch_56 (by decide) (fun q9 => absurd q9 (by decide)) (fun _ => ?_)
    refine z_iconst CX (v := 0) dX6_launch_59 (by decide) ?_
    exact z_iret CX dX6_launch_60 rfl rfl rfl (Or.inl rfl)
set_option maxHeartbeats 4000000 in
set_option maxRecDepth 100000 in
theorem m_hook {l : Launch} {w : Wt} {hs : Hs} {n : Option Nat} {k : Nat} {u : Nat → Int32} {A : Nat → Nat → Int32} (hO : OKr (A 0)) {ns : Nat} (hn : u 1 = nI ns) (h14 : ns ≤ 14) (a b x : Int32) : Cn l w mX6_hook 0 0 [.ref (wB w + k), .int a, .int b, .int x] (modH w hs k u A) n (modH w hs k (rs_hook u A ns a b x).2.2.1 (rs_hook u A ns a b x).2.2.2) n (some (.int (rs_hook u A ns a b x).2.1)) := by
  have h9 := hO.2.2
  by_cases h0 : 0 ≤ a ∧ a ≤ 3
  · by_cases h1 : icl (A 0) (gN (A 0)) b x = true
    · obtain ⟨o, o0, o1, o2, o3⟩ := nI_le9 (a := 0) (b := 3) (by omega) (by omega) h0
      rw [show rs_hook u A ns a b x = act u A ns (nI (clbF (hokF (A 0) o b x) (bN (A 0)) o)) (hokF (A 0) o b x) by unfold rs_hook; rw [if_pos ⟨h0, h1⟩, o3]]
      subst o2
      refine Cn.of (d := mX6_hook) (by decide +kernel) (Nat.le_of_ble_eq_true rfl) ?_
      intro p e R s m args below meth c CX
      replace CX : Ctx p s m args meth c R w RX6 "hook" cX6_hook 4 (some .int) 5 112 0 0 := CX
      show ZW p l e R s m args below meth c w 4 _ _ 0 0 (MQ below (Qn w _ _ _) args s 0 0 (wA w)) 0 [(0, .ref (wB w + k)), (1, .int _), (2, .int _), (3, .int _)] []
      refine z_aload_n CX 0 dX6_hook_0 rfl rfl ?_
      refine z_iload_n CX 1 dX6_hook_1 rfl rfl ?_
      refine z_callS1 CX dX6_hook_2 cs_X6_232 (c_isO _) rfl rfl (Nat.le_of_ble_eq_true rfl) ⟨Nat.le_of_ble_eq_true rfl, Nat.le_of_ble_eq_true rfl⟩ ⟨Nat.le_refl _, Nat.le_refl _⟩ ?_
      refine z_if_eq CX 24 dX6_hook_5 (by decide) (fun q9 => absurd q9 (by rw [bI_1 h0]; decide)) (fun _ => ?_)
      refine z_aload_n CX 0 dX6_hook_8 rfl rfl ?_
      refine z_get CX dX6_hook_9 fg_X6_7 mo_0 rfl ?_
      refine z_iload_n CX 2 dX6_hook_12 rfl rfl ?_
      refine z_iload_n CX 3 dX6_hook_13 rfl rfl ?_
      refine z_callS1 CX dX6_hook_14 cs_X6_111 (Cn.row mq_0 mq_0 (a := k + 1) (c_isC hO.1.1 _ _)) rfl rfl (Nat.le_of_ble_eq_true rfl) ⟨Nat.le_of_ble_eq_true rfl, Nat.le_of_ble_eq_true rfl⟩ ⟨Nat.le_refl _, Nat.le_refl _⟩ ?_
      refine z_if_eq CX 24 dX6_hook_17 (by decide) (fun q9 => absurd q9 (by rw [h1]; decide)) (fun _ => ?_)
      refine z_iconst CX (v := 0) dX6_hook_20 (by decide) ?_
      refine z_goto CX 25 dX6_hook_21 (by decide) ?_
      refine z_callV1 CX dX6_hook_25 cv_X6_122 (c_ref _) mo_0 rfl rfl (Nat.le_of_ble_eq_true rfl) ⟨Nat.le_of_ble_eq_true rfl, Nat.le_of_ble_eq_true rfl⟩ ⟨Nat.le_refl _, Nat.le_refl _⟩ ?_
      refine z_if_eq CX 33 dX6_hook_28 (by decide) (fun _ => ?_) (fun q9 => absurd (by decide) q9)
      refine z_aload_n CX 0 dX6_hook_33 rfl rfl ?_
      refine z_callV0 CX dX6_hook_34 cv_X6_243 (c_rem (u := upd u 0 0) (A := A) (ns := ns) hn h14) mo_0 rfl rfl (Nat.le_of_ble_eq_true rfl) ⟨Nat.le_of_ble_eq_true rfl, Nat.le_of_ble_eq_true rfl⟩ ⟨Nat.le_refl _, Nat.le_refl _⟩ ?_
      refine z_aload_n CX 0 dX6_hook_37 rfl rfl ?_
      refine z_get CX dX6_hook_38 fg_X6_7 mo_0 rfl ?_
      refine z_iload_n CX 1 dX6_hook_41 rfl rfl ?_
      refine z_iload_n CX 2 dX6_hook_42 rfl rfl ?_
      refine z_iload_n CX 3 dX6_hook_43 rfl rfl ?_
      refine z_callS1 CX dX6_hook_44 cs_X6_172 (Cn.row (mq_0 (A := RA A ns)) (mr_0 (A := RA A ns)) (a := k + 1) (f := A 0) (c_goHk hO.1.2.1 (by omega) (by omega) b x)) rfl rfl (Nat.le_of_ble_eq_true rfl) ⟨Nat.le_of_ble_eq_true rfl, Nat.le_of_ble_eq_true rfl⟩ ⟨Nat.le_refl _, Nat.le_refl _⟩ ?_
      exact z_iret CX dX6_hook_47 rfl rfl rfl (Or.inl rfl)
    · rw [show rs_hook u A ns a b x = bad 1 u A from if_neg (fun z => h1 z.2)]
      refine Cn.of (d := mX6_hook) (by decide +kernel) (Nat.le_of_ble_eq_true rfl) ?_
      intro p e R s m args below meth c CX
      replace CX : Ctx p s m args meth c R w RX6 "hook" cX6_hook 4 (some .int) 5 112 0 0 := CX
      show ZW p l e R s m args below meth c w 4 _ _ 0 0 (MQ below (Qn w _ _ _) args s 0 0 (wA w)) 0 [(0, .ref (wB w + k)), (1, .int _), (2, .int _), (3, .int _)] []
      refine z_aload_n CX 0 dX6_hook_0 rfl rfl ?_
      refine z_iload_n CX 1 dX6_hook_1 rfl rfl ?_
      refine z_callS1 CX dX6_hook_2 cs_X6_232 (c_isO _) rfl rfl (Nat.le_of_ble_eq_true rfl) ⟨Nat.le_of_ble_eq_true rfl, Nat.le_of_ble_eq_true rfl⟩ ⟨Nat.le_refl _, Nat.le_refl _⟩ ?_
      refine z_if_eq CX 24 dX6_hook_5 (by decide) (fun q9 => absurd q9 (by rw [bI_1 h0]; decide)) (fun _ => ?_)
      refine z_aload_n CX 0 dX6_hook_8 rfl rfl ?_
      refine z_get CX dX6_hook_9 fg_X6_7 mo_0 rfl ?_
      refine z_iload_n CX 2 dX6_hook_12 rfl rfl ?_
      refine z_iload_n CX 3 dX6_hook_13 rfl rfl ?_
      refine z_callS1 CX dX6_hook_14 cs_X6_111 (Cn.row mq_0 mq_0 (a := k + 1) (c_isC hO.1.1 _ _)) rfl rfl (Nat.le_of_ble_eq_true rfl) ⟨Nat.le_of_ble_eq_true rfl, Nat.le_of_ble_eq_true rfl⟩ ⟨Nat.le_refl _, Nat.le_refl _⟩ ?_
      refine z_if_eq CX 24 dX6_hook_17 (by decide) (fun _ => ?_) (fun q9 => absurd (by rw [Bool.eq_false_iff.mpr h1]; rfl) q9)
      refine z_iconst CX (v := 1) dX6_hook_24 (by decide) ?_
      refine z_callV1 CX dX6_hook_25 cv_X6_122 (c_ref _) mo_0 rfl rfl (Nat.le_of_ble_eq_true rfl) ⟨Nat.le_of_ble_eq_true rfl, Nat.le_of_ble_eq_true rfl⟩ ⟨Nat.le_refl _, Nat.le_refl _⟩ ?_
      refine z_if_eq CX 33 dX6_hook_28 (by decide) (fun q9 => absurd q9 (by decide)) (fun _ => ?_)
      refine z_iconst CX (v := 0) dX6_hook_31 (by decide) ?_
      exact z_iret CX dX6_hook_32 rfl rfl rfl (Or.inl rfl)
  · rw [show rs_hook u A ns a b x = bad 1 u A from if_neg (fun z => h0 z.1)]
    refine Cn.of (d := mX6_hook) (by decide +kernel) (Nat.le_of_ble_eq_true rfl) ?_
    intro p e R s m args below meth c CX
    replace CX : Ctx p s m args meth c R w RX6 "hook" cX6_hook 4 (some .int) 5 112 0 0 := CX
    show ZW p l e R s m args below meth c w 4 _ _ 0 0 (MQ below (Qn w _ _ _) args s 0 0 (wA w)) 0 [(0, .ref (wB w + k)), (1, .int _), (2, .int _), (3, .int _)] []
    refine z_aload_n CX 0 dX6_hook_0 rfl rfl ?_
    refine z_iload_n CX 1 dX6_hook_1 rfl rfl ?_
    refine z_callS1 CX dX6_hook_2 cs_X6_232 (c_isO _) rfl rfl (Nat.le_of_ble_eq_true rfl) ⟨Nat.le_of_ble_eq_true rfl, Nat.le_of_ble_eq_true rfl⟩ ⟨Nat.le_refl _, Nat.le_refl _⟩ ?_
    refine z_if_eq CX 24 dX6_hook_5 (by decide) (fun _ => ?_) (fun q9 => absurd (bI_0 h0) q9)
    refine z_iconst CX (v := 1) dX6_hook_24 (by decide) ?_
    refine z_callV1 CX dX6_hook_25 cv_X6_122 (c_ref _) mo_0 rfl rfl (Nat.le_of_ble_eq_true rfl) ⟨Nat.le_of_ble_eq_true rfl, Nat.le_of_ble_eq_true rfl⟩ ⟨Nat.le_refl _, Nat.le_refl _⟩ ?_
    refine z_if_eq CX 33 dX6_hook_28 (by decide) (fun q9 => absurd q9 (by decide)) (fun _ => ?_)
    refine z_iconst CX (v := 0) dX6_hook_31 (by decide) ?_
    exact z_iret CX dX6_hook_32 rfl rfl rfl (Or.inl rfl)
set_option maxHeartbeats 4000000 in
set_option maxRecDepth 100000 in
theorem m_claim {l : Launch} {w : Wt} {hs : Hs} {n : Option Nat} {k : Nat} {u : Nat → Int32} {A : Nat → Nat → Int32} (hO : OKr (A 0)) {ns : Nat} (hn : u 1 = nI ns) (h14 : ns ≤ 14) (a b : Int32) : Cn l w mX6_claim 0 0 [.ref (wB w + k), .int a, .int b] (modH w hs k u A) n (modH w hs k (rs_claim u A ns a b).2.2.1 (rs_claim u A ns a b).2.2.2) n (some (.int (rs_claim u A ns a b).2.1)) := by
  have h9 := hO.2.2
  by_cases h0 : 0 ≤ a ∧ a ≤ 3
  · by_cases h1 : 0 ≤ b ∧ b < nI (bN (A 0))
    · obtain ⟨o, o0, o1, o2, o3⟩ := nI_le9 (a := 0) (b := 3) (by omega) (by omega) h0
      obtain ⟨i, i1, i2, i3⟩ := nI_box (by omega) h1
      rw [show rs_claim u A ns a b = act u A ns (whyF (A 0) o i) (clmF (A 0) o i) by unfold rs_claim; rw [if_pos ⟨h0, h1⟩, o3, i3]]
      subst o2
      subst i2
      refine Cn.of (d := mX6_claim) (by decide +kernel) (Nat.le_of_ble_eq_true rfl) ?_
      intro p e R s m args below meth c CX
      replace CX : Ctx p s m args meth c R w RX6 "claim" cX6_claim 3 (some .int) 4 89 0 0 := CX
      show ZW p l e R s m args below meth c w 3 _ _ 0 0 (MQ below (Qn w _ _ _) args s 0 0 (wA w)) 0 [(0, .ref (wB w + k)), (1, .int _), (2, .int _)] []
      refine z_aload_n CX 0 dX6_claim_0 rfl rfl ?_
      refine z_iload_n CX 1 dX6_claim_1 rfl rfl ?_
      refine z_callS1 CX dX6_claim_2 cs_X6_232 (c_isO _) rfl rfl (Nat.le_of_ble_eq_true rfl) ⟨Nat.le_of_ble_eq_true rfl, Nat.le_of_ble_eq_true rfl⟩ ⟨Nat.le_refl _, Nat.le_refl _⟩ ?_
      refine z_if_eq CX 23 dX6_claim_5 (by decide) (fun q9 => absurd q9 (by rw [bI_1 h0]; decide)) (fun _ => ?_)
      refine z_aload_n CX 0 dX6_claim_8 rfl rfl ?_
      refine z_get CX dX6_claim_9 fg_X6_7 mo_0 rfl ?_
      refine z_iload_n CX 2 dX6_claim_12 rfl rfl ?_
      refine z_callS1 CX dX6_claim_13 cs_X6_166 (Cn.row mq_0 mq_0 (a := k + 1) (c_isB hO.1.2.1 (by have := hO.2.2; omega) _)) rfl rfl (Nat.le_of_ble_eq_true rfl) ⟨Nat.le_of_ble_eq_true rfl, Nat.le_of_ble_eq_true rfl⟩ ⟨Nat.le_refl _, Nat.le_refl _⟩ ?_
      refine z_if_eq CX 23 dX6_claim_16 (by decide) (fun q9 => absurd q9 (by rw [bI_1 h1]; decide)) (fun _ => ?_)
      refine z_iconst CX (v := 0) dX6_claim_19 (by decide) ?_
      refine z_goto CX 24 dX6_claim_20 (by decide) ?_
      refine z_callV1 CX dX6_claim_24 cv_X6_122 (c_ref _) mo_0 rfl rfl (Nat.le_of_ble_eq_true rfl) ⟨Nat.le_of_ble_eq_true rfl, Nat.le_of_ble_eq_true rfl⟩ ⟨Nat.le_refl _, Nat.le_refl _⟩ ?_
      refine z_if_eq CX 32 dX6_claim_27 (by decide) (fun _ => ?_) (fun q9 => absurd (by decide) q9)
      refine z_aload_n CX 0 dX6_claim_32 rfl rfl ?_
      refine z_callV0 CX dX6_claim_33 cv_X6_243 (c_rem (u := upd u 0 0) (A := A) (ns := ns) hn h14) mo_0 rfl rfl (Nat.le_of_ble_eq_true rfl) ⟨Nat.le_of_ble_eq_true rfl, Nat.le_of_ble_eq_true rfl⟩ ⟨Nat.le_refl _, Nat.le_refl _⟩ ?_
      refine z_aload_n CX 0 dX6_claim_36 rfl rfl ?_
      refine z_get CX dX6_claim_37 fg_X6_7 mo_0 rfl ?_
      refine z_iload_n CX 1 dX6_claim_40 rfl rfl ?_
      refine z_iload_n CX 2 dX6_claim_41 rfl rfl ?_
      refine z_callS1 CX dX6_claim_42 cs_X6_175 (Cn.row (mq_0 (A := RA A ns)) (mr_0 (A := RA A ns)) (a := k + 1) (f := A 0) (c_goCl (o := o) (b := i) (by omega) (by omega))) rfl rfl (Nat.le_of_ble_eq_true rfl) ⟨Nat.le_of_ble_eq_true rfl, Nat.le_of_ble_eq_true rfl⟩ ⟨Nat.le_refl _, Nat.le_refl _⟩ ?_
      exact z_iret CX dX6_claim_45 rfl rfl rfl (Or.inl rfl)
    · rw [show rs_claim u A ns a b = bad 1 u A from if_neg (fun z => h1 z.2)]
      refine Cn.of (d := mX6_claim) (by decide +kernel) (Nat.le_of_ble_eq_true rfl) ?_
      intro p e R s m args below meth c CX
      replace CX : Ctx p s m args meth c R w RX6 "claim" cX6_claim 3 (some .int) 4 89 0 0 := CX
      show ZW p l e R s m args below meth c w 3 _ _ 0 0 (MQ below (Qn w _ _ _) args s 0 0 (wA w)) 0 [(0, .ref (wB w + k)), (1, .int _), (2, .int _)] []
      refine z_aload_n CX 0 dX6_claim_0 rfl rfl ?_
      refine z_iload_n CX 1 dX6_claim_1 rfl rfl ?_
      refine z_callS1 CX dX6_claim_2 cs_X6_232 (c_isO _) rfl rfl (Nat.le_of_ble_eq_true rfl) ⟨Nat.le_of_ble_eq_true rfl, Nat.le_of_ble_eq_true rfl⟩ ⟨Nat.le_refl _, Nat.le_refl _⟩ ?_
      refine z_if_eq CX 23 dX6_claim_5 (by decide) (fun q9 => absurd q9 (by rw [bI_1 h0]; decide)) (fun _ => ?_)
      refine z_aload_n CX 0 dX6_claim_8 rfl rfl ?_
      refine z_get CX dX6_claim_9 fg_X6_7 mo_0 rfl ?_
      refine z_iload_n CX 2 dX6_claim_12 rfl rfl ?_
      refine z_callS1 CX dX6_claim_13 cs_X6_166 (Cn.row mq_0 mq_0 (a := k + 1) (c_isB hO.1.2.1 (by have := hO.2.2; omega) _)) rfl rfl (Nat.le_of_ble_eq_true rfl) ⟨Nat.le_of_ble_eq_true rfl, Nat.le_of_ble_eq_true rfl⟩ ⟨Nat.le_refl _, Nat.le_refl _⟩ ?_
      refine z_if_eq CX 23 dX6_claim_16 (by decide) (fun _ => ?_) (fun q9 => absurd (bI_0 h1) q9)
      refine z_iconst CX (v := 1) dX6_claim_23 (by decide) ?_
      refine z_callV1 CX dX6_claim_24 cv_X6_122 (c_ref _) mo_0 rfl rfl (Nat.le_of_ble_eq_true rfl) ⟨Nat.le_of_ble_eq_true rfl, Nat.le_of_ble_eq_true rfl⟩ ⟨Nat.le_refl _, Nat.le_refl _⟩ ?_
      refine z_if_eq CX 32 dX6_claim_27 (by decide) (fun q9 => absurd q9 (by decide)) (fun _ => ?_)
      refine z_iconst CX (v := 0) dX6_claim_30 (by decide) ?_
      exact z_iret CX dX6_claim_31 rfl rfl rfl (Or.inl rfl)
  · rw [show rs_claim u A ns a b = bad 1 u A from if_neg (fun z => h0 z.1)]
    refine Cn.of (d := mX6_claim) (by decide +kernel) (Nat.le_of_ble_eq_true rfl) ?_
    intro p e R s m args below meth c CX
    replace CX : Ctx p s m args meth c R w RX6 "claim" cX6_claim 3 (some .int) 4 89 0 0 := CX
    show ZW p l e R s m args below meth c w 3 _ _ 0 0 (MQ below (Qn w _ _ _) args s 0 0 (wA w)) 0 [(0, .ref (wB w + k)), (1, .int _), (2, .int _)] []
    refine z_aload_n CX 0 dX6_claim_0 rfl rfl ?_
    refine z_iload_n CX 1 dX6_claim_1 rfl rfl ?_
    refine z_callS1 CX dX6_claim_2 cs_X6_232 (c_isO _) rfl rfl (Nat.le_of_ble_eq_true rfl) ⟨Nat.le_of_ble_eq_true rfl, Nat.le_of_ble_eq_true rfl⟩ ⟨Nat.le_refl _, Nat.le_refl _⟩ ?_
    refine z_if_eq CX 23 dX6_claim_5 (by decide) (fun _ => ?_) (fun q9 => absurd (bI_0 h0) q9)
    refine z_iconst CX (v := 1) dX6_claim_23 (by decide) ?_
    refine z_callV1 CX dX6_claim_24 cv_X6_122 (c_ref _) mo_0 rfl rfl (Nat.le_of_ble_eq_true rfl) ⟨Nat.le_of_ble_eq_true rfl, Nat.le_of_ble_eq_true rfl⟩ ⟨Nat.le_refl _, Nat.le_refl _⟩ ?_
    refine z_if_eq CX 32 dX6_claim_27 (by decide) (fun q9 => absurd q9 (by decide)) (fun _ => ?_)
    refine z_iconst CX (v := 0) dX6_claim_30 (by decide) ?_
    exact z_iret CX dX6_claim_31 rfl rfl rfl (Or.inl rfl)
set_option maxHeartbeats 4000000 in
set_option maxRecDepth 100000 in
theorem m_minutes {l : Launch} {w : Wt} {hs : Hs} {n : Option Nat} {k : Nat} {u : Nat → Int32} {A : Nat → Nat → Int32} (hO : OKr (A 0)) {ns : Nat} (hn : u 1 = nI ns) (h14 : ns ≤ 14) (a : Int32) : Cn l w mX6_minutes 0 0 [.ref (wB w + k), .int a] (modH w hs k u A) n (modH w hs k (rs_minutes u A ns a).2.2.1 (rs_minutes u A ns a).2.2.2) n (some (.int (rs_minutes u A ns a).2.1)) := by
  by_cases h0 : 1 ≤ a ∧ a ≤ 60
  · obtain ⟨i, i0, i1, i2, i3⟩ := nI_le9 (a := 1) (b := 60) (by omega) (by omega) h0
    rw [show rs_minutes u A ns a = act u A ns (nI (gms (bN (A 0)) i (A 0)).1) (gms (bN (A 0)) i (A 0)).2 by unfold rs_minutes; rw [if_pos h0, i3]]
    subst i2
    refine Cn.of (d := mX6_minutes) (by decide +kernel) (Nat.le_of_ble_eq_true rfl) ?_
    intro p e R s m args below meth c CX
    replace CX : Ctx p s m args meth c R w RX6 "minutes" cX6_minutes 2 (some .int) 7 159 0 0 := CX
    show ZW p l e R s m args below meth c w 2 _ _ 0 0 (MQ below (Qn w _ _ _) args s 0 0 (wA w)) 0 [(0, .ref (wB w + k)), (1, .int _)] []
    refine z_aload_n CX 0 dX6_minutes_0 rfl rfl ?_
    refine z_iload_n CX 1 dX6_minutes_1 rfl rfl ?_
    refine z_i2l CX dX6_minutes_2 rfl ?_
    refine z_lconst CX (v := 1) dX6_minutes_3 (by decide) ?_
    refine z_ldc2 CX (v := 60) dX6_minutes_4 (wa_mem 1089 (by decide +kernel) rfl) ?_
    refine z_callS1 CX dX6_minutes_7 cs_X6_42 (c_inI (1) (60) _ _ _ (by decide) (by decide)) rfl rfl (Nat.le_of_ble_eq_true rfl) ⟨Nat.le_of_ble_eq_true rfl, Nat.le_of_ble_eq_true rfl⟩ ⟨Nat.le_refl _, Nat.le_refl _⟩ ?_
    refine z_if_eq CX 17 dX6_minutes_10 (by decide) (fun q9 => absurd q9 (by rw [bI_1 h0]; decide)) (fun _ => ?_)
    refine z_iconst CX (v := 0) dX6_minutes_13 (by decide) ?_
    refine z_goto CX 18 dX6_minutes_14 (by decide) ?_
    refine z_callV1 CX dX6_minutes_18 cv_X6_122 (c_ref _) mo_0 rfl rfl (Nat.le_of_ble_eq_true rfl) ⟨Nat.le_of_ble_eq_true rfl, Nat.le_of_ble_eq_true rfl⟩ ⟨Nat.le_refl _, Nat.le_refl _⟩ ?_
    refine z_if_eq CX 26 dX6_minutes_21 (by decide) (fun _ => ?_) (fun q9 => absurd (by decide) q9)
    refine z_aload_n CX 0 dX6_minutes_26 rfl rfl ?_
    refine z_callV0 CX dX6_minutes_27 cv_X6_243 (c_rem (u := upd u 0 0) (A := A) (ns := ns) hn h14) mo_0 rfl rfl (Nat.le_of_ble_eq_true rfl) ⟨Nat.le_of_ble_eq_true rfl, Nat.le_of_ble_eq_true rfl⟩ ⟨Nat.le_refl _, Nat.le_refl _⟩ ?_
    refine z_aload_n CX 0 dX6_minutes_30 rfl rfl ?_
    refine z_get CX dX6_minutes_31 fg_X6_7 mo_0 rfl ?_
    refine z_iload_n CX 1 dX6_minutes_34 rfl rfl ?_
    refine z_callS1 CX dX6_minutes_35 cs_X6_178 (Cn.row (mq_0 (A := RA A ns)) (mr_0 (A := RA A ns)) (a := k + 1) (f := A 0) (c_goMs hO.1 (by omega))) rfl rfl (Nat.le_of_ble_eq_true rfl) ⟨Nat.le_of_ble_eq_true rfl, Nat.le_of_ble_eq_true rfl⟩ ⟨Nat.le_refl _, Nat.le_refl _⟩ ?_
    exact z_iret CX dX6_minutes_38 rfl rfl rfl (Or.inl rfl)
  · rw [show rs_minutes u A ns a = bad 1 u A from if_neg h0]
    refine Cn.of (d := mX6_minutes) (by decide +kernel) (Nat.le_of_ble_eq_true rfl) ?_
    intro p e R s m args below meth c CX
    replace CX : Ctx p s m args meth c R w RX6 "minutes" cX6_minutes 2 (some .int) 7 159 0 0 := CX
    show ZW p l e R s m args below meth c w 2 _ _ 0 0 (MQ below (Qn w _ _ _) args s 0 0 (wA w)) 0 [(0, .ref (wB w + k)), (1, .int _)] []
    refine z_aload_n CX 0 dX6_minutes_0 rfl rfl ?_
    refine z_iload_n CX 1 dX6_minutes_1 rfl rfl ?_
    refine z_i2l CX dX6_minutes_2 rfl ?_
    refine z_lconst CX (v := 1) dX6_minutes_3 (by decide) ?_
    refine z_ldc2 CX (v := 60) dX6_minutes_4 (wa_mem 1089 (by decide +kernel) rfl) ?_
    refine z_callS1 CX dX6_minutes_7 cs_X6_42 (c_inI (1) (60) _ _ _ (by decide) (by decide)) rfl rfl (Nat.le_of_ble_eq_true rfl) ⟨Nat.le_of_ble_eq_true rfl, Nat.le_of_ble_eq_true rfl⟩ ⟨Nat.le_refl _, Nat.le_refl _⟩ ?_
    refine z_if_eq CX 17 dX6_minutes_10 (by decide) (fun _ => ?_) (fun q9 => absurd (bI_0 h0) q9)
    refine z_iconst CX (v := 1) dX6_minutes_17 (by decide) ?_
    refine z_callV1 CX dX6_minutes_18 cv_X6_122 (c_ref _) mo_0 rfl rfl (Nat.le_of_ble_eq_true rfl) ⟨Nat.le_of_ble_eq_true rfl, Nat.le_of_ble_eq_true rfl⟩ ⟨Nat.le_refl _, Nat.le_refl _⟩ ?_
    refine z_if_eq CX 26 dX6_minutes_21 (by decide) (fun q9 => absurd q9 (by decide)) (fun _ => ?_)
    refine z_iconst CX (v := 0) dX6_minutes_24 (by decide) ?_
    exact z_iret CX dX6_minutes_25 rfl rfl rfl (Or.inl rfl)
set_option maxHeartbeats 4000000 in
set_option maxRecDepth 100000 in
theorem m_set {l : Launch} {w : Wt} {hs : Hs} {n : Option Nat} {k : Nat} {u : Nat → Int32} {A : Nat → Nat → Int32} (hO : OKr (A 0)) {ns : Nat} (hn : u 1 = nI ns) (h14 : ns ≤ 14) (a b : Int32) : Cn l w mX6_set 0 0 [.ref (wB w + k), .int a, .int b] (modH w hs k u A) n (modH w hs k (rs_set u A ns a b).2.2.1 (rs_set u A ns a b).2.2.2) n (some (.int (rs_set u A ns a b).2.1)) := by
  by_cases h0 : isSetP a b
  · obtain ⟨i, i1, i2, i3⟩ := isSetP_k h0
    rw [show rs_set u A ns a b = act u A ns (A 0 (154 + i)) (upd (A 0) (154 + i) b) by unfold rs_set; rw [if_pos h0, i3]]
    subst i2
    refine Cn.of (d := mX6_set) (by decide +kernel) (Nat.le_of_ble_eq_true rfl) ?_
    intro p e R s m args below meth c CX
    replace CX : Ctx p s m args meth c R w RX6 "set" cX6_set 3 (some .int) 2 46 0 0 := CX
    show ZW p l e R s m args below meth c w 3 _ _ 0 0 (MQ below (Qn w _ _ _) args s 0 0 (wA w)) 0 [(0, .ref (wB w + k)), (1, .int _), (2, .int _)] []
    refine z_aload_n CX 0 dX6_set_0 rfl rfl ?_
    refine z_iload_n CX 1 dX6_set_1 rfl rfl ?_
    refine z_iload_n CX 2 dX6_set_2 rfl rfl ?_
    refine z_callS1 CX dX6_set_3 cs_X6_181 (c_isSet _ _) rfl rfl (Nat.le_of_ble_eq_true rfl) ⟨Nat.le_of_ble_eq_true rfl, Nat.le_of_ble_eq_true rfl⟩ ⟨Nat.le_refl _, Nat.le_refl _⟩ ?_
    refine z_if_eq CX 13 dX6_set_6 (by decide) (fun q9 => absurd q9 (by rw [bI_1 h0]; decide)) (fun _ => ?_)
    refine z_iconst CX (v := 0) dX6_set_9 (by decide) ?_
    refine z_goto CX 14 dX6_set_10 (by decide) ?_
    refine z_callV1 CX dX6_set_14 cv_X6_122 (c_ref _) mo_0 rfl rfl (Nat.le_of_ble_eq_true rfl) ⟨Nat.le_of_ble_eq_true rfl, Nat.le_of_ble_eq_true rfl⟩ ⟨Nat.le_refl _, Nat.le_refl _⟩ ?_
    refine z_if_eq CX 22 dX6_set_17 (by decide) (fun _ => ?_) (fun q9 => absurd (by decide) q9)
    refine z_aload_n CX 0 dX6_set_22 rfl rfl ?_
    refine z_callV0 CX dX6_set_23 cv_X6_243 (c_rem (u := upd u 0 0) (A := A) (ns := ns) hn h14) mo_0 rfl rfl (Nat.le_of_ble_eq_true rfl) ⟨Nat.le_of_ble_eq_true rfl, Nat.le_of_ble_eq_true rfl⟩ ⟨Nat.le_refl _, Nat.le_refl _⟩ ?_
    refine z_aload_n CX 0 dX6_set_26 rfl rfl ?_
    refine z_get CX dX6_set_27 fg_X6_7 mo_0 rfl ?_
    refine z_sipush CX (v := 154) dX6_set_30 (by decide) ?_
    refine z_iload_n CX 1 dX6_set_33 rfl rfl ?_
    refine z_iadd CX dX6_set_34 ?_
    rw [show (154 : Int32) + nI i = nI (154 + i) from nI_add 154 i]
    refine z_iload_n CX 2 dX6_set_35 rfl rfl ?_
    refine z_callS1 CX dX6_set_36 cs_X6_185 (Cn.row (mq_0 (A := RA A ns)) (mr_0 (A := RA A ns)) (a := k + 1) (f := A 0) (c_putM (k := 154 + i) (by omega) b)) rfl rfl (Nat.le_of_ble_eq_true rfl) ⟨Nat.le_of_ble_eq_true rfl, Nat.le_of_ble_eq_true rfl⟩ ⟨Nat.le_refl _, Nat.le_refl _⟩ ?_
    exact z_iret CX dX6_set_39 rfl rfl rfl (Or.inl rfl)
  · rw [show rs_set u A ns a b = bad 1 u A from if_neg h0]
    refine Cn.of (d := mX6_set) (by decide +kernel) (Nat.le_of_ble_eq_true rfl) ?_
    intro p e R s m args below meth c CX
    replace CX : Ctx p s m args meth c R w RX6 "set" cX6_set 3 (some .int) 2 46 0 0 := CX
    show ZW p l e R s m args below meth c w 3 _ _ 0 0 (MQ below (Qn w _ _ _) args s 0 0 (wA w)) 0 [(0, .ref (wB w + k)), (1, .int _), (2, .int _)] []
    refine z_aload_n CX 0 dX6_set_0 rfl rfl ?_
    refine z_iload_n CX 1 dX6_set_1 rfl rfl ?_
    refine z_iload_n CX 2 dX6_set_2 rfl rfl ?_
    refine z_callS1 CX dX6_set_3 cs_X6_181 (c_isSet _ _) rfl rfl (Nat.le_of_ble_eq_true rfl) ⟨Nat.le_of_ble_eq_true rfl, Nat.le_of_ble_eq_true rfl⟩ ⟨Nat.le_refl _, Nat.le_refl _⟩ ?_
    refine z_if_eq CX 13 dX6_set_6 (by decide) (fun _ => ?_) (fun q9 => absurd (bI_0 h0) q9)
    refine z_iconst CX (v := 1) dX6_set_13 (by decide) ?_
    refine z_callV1 CX dX6_set_14 cv_X6_122 (c_ref _) mo_0 rfl rfl (Nat.le_of_ble_eq_true rfl) ⟨Nat.le_of_ble_eq_true rfl, Nat.le_of_ble_eq_true rfl⟩ ⟨Nat.le_refl _, Nat.le_refl _⟩ ?_
    refine z_if_eq CX 22 dX6_set_17 (by decide) (fun q9 => absurd q9 (by decide)) (fun _ => ?_)
    refine z_iconst CX (v := 0) dX6_set_20 (by decide) ?_
    exact z_iret CX dX6_set_21 rfl rfl rfl (Or.inl rfl)
