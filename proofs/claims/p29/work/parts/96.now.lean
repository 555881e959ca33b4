/-! the digest of all that is told: one number of the row -/
def itL (st : Nat → Int64 → Int64) : Nat → Int64 → Int64
  | 0, v => v
  | i + 1, v => st i (itL st i v)
def sdA (f : Nat → Int32) (i : Nat) (v : Int64) : Int64 := 31 * v + (abV f i).toInt64 + (if i < 3 then 97 * (f (154 + i)).toInt64 else 0)
def sdG (f : Nat → Int32) (g i : Nat) (v : Int64) : Int64 := 31 * v + (gtV f g i).toInt64
def sdB (f : Nat → Int32) (b i : Nat) (v : Int64) : Int64 := 31 * v + (boV f b i).toInt64
def sdO (f : Nat → Int32) (o i : Nat) (v : Int64) : Int64 := 31 * v + (owV f o i).toInt64
def nw1 (f : Nat → Int32) : Int64 := itL (sdA f) 14 157
def nw2 (f : Nat → Int32) : Int64 := itL (fun g v => itL (sdG f g) 7 v) (gN f) (nw1 f)
def nw3 (f : Nat → Int32) : Int64 := itL (fun b v => itL (sdB f b) 10 v) (bN f) (nw2 f)
def nowF (f : Nat → Int32) : Int64 := itL (fun o v => itL (sdO f o) 5 v) 4 (nw3 f)
theorem it_0 {st : Nat → Int64 → Int64} {v : Int64} : itL st 0 v = v := rfl
theorem it_s {st : Nat → Int64 → Int64} {i : Nat} {v : Int64} : itL st (i + 1) v = st i (itL st i v) := rfl
theorem sdG_s {f : Nat → Int32} {g i : Nat} {v : Int64} : 31 * itL (sdG f g) i v + (gtV f g i).toInt64 = itL (sdG f g) (i + 1) v := by rw [it_s]; unfold sdG; rfl
theorem sdB_s {f : Nat → Int32} {g i : Nat} {v : Int64} : 31 * itL (sdB f g) i v + (boV f g i).toInt64 = itL (sdB f g) (i + 1) v := by rw [it_s]; unfold sdB; rfl
theorem sdO_s {f : Nat → Int32} {g i : Nat} {v : Int64} : 31 * itL (sdO f g) i v + (owV f g i).toInt64 = itL (sdO f g) (i + 1) v := by rw [it_s]; unfold sdO; rfl
theorem nw1_e {f : Nat → Int32} : itL (sdA f) 14 157 = nw1 f := by unfold nw1; rfl
theorem nw2_e {f : Nat → Int32} : itL (fun a9 v9 => itL (sdG f a9) 7 v9) (gN f) (nw1 f) = nw2 f := by unfold nw2; rfl
theorem nw3_e {f : Nat → Int32} : itL (fun a9 v9 => itL (sdB f a9) 10 v9) (bN f) (nw2 f) = nw3 f := by unfold nw3; rfl
theorem nw4_e {f : Nat → Int32} : itL (fun a9 v9 => itL (sdO f a9) 5 v9) 4 (nw3 f) = nowF f := by unfold nowF; rfl
theorem ge_l {x : Int32} {a i : Nat} (h : x = nI a) (ha : a < 2 ^ 31) (hi : i < 2 ^ 31) : (0 ≤ lg_cmp (nI i).toInt64 x.toInt64) ↔ a ≤ i := by
  rw [lg_cmp_ge, w_le, h]; exact nI_leI ha hi
section
variable {l : Launch} {w : Wt} {hs0 : Hs} {k M : Nat} {σ : ZS} {H : Hs}
set_option maxHeartbeats 4000000 in
set_option maxRecDepth 100000 in
theorem c_now (hI : IS w hs0 k σ H) (hσ : OKs M σ) : Cp l w mL_now 0 0 [.ref (wB w + k)] H (fun h v => h = H ∧ v = .long (nowF (zsF σ))) := by
  refine Cp.of (d := mL_now) (by decide +kernel) (Nat.le_of_ble_eq_true rfl) ?_
  intro p e R s m args below meth c CX hN
  replace CX : Ctx p s m args meth c R w RL "now" cL_now 5 (some .long) 9 160 0 0 := CX
  show ZW p l e R s m args below meth c w 5 H none 0 0 (MQ below (QP w (fun h v => h = H ∧ v = .long (nowF (zsF σ)))) args s 0 0 (wA w)) 0 [(0, .ref (wB w + k))] []
  have e146 : zsF σ 146 = nI (gN (zsF σ)) := hσ.2.1.1.1.1.1
  have e147 : zsF σ 147 = nI (bN (zsF σ)) := hσ.2.1.1.1.2.1
  have h6 : gN (zsF σ) ≤ 6 := hσ.2.1.1.1.1.2.1
  have h9 : bN (zsF σ) ≤ 10 := hσ.2.1.1.2.2
  have KF : ZW p l e R s m args below meth c w 5 H none 0 0 (MQ below (QP w (fun h v => h = H ∧ v = .long (nowF (zsF σ)))) args s 0 0 (wA w)) 189 [(0, .ref (wB w + k)), (1, .long (nowF (zsF σ)))] [] := by
    refine z_lload_n CX 1 dL_now_189 rfl rfl ?_
    exact z_lretP CX dL_now_190 rfl ⟨rfl, rfl⟩ (Nat.le_refl _) (Nat.le_refl _)
  have LOi : ∀ a9, a9 < 4 → ∀ v9 : Int64, ZW p l e R s m args below meth c w 5 H none 0 0 (MQ below (QP w (fun h v => h = H ∧ v = .long (nowF (zsF σ)))) args s 0 0 (wA w)) 183 [(0, .ref (wB w + k)), (1, .long (itL (sdO (zsF σ) a9) 5 v9)), (3, .int (nI a9))] [] → ∀ j i, i + j = 5 → ZW p l e R s m args below meth c w 5 H none 0 0 (MQ below (QP w (fun h v => h = H ∧ v = .long (nowF (zsF σ)))) args s 0 0 (wA w)) 157 [(0, .ref (wB w + k)), (1, .long (itL (sdO (zsF σ) a9) i v9)), (3, .int (nI a9)), (4, .int (nI i))] [] := by
    intro a9 ha9 v9 K9 j
    induction j with
    | zero =>
      intro i hi
      obtain rfl : i = 5 := by omega
      refine z_iload CX dL_now_157 rfl ?_
      refine z_iconst CX (v := 5) dL_now_159 (by decide) ?_
      refine z_icmp_ge CX 183 dL_now_160 (by decide) (fun _ => ?_) (fun q9 => absurd (by decide) q9)
      refine z_loc [(0, .ref (wB w + k)), (1, .long (itL (sdO (zsF σ) a9) 5 v9)), (3, .int (nI a9))] ⟨rfl, rfl, rfl, trivial⟩ ?_
      exact K9
    | succ j ih =>
      intro i hi
      refine z_iload CX dL_now_157 rfl ?_
      refine z_iconst CX (v := 5) dL_now_159 (by decide) ?_
      refine z_icmp_ge CX 183 dL_now_160 (by decide) (fun q9 => absurd q9 (nI_ge (a := i) (b := 5) (by omega) (by omega))) (fun _ => ?_)
      refine z_ldc2 CX (v := 31) dL_now_163 (wa_mem 541 (by decide +kernel) rfl) ?_
      refine z_lload_n CX 1 dL_now_166 rfl rfl ?_
      refine z_lmul CX dL_now_167 ?_
      refine z_aload_n CX 0 dL_now_168 rfl rfl ?_
      refine z_iload_n CX 3 dL_now_169 rfl rfl ?_
      refine z_iload CX dL_now_170 rfl ?_
      refine z_callSw CX hN dL_now_172 csw_117 (q_ownerOf hI hσ ha9 (show i < 5 by omega)) rfl rfl (Nat.le_of_ble_eq_true rfl) ⟨Nat.le_of_ble_eq_true rfl, Nat.le_of_ble_eq_true rfl⟩ ⟨Nat.le_of_ble_eq_true rfl, Nat.le_of_ble_eq_true rfl⟩ ?_
      refine z_ladd CX dL_now_175 ?_
      refine z_lstore_n CX 1 dL_now_176 rfl (by decide) ?_
      refine z_iinc CX (v := (nI (i + 1))) dL_now_177 rfl (nI_1 _) (by decide) ?_
      refine z_goto CX 157 dL_now_180 (by decide) ?_
      refine z_loc [(0, .ref (wB w + k)), (1, .long (itL (sdO (zsF σ) a9) (i + 1) v9)), (3, .int (nI a9)), (4, .int (nI (i + 1)))] ⟨rfl, (congrArg (fun q9 => some (Value.long q9)) sdO_s), rfl, rfl, trivial⟩ ?_
      exact ih (i + 1) (by omega)
  have LO : ∀ j i, i + j = 4 → ZW p l e R s m args below meth c w 5 H none 0 0 (MQ below (QP w (fun h v => h = H ∧ v = .long (nowF (zsF σ)))) args s 0 0 (wA w)) 149 [(0, .ref (wB w + k)), (1, .long (itL (fun a9 v9 => itL (sdO (zsF σ) a9) 5 v9) i (nw3 (zsF σ)))), (3, .int (nI i))] [] := by
    intro j
    induction j with
    | zero =>
      intro i hi
      obtain rfl : i = 4 := by omega
      refine z_iload_n CX 3 dL_now_149 rfl rfl ?_
      refine z_iconst CX (v := 4) dL_now_150 (by decide) ?_
      refine z_icmp_ge CX 189 dL_now_151 (by decide) (fun _ => ?_) (fun q9 => absurd (by decide) q9)
      refine z_loc [(0, .ref (wB w + k)), (1, .long (nowF (zsF σ)))] ⟨rfl, (congrArg (fun q9 => some (Value.long q9)) nw4_e), trivial⟩ ?_
      exact KF
    | succ j ih =>
      intro i hi
      have K9 : ZW p l e R s m args below meth c w 5 H none 0 0 (MQ below (QP w (fun h v => h = H ∧ v = .long (nowF (zsF σ)))) args s 0 0 (wA w)) 183 [(0, .ref (wB w + k)), (1, .long (itL (sdO (zsF σ) i) 5 (itL (fun a9 v9 => itL (sdO (zsF σ) a9) 5 v9) i (nw3 (zsF σ))))), (3, .int (nI i))] [] := by
        refine z_iinc CX (v := (nI (i + 1))) dL_now_183 rfl (nI_1 _) (by decide) ?_
        refine z_goto CX 149 dL_now_186 (by decide) ?_
        refine z_loc [(0, .ref (wB w + k)), (1, .long (itL (fun a9 v9 => itL (sdO (zsF σ) a9) 5 v9) (i + 1) (nw3 (zsF σ)))), (3, .int (nI (i + 1)))] ⟨rfl, (congrArg (fun q9 => some (Value.long q9)) it_s.symm), rfl, trivial⟩ ?_
        exact ih (i + 1) (by omega)
      refine z_iload_n CX 3 dL_now_149 rfl rfl ?_
      refine z_iconst CX (v := 4) dL_now_150 (by decide) ?_
      refine z_icmp_ge CX 189 dL_now_151 (by decide) (fun q9 => absurd q9 (nI_ge (a := i) (b := 4) (by omega) (by omega))) (fun _ => ?_)
      refine z_iconst CX (v := 0) dL_now_154 (by decide) ?_
      refine z_istore CX dL_now_155 (by decide) ?_
      refine z_loc [(0, .ref (wB w + k)), (1, .long (itL (sdO (zsF σ) i) 0 (itL (fun a9 v9 => itL (sdO (zsF σ) a9) 5 v9) i (nw3 (zsF σ))))), (3, .int (nI i)), (4, .int (nI 0))] ⟨rfl, (congrArg (fun q9 => some (Value.long q9)) it_0.symm), rfl, rfl, trivial⟩ ?_
      exact LOi i (by omega) _ K9 5 0 rfl
  have KO : ZW p l e R s m args below meth c w 5 H none 0 0 (MQ below (QP w (fun h v => h = H ∧ v = .long (nowF (zsF σ)))) args s 0 0 (wA w)) 147 [(0, .ref (wB w + k)), (1, .long (nw3 (zsF σ)))] [] := by
    refine z_iconst CX (v := 0) dL_now_147 (by decide) ?_
    refine z_istore_n CX 3 dL_now_148 rfl (by decide) ?_
    refine z_loc [(0, .ref (wB w + k)), (1, .long (itL (fun a9 v9 => itL (sdO (zsF σ) a9) 5 v9) 0 (nw3 (zsF σ)))), (3, .int (nI 0))] ⟨rfl, (congrArg (fun q9 => some (Value.long q9)) it_0.symm), rfl, trivial⟩ ?_
    exact LO 4 0 rfl
  have LBi : ∀ a9, a9 < bN (zsF σ) → ∀ v9 : Int64, ZW p l e R s m args below meth c w 5 H none 0 0 (MQ below (QP w (fun h v => h = H ∧ v = .long (nowF (zsF σ)))) args s 0 0 (wA w)) 141 [(0, .ref (wB w + k)), (1, .long (itL (sdB (zsF σ) a9) 10 v9)), (3, .int (nI a9))] [] → ∀ j i, i + j = 10 → ZW p l e R s m args below meth c w 5 H none 0 0 (MQ below (QP w (fun h v => h = H ∧ v = .long (nowF (zsF σ)))) args s 0 0 (wA w)) 114 [(0, .ref (wB w + k)), (1, .long (itL (sdB (zsF σ) a9) i v9)), (3, .int (nI a9)), (4, .int (nI i))] [] := by
    intro a9 ha9 v9 K9 j
    induction j with
    | zero =>
      intro i hi
      obtain rfl : i = 10 := by omega
      refine z_iload CX dL_now_114 rfl ?_
      refine z_bipush CX (v := 10) dL_now_116 (by decide) ?_
      refine z_icmp_ge CX 141 dL_now_118 (by decide) (fun _ => ?_) (fun q9 => absurd (by decide) q9)
      refine z_loc [(0, .ref (wB w + k)), (1, .long (itL (sdB (zsF σ) a9) 10 v9)), (3, .int (nI a9))] ⟨rfl, rfl, rfl, trivial⟩ ?_
      exact K9
    | succ j ih =>
      intro i hi
      refine z_iload CX dL_now_114 rfl ?_
      refine z_bipush CX (v := 10) dL_now_116 (by decide) ?_
      refine z_icmp_ge CX 141 dL_now_118 (by decide) (fun q9 => absurd q9 (nI_ge (a := i) (b := 10) (by omega) (by omega))) (fun _ => ?_)
      refine z_ldc2 CX (v := 31) dL_now_121 (wa_mem 541 (by decide +kernel) rfl) ?_
      refine z_lload_n CX 1 dL_now_124 rfl rfl ?_
      refine z_lmul CX dL_now_125 ?_
      refine z_aload_n CX 0 dL_now_126 rfl rfl ?_
      refine z_iload_n CX 3 dL_now_127 rfl rfl ?_
      refine z_iload CX dL_now_128 rfl ?_
      refine z_callSw CX hN dL_now_130 csw_115 (q_boatOf hI hσ ha9 (show i < 11 by omega)) rfl rfl (Nat.le_of_ble_eq_true rfl) ⟨Nat.le_of_ble_eq_true rfl, Nat.le_of_ble_eq_true rfl⟩ ⟨Nat.le_of_ble_eq_true rfl, Nat.le_of_ble_eq_true rfl⟩ ?_
      refine z_ladd CX dL_now_133 ?_
      refine z_lstore_n CX 1 dL_now_134 rfl (by decide) ?_
      refine z_iinc CX (v := (nI (i + 1))) dL_now_135 rfl (nI_1 _) (by decide) ?_
      refine z_goto CX 114 dL_now_138 (by decide) ?_
      refine z_loc [(0, .ref (wB w + k)), (1, .long (itL (sdB (zsF σ) a9) (i + 1) v9)), (3, .int (nI a9)), (4, .int (nI (i + 1)))] ⟨rfl, (congrArg (fun q9 => some (Value.long q9)) sdB_s), rfl, rfl, trivial⟩ ?_
      exact ih (i + 1) (by omega)
  have LB : ∀ j i, i + j = bN (zsF σ) → ZW p l e R s m args below meth c w 5 H none 0 0 (MQ below (QP w (fun h v => h = H ∧ v = .long (nowF (zsF σ)))) args s 0 0 (wA w)) 100 [(0, .ref (wB w + k)), (1, .long (itL (fun a9 v9 => itL (sdB (zsF σ) a9) 10 v9) i (nw2 (zsF σ)))), (3, .int (nI i))] [] := by
    intro j
    induction j with
    | zero =>
      intro i hi
      obtain rfl : i = bN (zsF σ) := by omega
      refine z_iload_n CX 3 dL_now_100 rfl rfl ?_
      refine z_i2l CX dL_now_101 rfl ?_
      refine z_aload_n CX 0 dL_now_102 rfl rfl ?_
      refine z_iconst CX (v := 1) dL_now_103 (by decide) ?_
      refine z_callSw CX hN dL_now_104 csw_103 (q_about (i := 1) hI hσ (by omega)) rfl rfl (Nat.le_of_ble_eq_true rfl) ⟨Nat.le_of_ble_eq_true rfl, Nat.le_of_ble_eq_true rfl⟩ ⟨Nat.le_of_ble_eq_true rfl, Nat.le_of_ble_eq_true rfl⟩ ?_
      refine z_lcmp CX dL_now_107 ?_
      refine z_if_ge CX 147 dL_now_108 (by decide) (fun _ => ?_) (fun q9 => absurd ((ge_l e147 (by omega) (by omega)).mpr (by omega)) q9)
      refine z_loc [(0, .ref (wB w + k)), (1, .long (nw3 (zsF σ)))] ⟨rfl, (congrArg (fun q9 => some (Value.long q9)) nw3_e), trivial⟩ ?_
      exact KO
    | succ j ih =>
      intro i hi
      have K9 : ZW p l e R s m args below meth c w 5 H none 0 0 (MQ below (QP w (fun h v => h = H ∧ v = .long (nowF (zsF σ)))) args s 0 0 (wA w)) 141 [(0, .ref (wB w + k)), (1, .long (itL (sdB (zsF σ) i) 10 (itL (fun a9 v9 => itL (sdB (zsF σ) a9) 10 v9) i (nw2 (zsF σ))))), (3, .int (nI i))] [] := by
        refine z_iinc CX (v := (nI (i + 1))) dL_now_141 rfl (nI_1 _) (by decide) ?_
        refine z_goto CX 100 dL_now_144 (by decide) ?_
        refine z_loc [(0, .ref (wB w + k)), (1, .long (itL (fun a9 v9 => itL (sdB (zsF σ) a9) 10 v9) (i + 1) (nw2 (zsF σ)))), (3, .int (nI (i + 1)))] ⟨rfl, (congrArg (fun q9 => some (Value.long q9)) it_s.symm), rfl, trivial⟩ ?_
        exact ih (i + 1) (by omega)
      refine z_iload_n CX 3 dL_now_100 rfl rfl ?_
      refine z_i2l CX dL_now_101 rfl ?_
      refine z_aload_n CX 0 dL_now_102 rfl rfl ?_
      refine z_iconst CX (v := 1) dL_now_103 (by decide) ?_
      refine z_callSw CX hN dL_now_104 csw_103 (q_about (i := 1) hI hσ (by omega)) rfl rfl (Nat.le_of_ble_eq_true rfl) ⟨Nat.le_of_ble_eq_true rfl, Nat.le_of_ble_eq_true rfl⟩ ⟨Nat.le_of_ble_eq_true rfl, Nat.le_of_ble_eq_true rfl⟩ ?_
      refine z_lcmp CX dL_now_107 ?_
      refine z_if_ge CX 147 dL_now_108 (by decide) (fun q9 => absurd q9 (fun z9 => absurd ((ge_l e147 (by omega) (by omega)).mp z9) (by omega))) (fun _ => ?_)
      refine z_iconst CX (v := 0) dL_now_111 (by decide) ?_
      refine z_istore CX dL_now_112 (by decide) ?_
      refine z_loc [(0, .ref (wB w + k)), (1, .long (itL (sdB (zsF σ) i) 0 (itL (fun a9 v9 => itL (sdB (zsF σ) a9) 10 v9) i (nw2 (zsF σ))))), (3, .int (nI i)), (4, .int (nI 0))] ⟨rfl, (congrArg (fun q9 => some (Value.long q9)) it_0.symm), rfl, rfl, trivial⟩ ?_
      exact LBi i (by omega) _ K9 10 0 rfl
  have KB : ZW p l e R s m args below meth c w 5 H none 0 0 (MQ below (QP w (fun h v => h = H ∧ v = .long (nowF (zsF σ)))) args s 0 0 (wA w)) 98 [(0, .ref (wB w + k)), (1, .long (nw2 (zsF σ)))] [] := by
    refine z_iconst CX (v := 0) dL_now_98 (by decide) ?_
    refine z_istore_n CX 3 dL_now_99 rfl (by decide) ?_
    refine z_loc [(0, .ref (wB w + k)), (1, .long (itL (fun a9 v9 => itL (sdB (zsF σ) a9) 10 v9) 0 (nw2 (zsF σ)))), (3, .int (nI 0))] ⟨rfl, (congrArg (fun q9 => some (Value.long q9)) it_0.symm), rfl, trivial⟩ ?_
    exact LB (bN (zsF σ)) 0 (by omega)
  have LGi : ∀ a9, a9 < gN (zsF σ) → ∀ v9 : Int64, ZW p l e R s m args below meth c w 5 H none 0 0 (MQ below (QP w (fun h v => h = H ∧ v = .long (nowF (zsF σ)))) args s 0 0 (wA w)) 92 [(0, .ref (wB w + k)), (1, .long (itL (sdG (zsF σ) a9) 7 v9)), (3, .int (nI a9))] [] → ∀ j i, i + j = 7 → ZW p l e R s m args below meth c w 5 H none 0 0 (MQ below (QP w (fun h v => h = H ∧ v = .long (nowF (zsF σ)))) args s 0 0 (wA w)) 65 [(0, .ref (wB w + k)), (1, .long (itL (sdG (zsF σ) a9) i v9)), (3, .int (nI a9)), (4, .int (nI i))] [] := by
    intro a9 ha9 v9 K9 j
    induction j with
    | zero =>
      intro i hi
      obtain rfl : i = 7 := by omega
      refine z_iload CX dL_now_65 rfl ?_
      refine z_bipush CX (v := 7) dL_now_67 (by decide) ?_
      refine z_icmp_ge CX 92 dL_now_69 (by decide) (fun _ => ?_) (fun q9 => absurd (by decide) q9)
      refine z_loc [(0, .ref (wB w + k)), (1, .long (itL (sdG (zsF σ) a9) 7 v9)), (3, .int (nI a9))] ⟨rfl, rfl, rfl, trivial⟩ ?_
      exact K9
    | succ j ih =>
      intro i hi
      refine z_iload CX dL_now_65 rfl ?_
      refine z_bipush CX (v := 7) dL_now_67 (by decide) ?_
      refine z_icmp_ge CX 92 dL_now_69 (by decide) (fun q9 => absurd q9 (nI_ge (a := i) (b := 7) (by omega) (by omega))) (fun _ => ?_)
      refine z_ldc2 CX (v := 31) dL_now_72 (wa_mem 541 (by decide +kernel) rfl) ?_
      refine z_lload_n CX 1 dL_now_75 rfl rfl ?_
      refine z_lmul CX dL_now_76 ?_
      refine z_aload_n CX 0 dL_now_77 rfl rfl ?_
      refine z_iload_n CX 3 dL_now_78 rfl rfl ?_
      refine z_iload CX dL_now_79 rfl ?_
      refine z_callSw CX hN dL_now_81 csw_112 (q_gutterOf hI hσ ha9 (show i < 7 by omega)) rfl rfl (Nat.le_of_ble_eq_true rfl) ⟨Nat.le_of_ble_eq_true rfl, Nat.le_of_ble_eq_true rfl⟩ ⟨Nat.le_of_ble_eq_true rfl, Nat.le_of_ble_eq_true rfl⟩ ?_
      refine z_ladd CX dL_now_84 ?_
      refine z_lstore_n CX 1 dL_now_85 rfl (by decide) ?_
      refine z_iinc CX (v := (nI (i + 1))) dL_now_86 rfl (nI_1 _) (by decide) ?_
      refine z_goto CX 65 dL_now_89 (by decide) ?_
      refine z_loc [(0, .ref (wB w + k)), (1, .long (itL (sdG (zsF σ) a9) (i + 1) v9)), (3, .int (nI a9)), (4, .int (nI (i + 1)))] ⟨rfl, (congrArg (fun q9 => some (Value.long q9)) sdG_s), rfl, rfl, trivial⟩ ?_
      exact ih (i + 1) (by omega)
  have LG : ∀ j i, i + j = gN (zsF σ) → ZW p l e R s m args below meth c w 5 H none 0 0 (MQ below (QP w (fun h v => h = H ∧ v = .long (nowF (zsF σ)))) args s 0 0 (wA w)) 51 [(0, .ref (wB w + k)), (1, .long (itL (fun a9 v9 => itL (sdG (zsF σ) a9) 7 v9) i (nw1 (zsF σ)))), (3, .int (nI i))] [] := by
    intro j
    induction j with
    | zero =>
      intro i hi
      obtain rfl : i = gN (zsF σ) := by omega
      refine z_iload_n CX 3 dL_now_51 rfl rfl ?_
      refine z_i2l CX dL_now_52 rfl ?_
      refine z_aload_n CX 0 dL_now_53 rfl rfl ?_
      refine z_iconst CX (v := 0) dL_now_54 (by decide) ?_
      refine z_callSw CX hN dL_now_55 csw_103 (q_about (i := 0) hI hσ (by omega)) rfl rfl (Nat.le_of_ble_eq_true rfl) ⟨Nat.le_of_ble_eq_true rfl, Nat.le_of_ble_eq_true rfl⟩ ⟨Nat.le_of_ble_eq_true rfl, Nat.le_of_ble_eq_true rfl⟩ ?_
      refine z_lcmp CX dL_now_58 ?_
      refine z_if_ge CX 98 dL_now_59 (by decide) (fun _ => ?_) (fun q9 => absurd ((ge_l e146 (by omega) (by omega)).mpr (by omega)) q9)
      refine z_loc [(0, .ref (wB w + k)), (1, .long (nw2 (zsF σ)))] ⟨rfl, (congrArg (fun q9 => some (Value.long q9)) nw2_e), trivial⟩ ?_
      exact KB
    | succ j ih =>
      intro i hi
      have K9 : ZW p l e R s m args below meth c w 5 H none 0 0 (MQ below (QP w (fun h v => h = H ∧ v = .long (nowF (zsF σ)))) args s 0 0 (wA w)) 92 [(0, .ref (wB w + k)), (1, .long (itL (sdG (zsF σ) i) 7 (itL (fun a9 v9 => itL (sdG (zsF σ) a9) 7 v9) i (nw1 (zsF σ))))), (3, .int (nI i))] [] := by
        refine z_iinc CX (v := (nI (i + 1))) dL_now_92 rfl (nI_1 _) (by decide) ?_
        refine z_goto CX 51 dL_now_95 (by decide) ?_
        refine z_loc [(0, .ref (wB w + k)), (1, .long (itL (fun a9 v9 => itL (sdG (zsF σ) a9) 7 v9) (i + 1) (nw1 (zsF σ)))), (3, .int (nI (i + 1)))] ⟨rfl, (congrArg (fun q9 => some (Value.long q9)) it_s.symm), rfl, trivial⟩ ?_
        exact ih (i + 1) (by omega)
      refine z_iload_n CX 3 dL_now_51 rfl rfl ?_
      refine z_i2l CX dL_now_52 rfl ?_
      refine z_aload_n CX 0 dL_now_53 rfl rfl ?_
      refine z_iconst CX (v := 0) dL_now_54 (by decide) ?_
      refine z_callSw CX hN dL_now_55 csw_103 (q_about (i := 0) hI hσ (by omega)) rfl rfl (Nat.le_of_ble_eq_true rfl) ⟨Nat.le_of_ble_eq_true rfl, Nat.le_of_ble_eq_true rfl⟩ ⟨Nat.le_of_ble_eq_true rfl, Nat.le_of_ble_eq_true rfl⟩ ?_
      refine z_lcmp CX dL_now_58 ?_
      refine z_if_ge CX 98 dL_now_59 (by decide) (fun q9 => absurd q9 (fun z9 => absurd ((ge_l e146 (by omega) (by omega)).mp z9) (by omega))) (fun _ => ?_)
      refine z_iconst CX (v := 0) dL_now_62 (by decide) ?_
      refine z_istore CX dL_now_63 (by decide) ?_
      refine z_loc [(0, .ref (wB w + k)), (1, .long (itL (sdG (zsF σ) i) 0 (itL (fun a9 v9 => itL (sdG (zsF σ) a9) 7 v9) i (nw1 (zsF σ))))), (3, .int (nI i)), (4, .int (nI 0))] ⟨rfl, (congrArg (fun q9 => some (Value.long q9)) it_0.symm), rfl, rfl, trivial⟩ ?_
      exact LGi i (by omega) _ K9 7 0 rfl
  have KG : ZW p l e R s m args below meth c w 5 H none 0 0 (MQ below (QP w (fun h v => h = H ∧ v = .long (nowF (zsF σ)))) args s 0 0 (wA w)) 49 [(0, .ref (wB w + k)), (1, .long (nw1 (zsF σ)))] [] := by
    refine z_iconst CX (v := 0) dL_now_49 (by decide) ?_
    refine z_istore_n CX 3 dL_now_50 rfl (by decide) ?_
    refine z_loc [(0, .ref (wB w + k)), (1, .long (itL (fun a9 v9 => itL (sdG (zsF σ) a9) 7 v9) 0 (nw1 (zsF σ)))), (3, .int (nI 0))] ⟨rfl, (congrArg (fun q9 => some (Value.long q9)) it_0.symm), rfl, trivial⟩ ?_
    exact LG (gN (zsF σ)) 0 (by omega)
  have LA : ∀ j i, i + j = 14 → ZW p l e R s m args below meth c w 5 H none 0 0 (MQ below (QP w (fun h v => h = H ∧ v = .long (nowF (zsF σ)))) args s 0 0 (wA w)) 6 [(0, .ref (wB w + k)), (1, .long (itL (sdA (zsF σ)) i 157)), (3, .int (nI i))] [] := by
    intro j
    induction j with
    | zero =>
      intro i hi
      obtain rfl : i = 14 := by omega
      refine z_iload_n CX 3 dL_now_6 rfl rfl ?_
      refine z_bipush CX (v := 14) dL_now_7 (by decide) ?_
      refine z_icmp_ge CX 49 dL_now_9 (by decide) (fun _ => ?_) (fun q9 => absurd (by decide) q9)
      refine z_loc [(0, .ref (wB w + k)), (1, .long (nw1 (zsF σ)))] ⟨rfl, (congrArg (fun q9 => some (Value.long q9)) nw1_e), trivial⟩ ?_
      exact KG
    | succ j ih =>
      intro i hi
      by_cases h3 : i < 3
      · have es : sdA (zsF σ) i (itL (sdA (zsF σ)) i 157) = 31 * itL (sdA (zsF σ)) i 157 + (abV (zsF σ) i).toInt64 + 97 * (zsF σ (154 + i)).toInt64 := by unfold sdA; rw [if_pos h3]
        refine z_iload_n CX 3 dL_now_6 rfl rfl ?_
        refine z_bipush CX (v := 14) dL_now_7 (by decide) ?_
        refine z_icmp_ge CX 49 dL_now_9 (by decide) (fun q9 => absurd q9 (nI_ge (a := i) (b := 14) (by omega) (by omega))) (fun _ => ?_)
        refine z_ldc2 CX (v := 31) dL_now_12 (wa_mem 541 (by decide +kernel) rfl) ?_
        refine z_lload_n CX 1 dL_now_15 rfl rfl ?_
        refine z_lmul CX dL_now_16 ?_
        refine z_aload_n CX 0 dL_now_17 rfl rfl ?_
        refine z_iload_n CX 3 dL_now_18 rfl rfl ?_
        refine z_callSw CX hN dL_now_19 csw_103 (q_about hI hσ (show i < 14 by omega)) rfl rfl (Nat.le_of_ble_eq_true rfl) ⟨Nat.le_of_ble_eq_true rfl, Nat.le_of_ble_eq_true rfl⟩ ⟨Nat.le_of_ble_eq_true rfl, Nat.le_of_ble_eq_true rfl⟩ ?_
        refine z_ladd CX dL_now_22 ?_
        refine z_iload_n CX 3 dL_now_23 rfl rfl ?_
        refine z_iconst CX (v := 3) dL_now_24 (by decide) ?_
        refine z_icmp_ge CX 40 dL_now_25 (by decide) (fun q9 => absurd q9 (nI_ge (a := i) (b := 3) (by omega) (by omega))) (fun _ => ?_)
        refine z_ldc2 CX (v := 97) dL_now_28 (wa_mem 559 (by decide +kernel) rfl) ?_
        refine z_aload_n CX 0 dL_now_31 rfl rfl ?_
        refine z_iload_n CX 3 dL_now_32 rfl rfl ?_
        refine z_callSw CX hN dL_now_33 csw_110 (q_setting hI hσ h3) rfl rfl (Nat.le_of_ble_eq_true rfl) ⟨Nat.le_of_ble_eq_true rfl, Nat.le_of_ble_eq_true rfl⟩ ⟨Nat.le_of_ble_eq_true rfl, Nat.le_of_ble_eq_true rfl⟩ ?_
        refine z_lmul CX dL_now_36 ?_
        refine z_goto CX 41 dL_now_37 (by decide) ?_
        refine z_ladd CX dL_now_41 ?_
        refine z_stk (congrArg (fun q9 => [Value.long q9]) es.symm) ?_
        refine z_lstore_n CX 1 dL_now_42 rfl (by decide) ?_
        refine z_iinc CX (v := (nI (i + 1))) dL_now_43 rfl (nI_1 _) (by decide) ?_
        refine z_goto CX 6 dL_now_46 (by decide) ?_
        refine z_loc [(0, .ref (wB w + k)), (1, .long (itL (sdA (zsF σ)) (i + 1) 157)), (3, .int (nI (i + 1)))] ⟨rfl, (congrArg (fun q9 => some (Value.long q9)) it_s.symm), rfl, trivial⟩ ?_
        exact ih (i + 1) (by omega)
      · have es : sdA (zsF σ) i (itL (sdA (zsF σ)) i 157) = 31 * itL (sdA (zsF σ)) i 157 + (abV (zsF σ) i).toInt64 + 0 := by unfold sdA; rw [if_neg h3]
        refine z_iload_n CX 3 dL_now_6 rfl rfl ?_
        refine z_bipush CX (v := 14) dL_now_7 (by decide) ?_
        refine z_icmp_ge CX 49 dL_now_9 (by decide) (fun q9 => absurd q9 (nI_ge (a := i) (b := 14) (by omega) (by omega))) (fun _ => ?_)
        refine z_ldc2 CX (v := 31) dL_now_12 (wa_mem 541 (by decide +kernel) rfl) ?_
        refine z_lload_n CX 1 dL_now_15 rfl rfl ?_
        refine z_lmul CX dL_now_16 ?_
        refine z_aload_n CX 0 dL_now_17 rfl rfl ?_
        refine z_iload_n CX 3 dL_now_18 rfl rfl ?_
        refine z_callSw CX hN dL_now_19 csw_103 (q_about hI hσ (show i < 14 by omega)) rfl rfl (Nat.le_of_ble_eq_true rfl) ⟨Nat.le_of_ble_eq_true rfl, Nat.le_of_ble_eq_true rfl⟩ ⟨Nat.le_of_ble_eq_true rfl, Nat.le_of_ble_eq_true rfl⟩ ?_
        refine z_ladd CX dL_now_22 ?_
        refine z_iload_n CX 3 dL_now_23 rfl rfl ?_
        refine z_iconst CX (v := 3) dL_now_24 (by decide) ?_
        refine z_icmp_ge CX 40 dL_now_25 (by decide) (fun _ => ?_) (fun q9 => absurd (nI_le (a := 3) (b := i) (by omega) (by omega)) q9)
        refine z_lconst CX (v := 0) dL_now_40 (by decide) ?_
        refine z_ladd CX dL_now_41 ?_
        refine z_stk (congrArg (fun q9 => [Value.long q9]) es.symm) ?_
        refine z_lstore_n CX 1 dL_now_42 rfl (by decide) ?_
        refine z_iinc CX (v := (nI (i + 1))) dL_now_43 rfl (nI_1 _) (by decide) ?_
        refine z_goto CX 6 dL_now_46 (by decide) ?_
        refine z_loc [(0, .ref (wB w + k)), (1, .long (itL (sdA (zsF σ)) (i + 1) 157)), (3, .int (nI (i + 1)))] ⟨rfl, (congrArg (fun q9 => some (Value.long q9)) it_s.symm), rfl, trivial⟩ ?_
        exact ih (i + 1) (by omega)
  refine z_ldc2 CX (v := 157) dL_now_0 (wa_mem 540 (by decide +kernel) rfl) ?_
  refine z_lstore_n CX 1 dL_now_3 rfl (by decide) ?_
  refine z_iconst CX (v := 0) dL_now_4 (by decide) ?_
  refine z_istore_n CX 3 dL_now_5 rfl (by decide) ?_
  refine z_loc [(0, .ref (wB w + k)), (1, .long (itL (sdA (zsF σ)) 0 157)), (3, .int (nI 0))] ⟨rfl, (congrArg (fun q9 => some (Value.long q9)) it_0.symm), rfl, trivial⟩ ?_
  exact LA 14 0 rfl
end
