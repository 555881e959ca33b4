/-! two pictures of one heap: arrays that agree below their length -/
theorem arrV_c {c : ClassId} {N : Nat} {f g : Nat → Value} (h : ∀ j, j < N → f j = g j) : arrV c N f = arrV c N g := by
  unfold arrV
  rw [show (fun j : Fin N => f j.val) = fun j : Fin N => g j.val from funext fun j => h j.val j.isLt]
def EE (a b : Option va_E) : Prop := a = b ∨ ∃ (c : ClassId) (len : Nat) (f f' : Nat → Int32), a = some (.inl (c, len, .inl f)) ∧ b = some (.inl (c, len, .inl f')) ∧ ∀ j, j < len → f j = f' j
def HE (a b : Hs) : Prop := ∀ i, EE (a i) (b i)
theorem EE.symm {a b : Option va_E} (h : EE a b) : EE b a := by
  rcases h with h | ⟨c, len, f, f', h1, h2, h3⟩
  · exact Or.inl h.symm
  · exact Or.inr ⟨c, len, f', f, h2, h1, fun j hj => (h3 j hj).symm⟩
theorem HE.symm {a b : Hs} (h : HE a b) : HE b a := fun i => (h i).symm
theorem PH.he {w : Wt} {a b : Hs} {n : Option Nat} {H : Heap} (h : HE a b) (hP : PH w a n H) : PH w b n H := by
  refine ⟨hP.1, fun i e he => ?_⟩
  rcases h i with q | ⟨c, len, f, f', h1, h2, h3⟩
  · exact hP.2 i e (q.trans he)
  · rw [h2] at he
    cases he
    have h4 := hP.2 i _ h1
    show H[wB w + i]? = some (vp_cell c (len, .inl f'))
    have h5 : H[wB w + i]? = some (vp_cell c (len, .inl f)) := h4
    rw [h5, vp_cell_i, vp_cell_i, arrV_c (fun j hj => by rw [h3 j hj])]
theorem PH_he {w : Wt} {a b : Hs} (h : HE a b) : PH w a = PH w b := by
  funext n H
  exact propext ⟨fun q => q.he h, fun q => q.he h.symm⟩
theorem Cn.he {l : Launch} {w : Wt} {d : MD} {c1 s1 : Nat} {av : List Value} {hs hs9 hs8 : Hs} {n n9 : Option Nat} {v : Option Value} (h : HE hs9 hs8) (hC : Cn l w d c1 s1 av hs n hs9 n9 v) : Cn l w d c1 s1 av hs n hs8 n9 v := by
  have e : Qn w hs9 n9 v = Qn w hs8 n9 v := by unfold Qn; rw [PH_he h]
  unfold Cn at hC ⊢
  rw [e] at hC
  exact hC
theorem Cn.he0 {l : Launch} {w : Wt} {d : MD} {c1 s1 : Nat} {av : List Value} {hs hs9 hs8 : Hs} {n n9 : Option Nat} {v : Option Value} (h : HE hs hs8) (hC : Cn l w d c1 s1 av hs n hs9 n9 v) : Cn l w d c1 s1 av hs8 n hs9 n9 v := by
  have e : WS w hs n = WS w hs8 n := by unfold WS; rw [PH_he h]
  unfold Cn at hC ⊢
  rw [e] at hC
  exact hC
section
variable {p : Program} {l : Launch} {e : Env} {R : Room} {s : State} {m : MethodId} {args : Array Value} {below : List Frame} {meth : Method} {c : Code} {w : Wt} {nL : Nat} {hs hs9 : Hs} {n : Option Nat} {cells slots : Nat} {Q : State → Prop} {pc : Nat} {lv : List (Nat × Value)} {st : List Value}
theorem z_heapE (h : HE hs hs9) (K : ZW p l e R s m args below meth c w nL hs9 n cells slots Q pc lv st) : ZW p l e R s m args below meth c w nL hs n cells slots Q pc lv st := fun H locs ls hP hS hl => K H locs ls (hP.he h) hS hl
end
theorem HE.rfl {a : Hs} : HE a a := fun _ => Or.inl _root_.rfl
theorem rowHE {w : Wt} {hs : Hs} {a : Nat} {f f' : Nat → Int32} (h : ∀ j, j < 157 → f j = f' j) : HE (rowH w hs a f) (rowH w hs a f') := by
  intro i
  by_cases e : i = a
  · subst e
    exact Or.inr ⟨_, _, _, _, row_0, row_0, h⟩
  · rw [row_n e, row_n e]; exact Or.inl _root_.rfl
theorem c_cpM {l : Launch} {w : Wt} {hs : Hs} {n : Option Nat} {a : Nat} {f : Nat → Int32} {q : Nat} {g : Nat → Int32} (hq : q ≠ a) (hg : hs q = some (.inl (wC w 0, 157, .inl g))) : Cn l w mX6_copy 0 0 [.ref (wB w + q), .ref (wB w + a)] (rowH w hs a f) n (rowH w hs a g) n none :=
  Cn.he (rowHE (fun j hj => if_pos hj)) (c_copyM hq hg)
theorem modHE {w : Wt} {hs : Hs} {k : Nat} {s : Nat → Int32} {A A' : Nat → Nat → Int32} (h0 : ∀ j, j < 157 → A 0 j = A' 0 j) (h1 : ∀ j, j < 157 → A 1 j = A' 1 j) (h2 : ∀ j, j < 157 → A 2 j = A' 2 j) (h3 : ∀ j, j < 2198 → A 3 j = A' 3 j) (h4 : ∀ j, j < 314 → A 4 j = A' 4 j) (h5 : ∀ j, j < 2 → A 5 j = A' 5 j) (h6 : ∀ j, j < 120 → A 6 j = A' 6 j) : HE (modH w hs k s A) (modH w hs k s A') := by
  intro i
  by_cases e : k ≤ i ∧ i < k + 8
  · obtain ⟨j, hj, rfl⟩ : ∃ j, j < 8 ∧ i = k + j := ⟨i - k, by omega, by omega⟩
    rw [mo_i hj, mo_i hj]
    match j, hj with
    | 0, _ => exact Or.inl _root_.rfl
    | 1, _ => exact Or.inr ⟨_, _, _, _, _root_.rfl, _root_.rfl, h0⟩
    | 2, _ => exact Or.inr ⟨_, _, _, _, _root_.rfl, _root_.rfl, h1⟩
    | 3, _ => exact Or.inr ⟨_, _, _, _, _root_.rfl, _root_.rfl, h2⟩
    | 4, _ => exact Or.inr ⟨_, _, _, _, _root_.rfl, _root_.rfl, h3⟩
    | 5, _ => exact Or.inr ⟨_, _, _, _, _root_.rfl, _root_.rfl, h4⟩
    | 6, _ => exact Or.inr ⟨_, _, _, _, _root_.rfl, _root_.rfl, h5⟩
    | 7, _ => exact Or.inr ⟨_, _, _, _, _root_.rfl, _root_.rfl, h6⟩
  · rw [mo_n (by omega), mo_n (by omega)]; exact Or.inl _root_.rfl
theorem modHE0 {w : Wt} {hs : Hs} {k : Nat} {s : Nat → Int32} {A : Nat → Nat → Int32} {f f' : Nat → Int32} (h : ∀ j, j < 157 → f j = f' j) : HE (modH w hs k s (upA A 0 f)) (modH w hs k s (upA A 0 f')) :=
  modHE h (fun _ _ => _root_.rfl) (fun _ _ => _root_.rfl) (fun _ _ => _root_.rfl) (fun _ _ => _root_.rfl) (fun _ _ => _root_.rfl) (fun _ _ => _root_.rfl)
/-! undo, restore and load again, with the row itself -/
def rt_undo (u : Nat → Int32) (A : Nat → Nat → Int32) (ns : Nat) : RSt := if ns = 0 then bad 1 u A else (0, nI (ns - 1), upd (upd u 0 0) 1 (nI (ns - 1)), upA A 0 (sl (A 3) (ns - 1)))
def rt_restore (u : Nat → Int32) (A : Nat → Nat → Int32) (a : Int32) : RSt := if 0 ≤ a ∧ a ≤ 1 then (if A 5 a.toNatClampNeg = 0 then bad 2 u A else (0, sl (A 4) a.toNatClampNeg 148, upd (upd u 0 0) 1 0, upA A 0 (sl (A 4) a.toNatClampNeg))) else bad 1 u A
def rt_load (u : Nat → Int32) (A : Nat → Nat → Int32) (len : Nat) : RSt := if (tsF (A 6) len (A 2)).1.2 = true then (0, (tsF (A 6) len (A 2)).2.2, upd (upd (sT5 u (tsF (A 6) len (A 2)).1.1 (tsF (A 6) len (A 2)).1.2 (tsF (A 6) len (A 2)).2.2) 0 0) 1 0, upA (upA (upA A 2 (tsF (A 6) len (A 2)).2.1) 0 (tsF (A 6) len (A 2)).2.1) 5 (upd (upd (A 5) 0 0) 1 0)) else (1, 0, upd (sT5 u (tsF (A 6) len (A 2)).1.1 (tsF (A 6) len (A 2)).1.2 (tsF (A 6) len (A 2)).2.2) 0 1, upA A 2 (tsF (A 6) len (A 2)).2.1)
theorem n_undo {l : Launch} {w : Wt} {hs : Hs} {n : Option Nat} {k : Nat} {u : Nat → Int32} {A : Nat → Nat → Int32} {ns : Nat} (hn : u 1 = nI ns) (h14 : ns ≤ 14) : Cn l w mX6_undo 0 0 [.ref (wB w + k)] (modH w hs k u A) n (modH w hs k (rt_undo u A ns).2.2.1 (rt_undo u A ns).2.2.2) n (some (.int (rt_undo u A ns).2.1)) := by
  have h := m_undo (l := l) (w := w) (hs := hs) (n := n) (k := k) (A := A) hn h14
  unfold rs_undo at h
  unfold rt_undo
  by_cases c : ns = 0
  · rw [if_pos c] at h ⊢; exact h
  · rw [if_neg c] at h ⊢; exact h.he (modHE0 (fun j hj => if_pos hj))
theorem n_restore {l : Launch} {w : Wt} {hs : Hs} {n : Option Nat} {k : Nat} {u : Nat → Int32} {A : Nat → Nat → Int32} (a : Int32) : Cn l w mX6_restore 0 0 [.ref (wB w + k), .int a] (modH w hs k u A) n (modH w hs k (rt_restore u A a).2.2.1 (rt_restore u A a).2.2.2) n (some (.int (rt_restore u A a).2.1)) := by
  have h := m_restore (l := l) (w := w) (hs := hs) (n := n) (k := k) (u := u) (A := A) a
  unfold rs_restore at h
  unfold rt_restore
  by_cases c : 0 ≤ a ∧ a ≤ 1
  · rw [if_pos c] at h ⊢
    by_cases c2 : A 5 a.toNatClampNeg = 0
    · rw [if_pos c2] at h ⊢; exact h
    · rw [if_neg c2] at h ⊢; exact h.he (modHE0 (fun j hj => if_pos hj))
  · rw [if_neg c] at h ⊢; exact h
theorem n_load {l : Launch} {w : Wt} {hs : Hs} {n : Option Nat} {k : Nat} {u : Nat → Int32} {A : Nat → Nat → Int32} {len : Nat} (hu : u 2 = nI len) (hl : len ≤ 120) : Cn l w mX6_load 0 0 [.ref (wB w + k)] (modH w hs k u A) n (modH w hs k (rt_load u A len).2.2.1 (rt_load u A len).2.2.2) n (some (.int (rt_load u A len).2.1)) := by
  have h := m_load (l := l) (w := w) (hs := hs) (n := n) (k := k) (A := A) hu hl
  unfold rs_load at h
  unfold rt_load
  generalize tsF (A 6) len (A 2) = F at h ⊢
  by_cases c : F.1.2 = true
  · rw [if_pos c] at h ⊢
    exact Cn.he (hs9 := modH w hs k (upd (upd (sT5 u F.1.1 F.1.2 F.2.2) 0 0) 1 0) (upA (upA (upA A 2 F.2.1) 0 (cpyF 157 F.2.1 (A 0))) 5 (upd (upd (A 5) 0 0) 1 0))) (hs8 := modH w hs k (upd (upd (sT5 u F.1.1 F.1.2 F.2.2) 0 0) 1 0) (upA (upA (upA A 2 F.2.1) 0 F.2.1) 5 (upd (upd (A 5) 0 0) 1 0))) (modHE (fun j hj => show cpyF 157 F.2.1 (A 0) j = F.2.1 j from if_pos hj) (fun _ _ => _root_.rfl) (fun _ _ => _root_.rfl) (fun _ _ => _root_.rfl) (fun _ _ => _root_.rfl) (fun _ _ => _root_.rfl) (fun _ _ => _root_.rfl)) h
  · rw [if_neg c] at h ⊢; exact h
theorem gtl_st {f : Nat → Int32} {ng nb b j : Nat} (hb : b < nb) (h : RI f ng nb) (hs : f (24 + 10 * b + 3) = 1) (hK : ∃ K, f (24 + 10 * b + 6) = nI K ∧ K ≤ 93 ∧ 94 ≤ j + 1 + K) : (gmi f nb).2 (24 + 10 * b + 3) = 1 → ∃ K, (gmi f nb).2 (24 + 10 * b + 6) = nI K ∧ K ≤ 93 ∧ 94 ≤ j + K := by
  intro q
  obtain ⟨K, e1, k1, k2⟩ := hK
  obtain ⟨K2, k3, e2⟩ := (RI_gmi h).soak hb q
  obtain ⟨r, m, d, b1, b2, b3, b4, b5, b6, b7⟩ := h.2.2.2.2.1
  have e3 := gmi_soak h hb hs q
  rw [e1, b5, e2, show (1 : Int32) + nI r = nI (1 + r) from nI_add 1 r, nI_add] at e3
  have := (nI_eq (by omega) (by omega)).mp e3
  exact ⟨K2, e2, k3, by omega⟩
set_option maxHeartbeats 4000000 in
set_option maxRecDepth 100000 in
theorem c_goT {l : Launch} {w : Wt} {hs : Hs} {n : Option Nat} {k : Nat} {u : Nat → Int32} {A : Nat → Nat → Int32} {ng nb b C9 : Nat} {F9 : Nat → Int32} (hR : RI (A 1) ng nb) (hb : b < nb) (hF : gtl nb b 94 (A 1) = (C9, F9)) : Cn l w mX6_goesTill 0 0 [.ref (wB w + k), .int (nI b)] (modH w hs k u A) n (modH w hs k u (upA A 1 F9)) n (some (.int (nI C9))) := by
  refine Cn.of (d := mX6_goesTill) (by decide +kernel) (Nat.le_of_ble_eq_true rfl) ?_
  intro p e R s m args below meth c CX
  replace CX : Ctx p s m args meth c R w RX6 "goesTill" cX6_goesTill 4 (some .int) 6 136 0 0 := CX
  show ZW p l e R s m args below meth c w 4 _ _ 0 0 (MQ below (Qn w _ _ _) args s 0 0 (wA w)) 0 [(0, .ref (wB w + k)), (1, .int (nI b))] []
  have LP : ∀ (j c9 : Nat) (f1 : Nat → Int32), RI f1 ng nb → (f1 (24 + 10 * b + 3) = 1 → ∃ K, f1 (24 + 10 * b + 6) = nI K ∧ K ≤ 93 ∧ 94 ≤ j + K) → c9 + (gtl nb b j f1).1 = C9 → (gtl nb b j f1).2 = F9 → ZW p l e R s m args below meth c w 4 (modH w hs k u (upA A 1 f1)) n 0 0 (MQ below (Qn w (modH w hs k u (upA A 1 F9)) n (some (.int (nI C9)))) args s 0 0 (wA w)) 2 [(0, .ref (wB w + k)), (1, .int (nI b)), (2, .int (nI c9))] [] := by
    intro j
    induction j with
    | zero =>
      intro c9 f1 hR hK e1 e2
      have hnb := hR.2.2.1
      refine z_aload_n CX 0 dX6_goesTill_2 rfl rfl ?_
      refine z_get CX dX6_goesTill_3 fg_X6_13 mo_0 rfl ?_
      refine z_iload_n CX 1 dX6_goesTill_6 rfl rfl ?_
      refine z_callS1 CX dX6_goesTill_7 cs_X6_64 (Cn.row (mq_1 (A := upA A 1 f1)) (mq_1 (A := upA A 1 f1)) (a := k + 2) (c_state (b := b) (by omega))) rfl rfl (Nat.le_of_ble_eq_true rfl) ⟨Nat.le_of_ble_eq_true rfl, Nat.le_of_ble_eq_true rfl⟩ ⟨Nat.le_refl _, Nat.le_refl _⟩ ?_
      refine z_iconst CX (v := 1) dX6_goesTill_10 (by decide) ?_
      refine z_icmp_ne CX 28 dX6_goesTill_11 (by decide) (fun _ => ?_) (fun q9 => absurd q9 (fun z => by obtain ⟨K, -, k1, k2⟩ := hK z; omega))
      rw [show C9 = c9 from e1.symm, ← e2]
      refine z_iload_n CX 2 dX6_goesTill_28 rfl rfl ?_
      exact z_iret CX dX6_goesTill_29 rfl rfl rfl (Or.inl rfl)
    | succ j ih =>
      intro c9 f1 hR hK e1 e2
      have hnb := hR.2.2.1
      by_cases hs9 : f1 (24 + 10 * b + 3) = 1
      · skip
        refine z_aload_n CX 0 dX6_goesTill_2 rfl rfl ?_
        refine z_get CX dX6_goesTill_3 fg_X6_13 mo_0 rfl ?_
        refine z_iload_n CX 1 dX6_goesTill_6 rfl rfl ?_
        refine z_callS1 CX dX6_goesTill_7 cs_X6_64 (Cn.row (mq_1 (A := upA A 1 f1)) (mq_1 (A := upA A 1 f1)) (a := k + 2) (c_state (b := b) (by omega))) rfl rfl (Nat.le_of_ble_eq_true rfl) ⟨Nat.le_of_ble_eq_true rfl, Nat.le_of_ble_eq_true rfl⟩ ⟨Nat.le_refl _, Nat.le_refl _⟩ ?_
        refine z_iconst CX (v := 1) dX6_goesTill_10 (by decide) ?_
        refine z_icmp_ne CX 28 dX6_goesTill_11 (by decide) (fun q9 => absurd q9 (fun z => z hs9)) (fun _ => ?_)
        refine z_aload_n CX 0 dX6_goesTill_14 rfl rfl ?_
        refine z_get CX dX6_goesTill_15 fg_X6_13 mo_0 rfl ?_
        refine z_callS1 CX dX6_goesTill_18 cs_X6_89 (Cn.row (mq_1 (A := upA A 1 f1)) (mr_1 (A := upA A 1 f1)) (a := k + 2) (c_goM hR)) rfl rfl (Nat.le_of_ble_eq_true rfl) ⟨Nat.le_of_ble_eq_true rfl, Nat.le_of_ble_eq_true rfl⟩ ⟨Nat.le_refl _, Nat.le_refl _⟩ ?_
        refine z_heap (show _ = modH w hs k u (upA A 1 (gmi f1 nb).2) from congrArg (fun z => modH w hs k u z) upA_up) ?_
        refine z_istore_n CX 3 dX6_goesTill_21 rfl (by decide) ?_
        refine z_iinc CX (v := nI (c9 + 1)) dX6_goesTill_22 rfl (nI_1 c9) (by decide) ?_
        refine z_goto CX 2 dX6_goesTill_25 (by decide) ?_
        refine z_loc [(0, .ref (wB w + k)), (1, .int (nI b)), (2, .int (nI (c9 + 1)))] ⟨rfl, rfl, rfl, trivial⟩ ?_
        exact ih (c9 + 1) _ (RI_gmi hR) (gtl_st hb hR hs9 (hK hs9)) (by rw [← e1, gtl, if_pos hs9]; omega) (by rw [← e2, gtl, if_pos hs9])
      · skip
        refine z_aload_n CX 0 dX6_goesTill_2 rfl rfl ?_
        refine z_get CX dX6_goesTill_3 fg_X6_13 mo_0 rfl ?_
        refine z_iload_n CX 1 dX6_goesTill_6 rfl rfl ?_
        refine z_callS1 CX dX6_goesTill_7 cs_X6_64 (Cn.row (mq_1 (A := upA A 1 f1)) (mq_1 (A := upA A 1 f1)) (a := k + 2) (c_state (b := b) (by omega))) rfl rfl (Nat.le_of_ble_eq_true rfl) ⟨Nat.le_of_ble_eq_true rfl, Nat.le_of_ble_eq_true rfl⟩ ⟨Nat.le_refl _, Nat.le_refl _⟩ ?_
        refine z_iconst CX (v := 1) dX6_goesTill_10 (by decide) ?_
        refine z_icmp_ne CX 28 dX6_goesTill_11 (by decide) (fun _ => ?_) (fun q9 => absurd q9 hs9)
        rw [gtl, if_neg hs9] at e1 e2
        rw [show C9 = c9 from e1.symm, ← e2]
        refine z_iload_n CX 2 dX6_goesTill_28 rfl rfl ?_
        exact z_iret CX dX6_goesTill_29 rfl rfl rfl (Or.inl rfl)
  refine z_iconst CX (v := 0) dX6_goesTill_0 (by decide) ?_
  refine z_istore_n CX 2 dX6_goesTill_1 rfl (by decide) ?_
  refine z_heap (congrArg (fun z => modH w hs k u z) (upA_id (A := A) (i := 1)).symm) ?_
  refine z_loc [(0, .ref (wB w + k)), (1, .int (nI b)), (2, .int (nI 0))] ⟨rfl, rfl, rfl, trivial⟩ ?_
  exact LP 94 0 (A 1) hR (fun q => by obtain ⟨K, k1, k2⟩ := hR.soak hb q; exact ⟨K, k2, k1, by omega⟩) (by rw [hF]; exact Nat.zero_add _) (by rw [hF])
