section ZN
variable {p : Program} {l : Launch} {e : Env} {R : Room} {s : State} {m : MethodId} {args : Array Value} {below : List Frame} {meth : Method} {c : Code} {w : Wt} {own nm : String} {cc : ByteArray} {nL : Nat} {rt : Option FieldType} {fr lo mc ms : Nat} {hs : Hs} {n : Option Nat} {cells slots : Nat} {Q : State → Prop} {pc : Nat} {lv : List (Nat × Value)} {st : List Value}
def FN (own : String) (ix ci N : Nat) (fs : List Value) : Prop := ∃ (C : String) (T : u_T) (ty0 : Nat → FieldType), vwCl[ci]? = some (C, T, N) ∧ (∀ x ∈ u_ws C T N, x ∈ WA) ∧ Cond.classLink own ix C ∈ WA ∧ Cond.instantiable C N ∈ WA ∧ Cond.initialized C ∈ WA ∧ (∀ j, j < N → parseFieldDescriptor (T j).2.2.1 = some (ty0 j)) ∧ ∀ j, j < N → defaultValue (ty0 j) = vp_V fs j
theorem z_new (C : Ctx p s m args meth c R w own nm cc nL rt fr lo mc ms) {k ix ci N : Nat} {fs : List Value} (d : decode cc pc = .ok (.new ix, 3)) (g : FN own ix ci N fs) (h1 : cells + 1 ≤ mc) (h2 : slots + N ≤ ms) (K : ZW p l e R s m args below meth c w nL (upH hs k (.inr (ci, fs))) (some (k + 1)) (cells + 1) (slots + N) Q (pc + 3) lv (.ref (wB w + k) :: st)) : ZW p l e R s m args below meth c w nL hs (some k) cells slots Q pc lv st := by
  intro H locs ls hP hS hl
  obtain ⟨C9, T, ty0, hc, hin, w1, w2, w3, hty, hfs⟩ := g
  obtain ⟨hx, hb, hml, hown, hts, -, -, hR, hK, -, -⟩ := C
  have hKn := hK.1 ci _ hc
  refine W.newcK hx hb hown (hts _ w1) (hts _ w2) (hts _ w3) rfl d (by rw [hR.2.2.1]; exact h1) (by rw [hR.2.2.2]; exact h2) hKn.2.1 rfl fun H1 kC hkC e1 z1 o1 => ?_
  have hz : H.size = wB w + k := hP.1 k rfl
  have hz9 : wB w ≤ H.size := by omega
  rw [hz] at e1
  have hP1 : PH w (upH hs k (.inr (ci, fs))) (some (k + 1)) H1 := hP.push ⟨_, hc, (u_born ty0 hts hin hKn hkC e1 hty).to hfs⟩ z1 o1
  have K1 := K H1 locs ls hP1 ⟨Nat.le_trans hS.1 (by omega), fun q g1 g2 => (o1 q (Nat.lt_of_lt_of_le g1 hS.1)).trans (hS.2.1 q g1 g2), hS.2.2⟩ hl
  rw [hz]
  exact K1
theorem z_newI (C : Ctx p s m args meth c R w own nm cc nL rt fr lo mc ms) {k N : Nat} {x : Int32} (d : decode cc pc = .ok (.newarray .int, 2)) (hw : Cond.arrayClass .int ∈ WA) (hx0 : ¬ x < 0) (hN : x.toNatClampNeg = N) (hN9 : N ≤ 5000) (h1 : cells + 1 ≤ mc) (h2 : slots + N ≤ ms) (K : ZW p l e R s m args below meth c w nL (upH hs k (.inl (wC w 0, N, .inl (fun _ => 0)))) (some (k + 1)) (cells + 1) (slots + N) Q (pc + 2) lv (.ref (wB w + k) :: st)) : ZW p l e R s m args below meth c w nL hs (some k) cells slots Q pc lv (.int x :: st) := by
  intro H locs ls hP hS hl
  obtain ⟨hx, hb, hml, hown, hts, -, -, hR, hK, -, -⟩ := C
  have hz : H.size = wB w + k := hP.1 k rfl
  refine va_newaK (atype := .int) hx hb (hts _ hw) rfl d rfl hx0 hN (by show N * componentBytes .int ≤ _; have : componentBytes .int ≤ 8 := (by decide); exact Nat.le_trans (Nat.mul_le_mul hN9 this) (by decide)) (by rw [hR.2.2.1]; exact h1) (by rw [hR.2.2.2]; exact h2) hz fun H1 cA e1 z1 o1 hAr hNm => ?_
  have hcA : wC w 0 = cA := Option.some.inj (((hK.2 0 _ rfl).2 : va_RA s (wC w 0) .int).symm.trans hNm)
  subst hcA
  have hz9 : wB w ≤ H.size := by omega
  have hP1 : PH w (upH hs k (.inl (wC w 0, N, .inl (fun _ => 0)))) (some (k + 1)) H1 := hP.push (show H1[wB w + k]? = some (vp_cell _ _) by rw [e1, vp_cell_i]; rfl) (by rw [z1, hz]) (fun q hq => o1 q (by rw [← hz]; exact hq))
  exact K H1 locs ls hP1 ⟨Nat.le_trans hS.1 (by omega), fun q g1 g2 => (o1 q (by rw [← hz]; exact Nat.lt_of_lt_of_le g1 hS.1)).trans (hS.2.1 q g1 g2), hS.2.2⟩ hl
theorem z_newZ (C : Ctx p s m args meth c R w own nm cc nL rt fr lo mc ms) {k N : Nat} {x : Int32} (d : decode cc pc = .ok (.newarray .boolean, 2)) (hw : Cond.arrayClass .boolean ∈ WA) (hx0 : ¬ x < 0) (hN : x.toNatClampNeg = N) (hN9 : N ≤ 5000) (h1 : cells + 1 ≤ mc) (h2 : slots + N ≤ ms) (K : ZW p l e R s m args below meth c w nL (upH hs k (.inl (wC w 1, N, .inl (fun _ => 0)))) (some (k + 1)) (cells + 1) (slots + N) Q (pc + 2) lv (.ref (wB w + k) :: st)) : ZW p l e R s m args below meth c w nL hs (some k) cells slots Q pc lv (.int x :: st) := by
  intro H locs ls hP hS hl
  obtain ⟨hx, hb, hml, hown, hts, -, -, hR, hK, -, -⟩ := C
  have hz : H.size = wB w + k := hP.1 k rfl
  refine va_newaK (atype := .boolean) hx hb (hts _ hw) rfl d rfl hx0 hN (by show N * componentBytes .boolean ≤ _; have : componentBytes .boolean ≤ 8 := (by decide); exact Nat.le_trans (Nat.mul_le_mul hN9 this) (by decide)) (by rw [hR.2.2.1]; exact h1) (by rw [hR.2.2.2]; exact h2) hz fun H1 cA e1 z1 o1 hAr hNm => ?_
  have hcA : wC w 1 = cA := Option.some.inj (((hK.2 1 _ rfl).2 : va_RA s (wC w 1) .boolean).symm.trans hNm)
  subst hcA
  have hz9 : wB w ≤ H.size := by omega
  have hP1 : PH w (upH hs k (.inl (wC w 1, N, .inl (fun _ => 0)))) (some (k + 1)) H1 := hP.push (show H1[wB w + k]? = some (vp_cell _ _) by rw [e1, vp_cell_i]; rfl) (by rw [z1, hz]) (fun q hq => o1 q (by rw [← hz]; exact hq))
  exact K H1 locs ls hP1 ⟨Nat.le_trans hS.1 (by omega), fun q g1 g2 => (o1 q (by rw [← hz]; exact Nat.lt_of_lt_of_le g1 hS.1)).trans (hS.2.1 q g1 g2), hS.2.2⟩ hl
theorem z_anew (C : Ctx p s m args meth c R w own nm cc nL rt fr lo mc ms) {k N ix : Nat} {x : Int32} (d : decode cc pc = .ok (.anewarray ix, 3)) (hw : Cond.classLink own ix "GutterBoats$Tournament" ∈ WA) (hx0 : ¬ x < 0) (hN : x.toNatClampNeg = N) (hN9 : N ≤ 5000) (h1 : cells + 1 ≤ mc) (h2 : slots + N ≤ ms) (K : ZW p l e R s m args below meth c w nL (upH hs k (.inl (wC w 3, N, .inr (.inr (.inr (.inr (fun _ => none))))))) (some (k + 1)) (cells + 1) (slots + N) Q (pc + 3) lv (.ref (wB w + k) :: st)) : ZW p l e R s m args below meth c w nL hs (some k) cells slots Q pc lv (.int x :: st) := by
  intro H locs ls hP hS hl
  have hO := C.2.2.2.2.2.2.2.2.2.1
  obtain ⟨hx, hb, hml, hown, hts, -, -, hR, hK, -, -⟩ := C
  have hz : H.size = wB w + k := hP.1 k rfl
  have hz9 : wB w ≤ H.size := by omega
  subst hN
  refine W.anew hx hb hown (hts _ hw) (va_AO.use hO.2.2.2.2.2.1) rfl d rfl hx0 (Nat.le_trans (Nat.mul_le_mul_right 4 hN9) (by decide)) (by rw [hR.2.2.1]; exact h1) (by rw [hR.2.2.2]; exact h2) fun cA kA comp f1 f2 f3 f4 => ?_
  have hcA : wC w 3 = cA := by
    obtain ⟨kA9, comp9, -, -, -, hNm⟩ := ((hK.2 3 _ rfl).2 : va_RA s (wC w 3) (.object "GutterBoats$Tournament"))
    exact Option.some.inj (hNm.symm.trans f1)
  subst hcA
  generalize hH1 : H.push ({ cls := wC w 3, slots := Array.replicate x.toNatClampNeg .null, vm := .none } : Cell) = H1
  have z1 : H1.size = H.size + 1 := by rw [← hH1, Array.size_push]
  have e1 : H1[wB w + k]? = some (arrV (wC w 3) x.toNatClampNeg (fun _ => .null)) := by rw [← hz, ← hH1, Array.getElem?_push_size, ← arrV_new]
  have o1 : ∀ q : Nat, q < H.size → H1[q]? = H[q]? := fun q hq => by rw [← hH1, Array.getElem?_push, if_neg (Nat.ne_of_lt hq)]
  have hP1 : PH w (upH hs k (.inl (wC w 3, x.toNatClampNeg, .inr (.inr (.inr (.inr (fun _ => none))))))) (some (k + 1)) H1 := hP.push (show H1[wB w + k]? = some (vp_cell _ _) by rw [e1, vp_cell_q]; rfl) z1 o1
  have K1 := K H1 locs ls hP1 ⟨Nat.le_trans hS.1 (by omega), fun q g1 g2 => (o1 q (Nat.lt_of_lt_of_le g1 hS.1)).trans (hS.2.1 q g1 g2), hS.2.2⟩ hl
  rw [hz]
  exact K1
theorem z_aast (C : Ctx p s m args meth c R w own nm cc nL rt fr lo mc ms) {i j len : Nat} {f : Nat → Option Nat} {fs : List Value} {x : Int32} (d : decode cc pc = .ok (.aastore, 1)) (hh : hs i = some (.inl (wC w 3, len, .inr (.inr (.inr (.inr f)))))) (hj : hs j = some (.inr (4, fs))) (hin : vp_in x len) (K : ZW p l e R s m args below meth c w nL (upH hs i (.inl (wC w 3, len, .inr (.inr (.inr (.inr (va_up f x.toNatClampNeg (some (wB w + j))))))))) n cells slots Q (pc + 1) lv st) : ZW p l e R s m args below meth c w nL hs n cells slots Q pc lv (.ref (wB w + j) :: .int x :: .ref (wB w + i) :: st) := by
  intro H locs ls hP hS hl
  have hK := C.2.2.2.2.2.2.2.2.1
  have hlt : x.toNatClampNeg < len := Nat.not_le.mp fun q => hin (Or.inr q)
  have h0 : ¬ x < 0 := fun q => hin (Or.inl q)
  obtain ⟨r9, hr9, cellV, g1, g2, g3, -⟩ := hP.2 j _ hj
  cases hr9
  have hcls := (hK.1 4 _ rfl).2
  obtain ⟨kA, comp, k1, k2, k3, -⟩ := ((hK.2 3 _ rfl).2 : va_RA s (wC w 3) (.object "GutterBoats$Tournament"))
  have hcomp : comp = (wG w).1 4 := Option.some.inj (k3.symm.trans hcls.1)
  subst hcomp
  obtain ⟨kC, hkC, -⟩ := hcls.2
  have h1 : H[wB w + i]? = some (vp_cell (wC w 3) (len, .inr (.inr (.inr (.inr f))))) := hP.2 i _ hh
  refine W.aast C.1 C.2.1 h1 (fun q h => by cases h) (fun h => by cases h) k1 k2 rfl hkC ⟨h0, by show _ < (arrV _ _ _).slots.size; rw [arrV_size]; exact hlt⟩ g1 (fun q h => by rw [g3] at h; cases h) (by rw [g2]; exact hkC) (by rw [g2]; exact va_assign hcls) rfl rfl d fun H1 e1 z1 o1 => ?_
  refine K H1 _ ls (hP.set ?_ z1 o1) (hS.put z1 o1 (Nat.le_add_right _ _)) hl
  show H1[wB w + i]? = some (vp_cell _ _)
  rw [e1, vp_cell_q, vp_cell_q, arrV_store]
  congr 2
  funext q
  by_cases hq : q = x.toNatClampNeg
  · subst hq
    simp [updV, va_up, va_rf]
  · simp [updV, va_up, hq]
theorem z_max (C : Ctx p s m args meth c R w own nm cc nL rt fr lo mc ms) {ix : Nat} {x y : Int32} (d : decode cc pc = .ok (.invokestatic ix, 3)) (w1 : Cond.methodLink own ix Lib.Math.max.name ∈ WA) (w2 : Cond.static Lib.Math.max.name ∈ WA) (w3 : Cond.initialized "java/lang/Math" ∈ WA) (w4 : Cond.code Lib.Math.max.name Lib.Math.max.code 2 (some .int) ∈ WA) (hf : 1 ≤ fr) (hlo : (st.map fun v => v.category).sum + 13 ≤ lo) (hc1 : cells ≤ mc) (hc2 : slots ≤ ms) (K : ZW p l e R s m args below meth c w nL hs n cells slots Q (pc + 3) lv (.int (if x < y then y else x) :: st)) : ZW p l e R s m args below meth c w nL hs n cells slots Q pc lv (.int y :: .int x :: st) := fun H locs ls hP hS hl =>
  va_mmax C.1 C.2.1 (C.2.2.1.trans hl.1.symm) C.2.2.2.1 (C.2.2.2.2.1 _ w1) (C.2.2.2.2.1 _ w2) (C.2.2.2.2.1 _ w3) (C.2.2.2.2.1 _ w4) (by rw [C.2.2.2.2.2.2.2.1.1]; exact hf) (by rw [C.2.2.2.2.2.2.2.1.2.1]; exact hlo) (by rw [C.2.2.2.2.2.2.2.1.2.2.1]; exact hc1) (by rw [C.2.2.2.2.2.2.2.1.2.2.2]; exact hc2) d (K H locs ls hP hS hl)
theorem z_min (C : Ctx p s m args meth c R w own nm cc nL rt fr lo mc ms) {ix : Nat} {x y : Int32} (d : decode cc pc = .ok (.invokestatic ix, 3)) (w1 : Cond.methodLink own ix Lib.Math.min.name ∈ WA) (w2 : Cond.static Lib.Math.min.name ∈ WA) (w3 : Cond.initialized "java/lang/Math" ∈ WA) (w4 : Cond.code Lib.Math.min.name Lib.Math.min.code 2 (some .int) ∈ WA) (hf : 1 ≤ fr) (hlo : (st.map fun v => v.category).sum + 13 ≤ lo) (hc1 : cells ≤ mc) (hc2 : slots ≤ ms) (K : ZW p l e R s m args below meth c w nL hs n cells slots Q (pc + 3) lv (.int (if y < x then y else x) :: st)) : ZW p l e R s m args below meth c w nL hs n cells slots Q pc lv (.int y :: .int x :: st) := fun H locs ls hP hS hl =>
  va_mmin C.1 C.2.1 (C.2.2.1.trans hl.1.symm) C.2.2.2.1 (C.2.2.2.2.1 _ w1) (C.2.2.2.2.1 _ w2) (C.2.2.2.2.1 _ w3) (C.2.2.2.2.1 _ w4) (by rw [C.2.2.2.2.2.2.2.1.1]; exact hf) (by rw [C.2.2.2.2.2.2.2.1.2.1]; exact hlo) (by rw [C.2.2.2.2.2.2.2.1.2.2.1]; exact hc1) (by rw [C.2.2.2.2.2.2.2.1.2.2.2]; exact hc2) d (K H locs ls hP hS hl)
theorem z_abs (C : Ctx p s m args meth c R w own nm cc nL rt fr lo mc ms) {ix : Nat} {x : Int32} (d : decode cc pc = .ok (.invokestatic ix, 3)) (w1 : Cond.methodLink own ix Lib.Math.abs.name ∈ WA) (w2 : Cond.static Lib.Math.abs.name ∈ WA) (w3 : Cond.initialized "java/lang/Math" ∈ WA) (w4 : Cond.code Lib.Math.abs.name Lib.Math.abs.code 1 (some .int) ∈ WA) (hf : 1 ≤ fr) (hlo : (st.map fun v => v.category).sum + 13 ≤ lo) (hc1 : cells ≤ mc) (hc2 : slots ≤ ms) (K : ZW p l e R s m args below meth c w nL hs n cells slots Q (pc + 3) lv (.int (if 0 ≤ x then x else 0 - x) :: st)) : ZW p l e R s m args below meth c w nL hs n cells slots Q pc lv (.int x :: st) := fun H locs ls hP hS hl =>
  va_mabs C.1 C.2.1 (C.2.2.1.trans hl.1.symm) C.2.2.2.1 (C.2.2.2.2.1 _ w1) (C.2.2.2.2.1 _ w2) (C.2.2.2.2.1 _ w3) (C.2.2.2.2.1 _ w4) (by rw [C.2.2.2.2.2.2.2.1.1]; exact hf) (by rw [C.2.2.2.2.2.2.2.1.2.1]; exact hlo) (by rw [C.2.2.2.2.2.2.2.1.2.2.1]; exact hc1) (by rw [C.2.2.2.2.2.2.2.1.2.2.2]; exact hc2) d (K H locs ls hP hS hl)
theorem z_objinit (C : Ctx p s m args meth c R w own nm cc nL rt fr lo mc ms) {ix x : Nat} (d : decode cc pc = .ok (.invokespecial ix, 3)) (w1 : Cond.methodLink own ix Lib.objectInit ∈ WA) (w2 : Cond.instanceMethod Lib.objectInit ∈ WA) (w3 : Cond.code Lib.objectInit ⟨#[0xb1]⟩ 1 none ∈ WA) (hf : 1 ≤ fr) (hlo : (st.map fun v => v.category).sum + 12 ≤ lo) (K : ZW p l e R s m args below meth c w nL hs n cells slots Q (pc + 3) lv st) : ZW p l e R s m args below meth c w nL hs n cells slots Q pc lv (.ref x :: st) := fun H locs ls hP hS hl =>
  W.objInit C.1 C.2.1 C.2.2.2.1 (C.2.2.2.2.1 _ w1) (C.2.2.2.2.1 _ w2) (C.2.2.2.2.1 _ w3) rfl (hl.1.trans C.2.2.1.symm) rfl d (by rw [C.2.2.2.2.2.2.2.1.1]; exact hf) (by rw [C.2.2.2.2.2.2.2.1.2.1]; show 2 * 0 + _ + 12 ≤ lo; omega) (K H locs ls hP hS hl)
theorem z_copy (C : Ctx p s m args meth c R w own nm cc nL rt fr lo mc ms) {ix i j n0 n1 : Nat} {f g : Nat → Int32} {x : Int32} (d : decode cc pc = .ok (.invokestatic ix, 3)) (w1 : Cond.methodLink own ix arraycopyName ∈ WA) (w2 : Cond.native arraycopyName ∈ WA) (w3 : Cond.static arraycopyName ∈ WA) (w4 : Cond.initialized "java/lang/System" ∈ WA) (hi : hs i = some (.inl (wC w 0, n0, .inl f))) (hj : hs j = some (.inl (wC w 0, n1, .inl g))) (h3 : ¬ x < 0) (h4 : x.toNatClampNeg ≤ n0) (h5 : x.toNatClampNeg ≤ n1) (hf : 1 ≤ fr) (hlo : (st.map fun v => v.category).sum + (nativeFrameWords "java/lang/System" "arraycopy" 5 + 11) ≤ lo) (K : ZW p l e R s m args below meth c w nL (upH hs j (.inl (wC w 0, n1, .inl (va_cpy f g 0 0 x.toNatClampNeg)))) n cells slots Q (pc + 3) lv st) : ZW p l e R s m args below meth c w nL hs n cells slots Q pc lv (.int x :: .int 0 :: .ref (wB w + j) :: .int 0 :: .ref (wB w + i) :: st) := by
  intro H locs ls hP hS hl
  have z0 : (0 : Int32).toNatClampNeg = 0 := by decide
  have hx9 : x.toInt = (x.toNatClampNeg : Int) := by
    have hz0 : (0 : Int) ≤ x.toInt := by
      have := Int32.not_lt.mp h3
      simpa using Int32.le_iff_toInt_le.mp this
    show x.toInt = ((x.toInt.toNat : Nat) : Int)
    omega
  obtain ⟨hx, hb, hml, hown, hts, -, -, hR, hK, -, -⟩ := C
  intro T hT X
  have hc0 : H[wB w + i]? = some (vp_cell (wC w 0) (n0, .inl f)) := hP.2 i _ hi
  have hc1 : H[wB w + j]? = some (vp_cell (wC w 0) (n1, .inl g)) := hP.2 j _ hj
  obtain ⟨-, k0, hk0, cm0, hkk0⟩ := (hK.2 0 _ rfl).1 n0 (fun j => .int (f j))
  obtain ⟨vm9, X9, step⟩ := X.arraycopy hx hown (hts _ w1) (hts _ w2) (hts _ w3) (hts _ w4) (src := wB w + i) (dst := wB w + j) (cs := vp_cell (wC w 0) (n0, .inl f)) (cd := vp_cell (wC w 0) (n1, .inl g)) (srcPos := 0) (destPos := 0) (n := x) (by rw [hT]; exact hc0) (by rw [hT]; exact hc1)
    (fun _ h => by cases h) (fun _ h => by cases h) (fun h => by cases h) (fun h => by cases h) hk0 hk0 hkk0 hkk0 rfl (by decide) (by decide) h3
    (by rw [hx9]; show ¬ (0 : Int) + _ > ((arrV (wC w 0) n0 (fun j => .int (f j))).slots.size : Int); rw [arrV_size]; omega)
    (by rw [hx9]; show ¬ (0 : Int) + _ > ((arrV (wC w 0) n1 (fun j => .int (g j))).slots.size : Int); rw [arrV_size]; omega)
    (fun vm₁ _ k hk => by
      have e9 : (vp_cell (wC w 0) (n0, .inl f)).slots.getD ((0 : Int32).toNatClampNeg + k) .null = .int (f ((0 : Int32).toNatClampNeg + k)) := by
        show (arrV (wC w 0) n0 (fun j => .int (f j))).slots.getD _ _ = _
        rw [Array.getD_eq_getD_getElem?, arrV_read _ _ (by rw [z0]; omega)]
        rfl
      exact ⟨by rw [e9]; rfl, by rw [e9]; exact trivial⟩)
    (g := F0 m pc ls (.int x :: .int 0 :: .ref (wB w + j) :: .int 0 :: .ref (wB w + i) :: st)) rfl (by rw [hml]; exact hl.1) (rest := st) rfl (by rw [hb]; exact d) (by rw [hR.1]; exact hf) (by rw [hR.2.1]; show 2 * 0 + _ + _ ≤ _; omega)
  have e1 : copied (vp_cell (wC w 0) (n0, .inl f)) (vp_cell (wC w 0) (n1, .inl g)) 0 0 x = vp_cell (wC w 0) (n1, .inl (va_cpy f g (0 : Int32).toNatClampNeg (0 : Int32).toNatClampNeg x.toNatClampNeg)) := va_copied (fun z => .int z) (wC w 0) (wC w 0) f g (by rw [z0]; omega)
  rw [e1, z0] at X9 step
  generalize hce : vp_cell (wC w 0) (n1, .inl (va_cpy f g 0 0 x.toNatClampNeg)) = ce at X9 step
  have hlt : wB w + j < H.size := (Array.getElem?_eq_some_iff.mp hc1).1
  have hheap : ((T.setVm vm9).setCell (wB w + j) ce).heap = H.setIfInBounds (wB w + j) ce := by rw [← hT]; rfl
  have o1 : ∀ q : Nat, q ≠ wB w + j → (H.setIfInBounds (wB w + j) ce)[q]? = H[q]? := fun q hq => by simp [Array.getElem?_setIfInBounds, Ne.symm hq]
  have hA : wA w (wB w + j) := Nat.le_add_right _ _
  obtain ⟨t, a1, b1⟩ := K (H.setIfInBounds (wB w + j) ce) _ ls (hP.set (e := .inl (wC w 0, n1, .inl (va_cpy f g 0 0 x.toNatClampNeg))) (show (H.setIfInBounds (wB w + j) ce)[wB w + j]? = some _ by rw [← hce]; simp [Array.getElem?_setIfInBounds, hlt]) (by simp) o1) ⟨by simp; exact hS.1, fun q g1 g2 => by
      rw [o1 q (fun e9 => g2 (by rw [e9]; exact hA))]
      exact hS.2.1 q g1 g2, fun q hq => by
      rcases List.mem_append.mp hq with h | h
      · exact hS.2.2 q h
      · obtain ⟨z, -, hz⟩ := List.mem_map.mp h
        rw [← hz]
        exact hA⟩ hl _ hheap X9
  exact ⟨t, step t a1, b1⟩
end ZN
