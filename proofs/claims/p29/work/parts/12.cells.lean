section ZC
variable {p : Program} {l : Launch} {e : Env} {R : Room} {s : State} {m : MethodId} {args : Array Value} {below : List Frame} {meth : Method} {c : Code} {w : Wt} {own nm : String} {cc : ByteArray} {nL : Nat} {rt : Option FieldType} {fr lo mc ms : Nat} {hs : Hs} {n : Option Nat} {cells slots : Nat} {Q : State → Prop} {pc : Nat} {lv : List (Nat × Value)} {st : List Value}
theorem P1 {H : Heap} {i : Nat} {x : va_E} (hP : PH w hs n H) (hh : hs i = some x) : va_P (wG w) vwCl [(wB w + i, x)] H := by
  intro j q hq
  have hz : j < 1 := (List.getElem?_eq_some_iff.mp hq).1
  rw [show j = 0 by omega] at hq
  cases hq
  exact hP.2 i _ hh
theorem z_iald (C : Ctx p s m args meth c R w own nm cc nL rt fr lo mc ms) {i len : Nat} {f : Nat → Int32} {x : Int32} {v : Int32} (d : decode cc pc = .ok (.iaload, 1)) (hh : hs i = some (.inl (wC w 0, len, .inl f))) (hin : vp_in x len) (hv : f x.toNatClampNeg = v) (K : ZW p l e R s m args below meth c w nL hs n cells slots Q (pc + 1) lv (.int v :: st)) : ZW p l e R s m args below meth c w nL hs n cells slots Q pc lv (.int x :: .ref (wB w + i) :: st) := by
  subst hv
  intro H locs ls hP hS hl
  exact va_iald (D := wG w) C.1 C.2.1 C.2.2.2.2.2.2.2.2.1 (P1 hP hh) 0 0 rfl rfl hin d (K H locs ls hP hS hl)
theorem z_zald (C : Ctx p s m args meth c R w own nm cc nL rt fr lo mc ms) {i len : Nat} {f : Nat → Int32} {x : Int32} {v : Int32} (d : decode cc pc = .ok (.baload, 1)) (hh : hs i = some (.inl (wC w 1, len, .inl f))) (hin : vp_in x len) (hv : f x.toNatClampNeg = v) (K : ZW p l e R s m args below meth c w nL hs n cells slots Q (pc + 1) lv (.int v :: st)) : ZW p l e R s m args below meth c w nL hs n cells slots Q pc lv (.int x :: .ref (wB w + i) :: st) := by
  subst hv
  intro H locs ls hP hS hl
  exact va_zald (D := wG w) C.1 C.2.1 C.2.2.2.2.2.2.2.2.1 (P1 hP hh) 0 1 rfl rfl hin d (K H locs ls hP hS hl)
theorem z_aald (C : Ctx p s m args meth c R w own nm cc nL rt fr lo mc ms) {i len : Nat} {f : Nat → Option Nat} {x : Int32} {v : Value} (d : decode cc pc = .ok (.aaload, 1)) (hh : hs i = some (.inl (wC w 3, len, .inr (.inr (.inr (.inr f)))))) (hin : vp_in x len) (hv : va_rf (f x.toNatClampNeg) = v) (K : ZW p l e R s m args below meth c w nL hs n cells slots Q (pc + 1) lv (v :: st)) : ZW p l e R s m args below meth c w nL hs n cells slots Q pc lv (.int x :: .ref (wB w + i) :: st) := by
  subst hv
  intro H locs ls hP hS hl
  exact va_aldq (D := wG w) C.1 C.2.1 C.2.2.2.2.2.2.2.2.1 (P1 hP hh) 0 3 rfl rfl hin d (K H locs ls hP hS hl)
theorem z_alen (C : Ctx p s m args meth c R w own nm cc nL rt fr lo mc ms) {i : Nat} {cA : ClassId} {x : vp_A} {v : Int32} (t0 : Nat) {ty : FieldType} (d : decode cc pc = .ok (.arraylength, 1)) (hh : hs i = some (.inl (cA, x))) (ht : (wT w)[t0]? = some (cA, ty)) (hv : Int32.ofNat x.1 = v) (K : ZW p l e R s m args below meth c w nL hs n cells slots Q (pc + 1) lv (.int v :: st)) : ZW p l e R s m args below meth c w nL hs n cells slots Q pc lv (.ref (wB w + i) :: st) := fun H locs ls hP hS hl => va_alen (D := wG w) C.1 C.2.1 C.2.2.2.2.2.2.2.2.1 (P1 hP hh) 0 t0 rfl ht hv d (K H locs ls hP hS hl)
theorem z_ogets (C : Ctx p s m args meth c R w own nm cc nL rt fr lo mc ms) {k : Nat} {ix : Nat} (d : decode cc pc = .ok (.getstatic ix, 3)) (hk : k < 8) (hw : Cond.fieldLink own ix "GutterBoats" (soN k) "[I" ∈ WA ∨ ∃ host, (own, ix, "GutterBoats", soN k, "[I", host) ∈ nsts) (K : ZW p l e R s m args below meth c w nL hs n cells slots Q (pc + 3) lv (.ref (wO w k) :: st)) : ZW p l e R s m args below meth c w nL hs n cells slots Q pc lv st := by
  intro H locs ls hP hS hl
  obtain ⟨-, -, -, -, hn1, -, h4⟩ := C.2.2.2.2.2.2.2.2.2.1
  obtain ⟨hZ, -, -⟩ := h4 k hk
  rcases hw with h | ⟨host, h⟩
  · exact va_gets C.1 C.2.1 hZ hS C.2.2.2.1 (C.2.2.2.2.1 _ h) (fun _ h9 => h9) d (K H locs ls hP hS hl)
  · exact va_getsN C.1 C.2.1 hZ hS C.2.2.2.1 (va_Nw.use rfl (hn1 _ h)) (fun _ h9 => h9) d (K H locs ls hP hS hl)
theorem PO (C : Ctx p s m args meth c R w own nm cc nL rt fr lo mc ms) {k : Nat} (hk : k < 8) : va_X (wO w k) (soV k).length (soF k) s s.heap ∧ wO w k < s.heap.size ∧ ¬ wA w (wO w k) := by
  obtain ⟨h0, -, -, -, -, -, h4⟩ := C.2.2.2.2.2.2.2.2.2.1
  obtain ⟨-, h5, h6⟩ := h4 k hk
  exact ⟨h6, Nat.lt_of_lt_of_le h5 h0, Nat.not_le.mpr h5⟩
theorem z_oalen (C : Ctx p s m args meth c R w own nm cc nL rt fr lo mc ms) {k : Nat} {v : Int32} (d : decode cc pc = .ok (.arraylength, 1)) (hk : k < 8) (hv : Int32.ofNat (soV k).length = v) (K : ZW p l e R s m args below meth c w nL hs n cells slots Q (pc + 1) lv (.int v :: st)) : ZW p l e R s m args below meth c w nL hs n cells slots Q pc lv (.ref (wO w k) :: st) := by
  subst hv
  intro H locs ls hP hS hl
  obtain ⟨q1, q2, q3⟩ := PO C hk
  exact va_slen C.1 C.2.1 q1 q2 q3 hS d (K H locs ls hP hS hl)
theorem z_oald (C : Ctx p s m args meth c R w own nm cc nL rt fr lo mc ms) {k : Nat} {x v : Int32} (d : decode cc pc = .ok (.iaload, 1)) (hk : k < 8) (hin : vp_in x (soV k).length) (hv : soF k x.toNatClampNeg = v) (K : ZW p l e R s m args below meth c w nL hs n cells slots Q (pc + 1) lv (.int v :: st)) : ZW p l e R s m args below meth c w nL hs n cells slots Q pc lv (.int x :: .ref (wO w k) :: st) := by
  subst hv
  intro H locs ls hP hS hl
  obtain ⟨q1, q2, q3⟩ := PO C hk
  exact va_sld C.1 C.2.1 q1 q2 q3 hS hin d (K H locs ls hP hS hl)
theorem z_iast (C : Ctx p s m args meth c R w own nm cc nL rt fr lo mc ms) {i len : Nat} {f : Nat → Int32} {x : Int32} {y : Int32} (d : decode cc pc = .ok (.iastore, 1)) (hh : hs i = some (.inl (wC w 0, len, .inl f))) (hin : vp_in x len) (K : ZW p l e R s m args below meth c w nL (upH hs i (.inl (wC w 0, len, .inl (upd f x.toNatClampNeg y)))) n cells slots Q (pc + 1) lv st) : ZW p l e R s m args below meth c w nL hs n cells slots Q pc lv (.int y :: .int x :: .ref (wB w + i) :: st) := by
  intro H locs ls hP hS hl
  have h1 : H[wB w + i]? = some (vp_cell (wC w 0) (len, .inl f)) := hP.2 i _ hh
  refine W.iast C.1 C.2.1 h1 ((C.2.2.2.2.2.2.2.2.1.2 0 _ rfl).1 len (fun j => .int (f j))) (fun q => by cases q) (by show ¬ (x < 0 ∨ (arrV _ _ _).slots.size ≤ _); rw [arrV_size]; exact hin) rfl rfl d fun H1 e1 z1 o1 => ?_
  refine K H1 _ ls (hP.set ?_ z1 o1) (hS.put z1 o1 (Nat.le_add_right _ _)) hl
  show H1[wB w + i]? = some (vp_cell _ _)
  rw [e1, vp_cell_i, vp_cell_i, arrV_store]
  congr 2
  funext q
  by_cases hq : q = x.toNatClampNeg
  · subst hq
    simp [updV, upd]
  · simp [updV, upd, hq]
theorem z_zast (C : Ctx p s m args meth c R w own nm cc nL rt fr lo mc ms) {i len : Nat} {f : Nat → Int32} {x : Int32} {y : Int32} (d : decode cc pc = .ok (.bastore, 1)) (hh : hs i = some (.inl (wC w 1, len, .inl f))) (hin : vp_in x len) (hz : narrow .boolean (.int y) = .int y) (K : ZW p l e R s m args below meth c w nL (upH hs i (.inl (wC w 1, len, .inl (upd f x.toNatClampNeg y)))) n cells slots Q (pc + 1) lv st) : ZW p l e R s m args below meth c w nL hs n cells slots Q pc lv (.int y :: .int x :: .ref (wB w + i) :: st) := by
  intro H locs ls hP hS hl
  have h1 : H[wB w + i]? = some (vp_cell (wC w 1) (len, .inl f)) := hP.2 i _ hh
  refine W.zast C.1 C.2.1 h1 ((C.2.2.2.2.2.2.2.2.1.2 1 _ rfl).1 len (fun j => .int (f j))) (fun q => by cases q) (by show ¬ (x < 0 ∨ (arrV _ _ _).slots.size ≤ _); rw [arrV_size]; exact hin) rfl rfl d fun H1 e1 z1 o1 => ?_
  refine K H1 _ ls (hP.set ?_ z1 o1) (hS.put z1 o1 (Nat.le_add_right _ _)) hl
  show H1[wB w + i]? = some (vp_cell _ _)
  rw [e1, vp_cell_i, vp_cell_i, arrV_store]
  congr 2
  funext q
  by_cases hq : q = x.toNatClampNeg
  · subst hq
    simp [updV, upd, hz]
  · simp [updV, upd, hq]
end ZC
