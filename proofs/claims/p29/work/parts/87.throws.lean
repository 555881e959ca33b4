/-! calls that throw; the wrappers, with their tables -/
def exN : Nat → String := fun i => match i with
  | 1 => "java/lang/IndexOutOfBoundsException"
  | 2 => "java/lang/IllegalArgumentException"
  | _ => "java/lang/IllegalStateException"
def exL : List String := ["java/lang/RuntimeException", "java/lang/Exception"]
def XCn (w : Wt) (hs9 : Hs) (E : String) : String → State → State → Prop := fun E' st t => E' = E ∧ PH w hs9 none t.heap ∧ va_F (wA w) st t
/-- words of the tables that hold of any machine alike, but that a list of good words leaves out -/
def FWL : List Cond := (vx_atS "GutterBoats" 239 "java/lang/IndexOutOfBoundsException" exL ++ (vx_atS "GutterBoats" 246 "java/lang/IllegalArgumentException" exL ++ vx_atS "GutterBoats" 251 "java/lang/IllegalStateException" exL)).filter (fun x => !goodWord x)
theorem FWL_ok : FWL.all (fun x => x.faceAtom && x.onTables) = true := by decide +kernel
theorem FWL_tb : ∀ x ∈ FWL, x ∈ lw_tbl := by decide +kernel
theorem FWL_on {x : Cond} (h : x ∈ FWL) : x.faceAtom = true ∧ x.onTables = true := Bool.and_eq_true_iff.mp (List.all_eq_true.mp FWL_ok x h)
/-- no exception of one of the three classes is one of another -/
def NCs (s : State) : Prop := ∀ i, i < 4 → ∀ j, j < 4 → 1 ≤ i → 1 ≤ j → i ≠ j → va_Nc (exN i) (exN j) s
def NX (s : State) : Prop := NCs s ∧ ∀ x ∈ FWL, x.before #[] s = true
theorem NX.to {s U : State} (hA : s.vm.Alike U.vm) (h : NX s) : NX U := ⟨fun i h1 j h2 h3 h4 h5 => (h.1 i h1 j h2 h3 h4 h5).moved hA, fun x hx => va_tabs (FWL_on hx).2 (rfl : (s.setVm U.vm).vm = U.vm) (Cond.faceAtom_setVm hA x (FWL_on hx).1 (h.2 x hx))⟩
theorem NX.at {s : State} {args : Array Value} {x : Cond} (h : NX s) (hx : x ∈ FWL) : x.before args s = true := va_tabs (FWL_on hx).2 rfl (h.2 x hx)
def WS2 (w : Wt) (hs : Hs) (n : Option Nat) (U : State) : Prop := WS w hs n U ∧ NX U
theorem WS2_blind (w : Wt) (hs : Hs) (n : Option Nat) (av : List Value) : FrameBlind (va_Pc av (WS2 w hs n)) := by
  intro a U g mk q
  obtain ⟨q0, q1, q2⟩ := q
  have h := WS_blind w hs n av a U g mk ⟨q0, q1⟩
  exact ⟨h.1, h.2, NX.to (U := U.calling g mk a) (Vm.Alike.refl U.vm) q2⟩
def noQ : Array Value → State → Outcome → State → Prop := fun _ _ _ _ => False
def noX : String → State → State → Prop := fun _ _ _ => False
/-- A CALL THAT THROWS E, and leaves the cells hs9 -/
def Cx (l : Launch) (w : Wt) (d : MD) (c1 s1 : Nat) (av : List Value) (hs : Hs) (n : Option Nat) (hs9 : Hs) (E : String) : Prop := vx_Met l d.1 (mws d) (mrm d c1 s1) (va_Pc av (WS2 w hs n)) noQ (XCn w hs9 E) c1 s1 (wA w)
theorem Cx.of {l : Launch} {w : Wt} {d : MD} {c1 s1 : Nat} {av : List Value} {hs hs9 : Hs} {n : Option Nat} {E : String} (hpl : plainName d.1.cls = true) (hav : (lg_sl av).length ≤ d.2.2.1)
    (body : ∀ (p : Program) (e : Env) (R : Room) (s : State) (m : MethodId) (args : Array Value) (below : List Frame) (meth : Method) (c : Code), Ctx p s m args meth c R w d.1.cls d.1.name d.2.1 d.2.2.1 d.2.2.2.1 d.2.2.2.2.1 d.2.2.2.2.2 c1 s1 → (∀ x ∈ c.exceptionTable.toList, False) → NX s →
      ZW p l e R s m args below meth c w d.2.2.1 hs n 0 0 (vx_MQ below noQ (XCn w hs9 E) args s c1 s1 (wA w)) 0 (lv_args 0 av) []) : Cx l w d c1 s1 av hs n hs9 E := by
  refine vx_ofW (cc := d.2.1) (maxL := d.2.2.1) (ret := d.2.2.2.1) hpl rfl ?_
  intro p e s m args below meth c s₁ B hml htb hv
  obtain ⟨rfl, ⟨hP, hK, hO⟩, hN⟩ := hv
  have hts : ∀ x ∈ WA, x.before av.toArray s = true := fun x hx => atoms_spec (ws := mws d) B.pre x (List.mem_cons_of_mem _ hx)
  have K := body p e (headSpec (mws d) (mrm d c1 s1)).room s m av.toArray below meth c ⟨B.exec, B.bytes, hml, findClass_of_methodNamed B.named, hts, B.notSynchronized, B.returns, ⟨rfl, rfl, rfl, rfl⟩, hK, hO, (name_of_methodNamed B.named B.method).1⟩ htb hN
  rw [lg_entry_eq]
  exact K s.heap [] _ hP va_S.rf (lv_entry av hav)
theorem ats_1 : (∀ x ∈ vx_atS "GutterBoats" 239 "java/lang/IndexOutOfBoundsException" exL, x ∈ lw_tbl) ∧ ∀ x ∈ vx_atS "GutterBoats" 239 "java/lang/IndexOutOfBoundsException" exL, goodWord x = false → x ∈ FWL := by
  have h1 : ∀ x ∈ vx_atS "GutterBoats" 239 "java/lang/IndexOutOfBoundsException" exL, x ∈ lw_tbl := by decide +kernel
  refine ⟨h1, fun x hx g => List.mem_filter.mpr ⟨?_, by rw [g]; rfl⟩⟩
  exact List.mem_append_left _ hx
theorem ats_2 : (∀ x ∈ vx_atS "GutterBoats" 246 "java/lang/IllegalArgumentException" exL, x ∈ lw_tbl) ∧ ∀ x ∈ vx_atS "GutterBoats" 246 "java/lang/IllegalArgumentException" exL, goodWord x = false → x ∈ FWL := by
  have h1 : ∀ x ∈ vx_atS "GutterBoats" 246 "java/lang/IllegalArgumentException" exL, x ∈ lw_tbl := by decide +kernel
  refine ⟨h1, fun x hx g => List.mem_filter.mpr ⟨?_, by rw [g]; rfl⟩⟩
  exact List.mem_append_right _ (List.mem_append_left _ hx)
theorem ats_3 : (∀ x ∈ vx_atS "GutterBoats" 251 "java/lang/IllegalStateException" exL, x ∈ lw_tbl) ∧ ∀ x ∈ vx_atS "GutterBoats" 251 "java/lang/IllegalStateException" exL, goodWord x = false → x ∈ FWL := by
  have h1 : ∀ x ∈ vx_atS "GutterBoats" 251 "java/lang/IllegalStateException" exL, x ∈ lw_tbl := by decide +kernel
  refine ⟨h1, fun x hx g => List.mem_filter.mpr ⟨?_, by rw [g]; rfl⟩⟩
  exact List.mem_append_right _ (List.mem_append_right _ hx)
/-- .. each of them holds -/
theorem atw {args : Array Value} {s : State} {L : List Cond} (h1 : ∀ x ∈ L, x ∈ lw_tbl) (h2 : ∀ x ∈ L, goodWord x = false → x ∈ FWL) (hts : ∀ x ∈ WA, x.before args s = true) (hN : NX s) : (∀ x ∈ L, x.before args s = true) ∧ ∀ x ∈ L, vx_ot x = true := by
  refine ⟨fun x hx => ?_, fun x hx => ?_⟩
  · cases g : goodWord x with
    | true => exact hts x (List.mem_filter.mpr ⟨h1 x hx, g⟩)
    | false => exact hN.at (h2 x hx g)
  · unfold vx_ot
    cases g : goodWord x with
    | true => exact Bool.or_true _
    | false => rw [(FWL_on (h2 x hx g)).2]; rfl
theorem cst : ∀ j, 1 ≤ j ∧ j < 4 → Cond.castable (exN j) (exN j) ∈ FWL := by
  intro j h
  rcases (show j = 1 ∨ j = 2 ∨ j = 3 by omega) with e | e | e <;> subst e <;> decide +kernel
section
variable {p : Program} {l : Launch} {e : Env} {R : Room} {s : State} {m : MethodId} {args : Array Value} {below : List Frame} {meth : Method} {c : Code} {w : Wt} {own nm : String} {cc : ByteArray} {nL : Nat} {rt : Option FieldType} {fr lo mc ms : Nat} {hs : Hs} {n : Option Nat} {cells slots : Nat} {Q : State → Prop} {pc : Nat} {lv : List (Nat × Value)} {st : List Value}
theorem z_throw (C : Ctx p s m args meth c R w own nm cc nL rt fr lo mc ms) (htb : ∀ x ∈ c.exceptionTable.toList, False) (hl9 : l.stackTraces = false) {k9 ik ic : Nat} {cls : String} {Qc : Array Value → State → Outcome → State → Prop} (hk9 : k9 < 3) (hown9 : own = "GutterBoats") (hfit : Bundle.fit cls = true)
    (hw1 : Cond.classLink own ik cls ∈ WA) (hw2 : Cond.initialized cls ∈ WA) (hN : NX s) (hat : (∀ x ∈ vx_atS "GutterBoats" ic cls exL, x ∈ lw_tbl) ∧ ∀ x ∈ vx_atS "GutterBoats" ic cls exL, goodWord x = false → x ∈ FWL)
    (d0 : decode cc pc = .ok (.new ik, 3)) (d3 : decode cc (pc + 3) = .ok (.dup, 1)) (d4 : decode cc (pc + 4) = .ok (.ldc (sxI k9), 2)) (d6 : decode cc (pc + 6) = .ok (.invokespecial ic, 3)) (d9 : decode cc (pc + 9) = .ok (.athrow, 1))
    (hf : 5 < fr) (hlo : 82 ≤ lo) (hc1 : cells + 1 ≤ mc) (hs1 : slots + 6 ≤ ms) : ZW p l e R s m args below meth c w nL hs n cells slots (vx_MQ below Qc (XCn w hs cls) args s mc ms (wA w)) pc lv [] := by
  subst hown9
  intro H locs ls hP hS hl
  have hO := C.2.2.2.2.2.2.2.2.2.1
  obtain ⟨sa, hsa⟩ := hO.2.2.2.1 k9 hk9
  have hR := C.2.2.2.2.2.2.2.1
  have hat9 := atw (args := args) hat.1 hat.2 C.2.2.2.2.1 hN
  have hot : ∀ x : Cond, goodWord x = true → vx_ot x = true := fun x h => by unfold vx_ot; rw [h]; exact Bool.or_true _
  refine vx_throwS (names := exL) C.1 C.2.1 hl9 C.2.2.2.1 hfit (by decide +kernel) (C.2.2.2.2.1 _ hw1) (C.2.2.2.2.1 _ hw2) hsa hat9.1 ?_ hO.2.1 hO.2.2.1 hS (hl.1.trans C.2.2.1.symm) d0 d3 d4 d6 d9 (fun x hx => (htb x hx).elim) (by rw [hR.1]; exact hf) (by rw [hR.2.1]; exact hlo) (by rw [hR.2.2.1]; exact hc1) (by rw [hR.2.2.2]; exact hs1) C.2.2.2.2.2.1 ?_ hS.2.2 hc1 hs1
  · intro x hx
    rcases List.mem_cons.mp hx with h | h
    · rw [h]; exact hot _ (wa_good _ hw1)
    · rcases List.mem_cons.mp h with h | h
      · rw [h]; exact hot _ (wa_good _ hw2)
      · exact hat9.2 x h
  · intro t _ hz hk
    exact ⟨rfl, ⟨fun k h => (nomatch h), fun i e he => (hP.2 i e he).kept (hk _ (hP.2 i e he).lt)⟩, Nat.le_trans hS.1 hz, fun q h1 h2 => (hk q (Nat.lt_of_lt_of_le h1 hS.1)).trans (hS.2.1 q h1 h2)⟩
theorem pre10 (C : Ctx p s m args meth c R w own nm cc nL rt fr lo mc ms) (hN : NX s) {H : Heap} {locs : List Loc} {av : List Value} (hP : PH w hs n H) (hS : va_S (wA w) s.heap H locs) : PreS s H (va_Pc av (WS2 w hs n)) av :=
  ⟨WS2_blind w hs n av, fun U hU hW => ⟨rfl, ⟨by rw [hU]; exact hP, va_K.moved hW.alike C.2.2.2.2.2.2.2.2.1, OL.to C.2.2.2.2.2.2.2.2.2.1 hW hU hS⟩, NX.to hW.alike hN⟩⟩
/-- a callee has thrown; nothing here catches it -/
theorem x_run9 (C : Ctx p s m args meth c R w own nm cc nL rt fr lo mc ms) (htb : ∀ x ∈ c.exceptionTable.toList, False) {H : Heap} {locs : List Loc} {c1 s1 : Nat} {ls : Array Slot} {st0 rest : List Value} {a : Array Value} {hs9 : Hs} {E : String} {Qc : Array Value → State → Outcome → State → Prop} (hr : vx_Run p l e R s m args below meth c H locs cells slots c1 s1 (F0 m pc ls st0) rest (noQ a) (XCn w hs9 E) (wA w)) (hS : va_S (wA w) s.heap H locs) (hf : cells + c1 ≤ mc ∧ slots + s1 ≤ ms) : W p l e R s m args below meth c H locs cells slots (vx_MQ below Qc (XCn w hs9 E) args s mc ms (wA w)) (F0 m pc ls st0) := by
  intro T hT X
  rcases hr T hT X with ⟨v, st₀, t, T', L, h0, X', hL, e1, e2, hq, -⟩ | ⟨q, st₀, t, T', L, E', ce, h0, X', hL, e1, e2, ⟨hE, hP9, hF⟩, hce, hcv, hcl, hst⟩
  · exact hq.elim
  · subst hE
    obtain ⟨k1, k2, k3⟩ := vx_keep h0 e1 hS (fun _ _ h => h) (fun _ h => h) hL hF
    obtain ⟨t2, a1, b1⟩ := vx_out (Qc := Qc) (XC := XCn w hs9 E') (free := wA w) (mc := mc) (ms := ms) (pc := pc) (ls := ls) (rest := rest) (l := l) (e := e) (below := below) (p := p) (R := R) (cells := cells + c1) (slots := slots + s1) (H := T'.heap) (locs := locs ++ L) (fun x hx => (htb x hx).elim) C.2.2.2.2.2.1 (by rw [e1]; exact hce) hcv hcl (fun t' ht _ => ⟨rfl, by rw [ht, e1]; exact hP9, by rw [ht]; exact k3.1, by rw [ht]; exact k3.2.1⟩) k3.2.2 hf.1 hf.2 T' rfl X'
    exact ⟨t2, hst.trans a1, b1⟩
theorem z_callSx (C : Ctx p s m args meth c R w own nm cc nL rt fr lo mc ms) (htb : ∀ x ∈ c.exceptionTable.toList, False) (hN : NX s) {ix na c1 s1 : Nat} {d : MD} {As rest : List Value} {hs9 : Hs} {E : String} {Qc : Array Value → State → Outcome → State → Prop} (dd : decode cc pc = .ok (.invokestatic ix, 3)) (g : CS own ix na d) (hC : Cx l w d c1 s1 As hs n hs9 E) (hst : st = As.reverse ++ rest) (hn : As.length = na) (hcat : (rest.map fun v => v.category).sum ≤ 8) (hR : RM d fr lo) (hf : cells + c1 ≤ mc ∧ slots + s1 ≤ ms) : ZW p l e R s m args below meth c w nL hs n cells slots (vx_MQ below Qc (XCn w hs9 E) args s mc ms (wA w)) pc lv st := by
  intro H locs ls hP hS hl
  obtain ⟨w1, w2, w4, w5, hd⟩ := g
  exact x_run9 C htb (vx_runS ⟨C.1, C.2.1, C.2.2.1, C.2.2.2.1, C.2.2.2.2.1⟩ hC ⟨callB9 C hR w5 w4 w1 hd, C.2.2.2.2.1 _ w2⟩ (pre10 C hN (av := As) hP hS) rfl hn hl.1 hst (lv_room hcat) dd ⟨by rw [C.2.2.2.2.2.2.2.1.2.2.1]; exact hf.1, by rw [C.2.2.2.2.2.2.2.1.2.2.2]; exact hf.2⟩) hS hf
abbrev HT : Type := List (Nat × Nat × Nat × Nat)
def mwsH (d : MD) (hh : HT) : List Cond := .codeWith d.1 d.2.1 d.2.2.1 d.2.2.2.1 hh :: WA
/-- A CALL OF A WRAPPER -/
def Cw (l : Launch) (w : Wt) (d : MD) (hh : HT) (c1 s1 : Nat) (av : List Value) (hs : Hs) (n : Option Nat) (hs9 : Hs) (n9 : Option Nat) (v : Option Value) : Prop :=
  vx_Met l d.1 (mwsH d hh) (mrm d c1 s1) (va_Pc av (WS2 w hs n)) (Qn w hs9 n9 v) noX c1 s1 (wA w)
theorem Cw.of {l : Launch} {w : Wt} {d : MD} {hh : HT} {c1 s1 : Nat} {av : List Value} {hs hs9 : Hs} {n n9 : Option Nat} {v : Option Value} (hpl : plainName d.1.cls = true) (hav : (lg_sl av).length ≤ d.2.2.1)
    (body : ∀ (p : Program) (e : Env) (R : Room) (s : State) (m : MethodId) (args : Array Value) (below : List Frame) (meth : Method) (c : Code), Ctx p s m args meth c R w d.1.cls d.1.name d.2.1 d.2.2.1 d.2.2.2.1 d.2.2.2.2.1 d.2.2.2.2.2 c1 s1 → c.exceptionTable.toList = tableOf hh → NX s →
      ZW p l e R s m args below meth c w d.2.2.1 hs n 0 0 (MQ below (Qn w hs9 n9 v) args s c1 s1 (wA w)) 0 (lv_args 0 av) []) : Cw l w d hh c1 s1 av hs n hs9 n9 v := by
  refine vx_ofWH (cc := d.2.1) (maxL := d.2.2.1) (ret := d.2.2.2.1) (hh := hh) hpl rfl ?_
  intro p e s m args below meth c s₁ B hml hv
  obtain ⟨rfl, ⟨hP, hK, hO⟩, hN⟩ := hv
  have hw0 : (Cond.codeWith d.1 d.2.1 d.2.2.1 d.2.2.2.1 hh).before av.toArray s = true := atoms_spec (ws := mwsH d hh) B.pre _ List.mem_cons_self
  have hts : ∀ x ∈ WA, x.before av.toArray s = true := fun x hx => atoms_spec (ws := mwsH d hh) B.pre x (List.mem_cons_of_mem _ hx)
  have K := body p e (headSpec (mwsH d hh) (mrm d c1 s1)).room s m av.toArray below meth c ⟨B.exec, B.bytes, hml, findClass_of_methodNamed B.named, hts, B.notSynchronized, B.returns, ⟨rfl, rfl, rfl, rfl⟩, hK, hO, (name_of_methodNamed B.named B.method).1⟩ (vx_table (y := d.1) (ret := d.2.2.2.1) (x := d.1) B hw0) hN
  rw [lg_entry_eq]
  exact vx_ret (K s.heap [] _ hP va_S.rf (lv_entry av hav))
/-- a callee has thrown E: the row of the table that names it, behind i rows that name others -/
theorem z_callVc (C : Ctx p s m args meth c R w own nm cc nL rt fr lo mc ms) {hh : HT} (htb : c.exceptionTable.toList = tableOf hh) (hN : NX s) {ix ci na c1 s1 i j : Nat} {d : MD} {fs As rest : List Value} {hs9 : Hs} (pre suf : List ExceptionTableEntry) (x : ExceptionTableEntry) (hsp : tableOf hh = pre ++ x :: suf) (hx : covers x pc = true) (h0 : x.catchType ≠ 0)
    (hj : 1 ≤ j ∧ j < 4) (hpre : ∀ z ∈ pre, z.catchType ≠ 0 ∧ ∃ i, (1 ≤ i ∧ i < 4) ∧ i ≠ j ∧ Cond.classLink own z.catchType (exN i) ∈ WA) (hw1 : Cond.classLink own x.catchType (exN j) ∈ WA)
    (dd : decode cc pc = .ok (.invokevirtual ix, 3)) (g : CV own ix ci na d) (hC : Cx l w d c1 s1 (.ref (wB w + i) :: As) hs n hs9 (exN j)) (hh9 : hs i = some (.inr (ci, fs))) (hst : st = As.reverse ++ .ref (wB w + i) :: rest) (hn : As.length = na) (hcat : (rest.map fun v => v.category).sum ≤ 8) (hR : RM d fr lo) (hf : cells + c1 ≤ mc ∧ slots + s1 ≤ ms) (K : ∀ q : Nat, ZW p l e R s m args below meth c w nL hs9 none (cells + c1) (slots + s1) Q x.handlerPc lv [.ref q]) : ZW p l e R s m args below meth c w nL hs n cells slots Q pc lv st := by
  intro H locs ls hP hS hl
  obtain ⟨w1, w2, w3, w4, w5, ⟨T, N, hc⟩, hd⟩ := g
  have hp9 := pre10 C hN (av := .ref (wB w + i) :: As) hP hS
  have hrecv := va_recv (D := wG w) C.2.2.2.2.2.2.2.2.1 (P1 hP hh9) (ci := ci) (q0 := 0) hc rfl
  have hr := vx_runV (C := d.1.cls) ⟨C.1, C.2.1, C.2.2.1, C.2.2.2.1, C.2.2.2.2.1⟩ hC ⟨callB9 C hR w5 w4 w1 hd, C.2.2.2.2.1 _ w2, C.2.2.2.2.1 _ w3⟩ ⟨hp9.1, hrecv, hp9.2⟩ (p := p) (l := l) (e := e) (below := below) (meth := meth) (locs := locs) (cells := cells) (slots := slots) (g := F0 m pc ls st) rfl hn hl.1 hst (lv_room hcat) dd ⟨by rw [C.2.2.2.2.2.2.2.1.2.2.1]; exact hf.1, by rw [C.2.2.2.2.2.2.2.1.2.2.2]; exact hf.2⟩
  intro T9 hT X
  rcases hr T9 hT X with ⟨v, st₀, t, T', L, h9, X', hL, e1, e2, hq, -⟩ | ⟨q, st₀, t, T', L, E', ce, h9, X', hL, e1, e2, ⟨hE, hP9, hF⟩, hce, hcv, hcl, hst9⟩
  · exact hq.elim
  · subst hE
    obtain ⟨k1, k2, k3⟩ := vx_keep h9 e1 hS (fun _ _ h => h) (fun _ h => h) hL hF
    obtain ⟨t2, a1, b1⟩ := vx_catch (Q := Q) (p := p) (l := l) (e := e) (R := R) (below := below) (meth := meth) (ls := ls) (rest := rest) (cells := cells + c1) (slots := slots + s1) (H := T'.heap) (locs := locs ++ L) C.2.2.2.1 pre x suf (htb.trans hsp) (fun z hz => by
      obtain ⟨z0, i9, zi, zj, zw⟩ := hpre z hz
      exact Or.inr ⟨z0, exN i9, C.2.2.2.2.1 _ zw, hN.1 j hj.2 i9 zi.2 hj.1 zi.1 (fun h => zj h.symm)⟩) hx h0 (C.2.2.2.2.1 _ hw1) (hN.at (cst j hj)) (by rw [e1]; exact hce) hcv hcl (K q T'.heap (locs ++ L) ls (by rw [e1]; exact hP9) k3 hl) T' rfl X'
    exact ⟨t2, hst9.trans a1, b1⟩
end
set_option maxHeartbeats 4000000 in
set_option maxRecDepth 100000 in
theorem g_thr1 {l : Launch} {w : Wt} {hs : Hs} {n : Option Nat} (hl9 : l.stackTraces = false) : Cx l w mX5_throwFor 1 6 [.int 1] hs n hs (exN 1) := by
  refine Cx.of (d := mX5_throwFor) (by decide +kernel) (Nat.le_of_ble_eq_true rfl) ?_
  intro p e R s m args below meth c CX htb hN
  replace CX : Ctx p s m args meth c R w RX5 "throwFor" cX5_throwFor 1 none 6 92 1 6 := CX
  show ZW p l e R s m args below meth c w 1 _ _ 0 0 _ 0 [(0, .int 1)] []
  refine z_iload_n CX 0 dX5_throwFor_0 rfl rfl ?_
  refine z_iconst CX (v := 1) dX5_throwFor_1 (by decide) ?_
  refine z_icmp_ne CX 15 dX5_throwFor_2 (by decide) (fun q9 => absurd q9 (by decide)) (fun _ => ?_)
  exact z_throw CX htb hl9 (k9 := 0) (cls := exN 1) (by omega) rfl (by decide +kernel) (wa_mem 225 (by decide +kernel) rfl) (wa_mem 11 (by decide +kernel) rfl) hN ats_1 dX5_throwFor_5 dX5_throwFor_8 dX5_throwFor_9 dX5_throwFor_11 dX5_throwFor_14 (by omega) (by omega) (by omega) (by omega)
set_option maxHeartbeats 4000000 in
set_option maxRecDepth 100000 in
theorem g_thr2 {l : Launch} {w : Wt} {hs : Hs} {n : Option Nat} (hl9 : l.stackTraces = false) : Cx l w mX5_throwFor 1 6 [.int 2] hs n hs (exN 2) := by
  refine Cx.of (d := mX5_throwFor) (by decide +kernel) (Nat.le_of_ble_eq_true rfl) ?_
  intro p e R s m args below meth c CX htb hN
  replace CX : Ctx p s m args meth c R w RX5 "throwFor" cX5_throwFor 1 none 6 92 1 6 := CX
  show ZW p l e R s m args below meth c w 1 _ _ 0 0 _ 0 [(0, .int 2)] []
  refine z_iload_n CX 0 dX5_throwFor_0 rfl rfl ?_
  refine z_iconst CX (v := 1) dX5_throwFor_1 (by decide) ?_
  refine z_icmp_ne CX 15 dX5_throwFor_2 (by decide) (fun _ => ?_) (fun q9 => absurd q9 (by decide))
  refine z_iload_n CX 0 dX5_throwFor_15 rfl rfl ?_
  refine z_iconst CX (v := 2) dX5_throwFor_16 (by decide) ?_
  refine z_icmp_ne CX 30 dX5_throwFor_17 (by decide) (fun q9 => absurd q9 (by decide)) (fun _ => ?_)
  exact z_throw CX htb hl9 (k9 := 1) (cls := exN 2) (by omega) rfl (by decide +kernel) (wa_mem 293 (by decide +kernel) rfl) (wa_mem 12 (by decide +kernel) rfl) hN ats_2 dX5_throwFor_20 dX5_throwFor_23 dX5_throwFor_24 dX5_throwFor_26 dX5_throwFor_29 (by omega) (by omega) (by omega) (by omega)
set_option maxHeartbeats 4000000 in
set_option maxRecDepth 100000 in
theorem g_thr3 {l : Launch} {w : Wt} {hs : Hs} {n : Option Nat} (hl9 : l.stackTraces = false) : Cx l w mX5_throwFor 1 6 [.int 3] hs n hs (exN 3) := by
  refine Cx.of (d := mX5_throwFor) (by decide +kernel) (Nat.le_of_ble_eq_true rfl) ?_
  intro p e R s m args below meth c CX htb hN
  replace CX : Ctx p s m args meth c R w RX5 "throwFor" cX5_throwFor 1 none 6 92 1 6 := CX
  show ZW p l e R s m args below meth c w 1 _ _ 0 0 _ 0 [(0, .int 3)] []
  refine z_iload_n CX 0 dX5_throwFor_0 rfl rfl ?_
  refine z_iconst CX (v := 1) dX5_throwFor_1 (by decide) ?_
  refine z_icmp_ne CX 15 dX5_throwFor_2 (by decide) (fun _ => ?_) (fun q9 => absurd q9 (by decide))
  refine z_iload_n CX 0 dX5_throwFor_15 rfl rfl ?_
  refine z_iconst CX (v := 2) dX5_throwFor_16 (by decide) ?_
  refine z_icmp_ne CX 30 dX5_throwFor_17 (by decide) (fun _ => ?_) (fun q9 => absurd q9 (by decide))
  refine z_iload_n CX 0 dX5_throwFor_30 rfl rfl ?_
  refine z_iconst CX (v := 3) dX5_throwFor_31 (by decide) ?_
  refine z_icmp_ne CX 45 dX5_throwFor_32 (by decide) (fun q9 => absurd q9 (by decide)) (fun _ => ?_)
  exact z_throw CX htb hl9 (k9 := 2) (cls := exN 3) (by omega) rfl (by decide +kernel) (wa_mem 309 (by decide +kernel) rfl) (wa_mem 13 (by decide +kernel) rfl) hN ats_3 dX5_throwFor_35 dX5_throwFor_38 dX5_throwFor_39 dX5_throwFor_41 dX5_throwFor_44 (by omega) (by omega) (by omega) (by omega)
theorem g_thr {l : Launch} {w : Wt} {hs : Hs} {n : Option Nat} (hl9 : l.stackTraces = false) {i : Nat} {v : Int32} (h1 : 1 ≤ i ∧ i < 4) (hv : v = nI i) : Cx l w mX5_throwFor 1 6 [.int v] hs n hs (exN i) := by
  subst hv
  rcases (show i = 1 ∨ i = 2 ∨ i = 3 by omega) with e | e | e
  · subst e; exact g_thr1 hl9
  · subst e; exact g_thr2 hl9
  · subst e; exact g_thr3 hl9
