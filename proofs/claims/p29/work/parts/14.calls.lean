section ZK
variable {p : Program} {l : Launch} {e : Env} {R : Room} {s : State} {m : MethodId} {args : Array Value} {below : List Frame} {meth : Method} {c : Code} {w : Wt} {own nm : String} {cc : ByteArray} {nL : Nat} {rt : Option FieldType} {fr lo mc ms : Nat} {hs : Hs} {n : Option Nat} {cells slots : Nat} {Q : State → Prop} {pc : Nat} {lv : List (Nat × Value)} {st : List Value}
/-- the words of a call: of a virtual one, a static one, a constructor's -/
def CV (own : String) (ix ci na : Nat) (d : MD) : Prop := Cond.methodLink own ix d.1 ∈ WA ∧ Cond.instanceMethod d.1 ∈ WA ∧ Cond.selects d.1.cls d.1 d.1 ∈ WA ∧ Cond.initialized d.1.cls ∈ WA ∧ Cond.code d.1 d.2.1 d.2.2.1 d.2.2.2.1 ∈ WA ∧ (∃ (T : u_T) (N : Nat), vwCl[ci]? = some (d.1.cls, T, N)) ∧ (d.1.cls ≠ "java/lang/invoke/MethodHandle" ∧ d.1.cls ≠ "java/lang/invoke/VarHandle" ∧ (parseMethodDescriptor d.1.desc).map (fun q => q.parameters.length) = some na)
def CS (own : String) (ix na : Nat) (d : MD) : Prop := Cond.methodLink own ix d.1 ∈ WA ∧ Cond.static d.1 ∈ WA ∧ Cond.initialized d.1.cls ∈ WA ∧ Cond.code d.1 d.2.1 d.2.2.1 d.2.2.2.1 ∈ WA ∧ (d.1.cls ≠ "java/lang/invoke/MethodHandle" ∧ d.1.cls ≠ "java/lang/invoke/VarHandle" ∧ (parseMethodDescriptor d.1.desc).map (fun q => q.parameters.length) = some na)
def CI (own : String) (ix na : Nat) (d : MD) : Prop := Cond.methodLink own ix d.1 ∈ WA ∧ Cond.instanceMethod d.1 ∈ WA ∧ Cond.initialized d.1.cls ∈ WA ∧ Cond.code d.1 d.2.1 d.2.2.1 d.2.2.2.1 ∈ WA ∧ d.1.name = "<init>" ∧ d.2.2.2.1 = none ∧ (d.1.cls ≠ "java/lang/invoke/MethodHandle" ∧ d.1.cls ≠ "java/lang/invoke/VarHandle" ∧ (parseMethodDescriptor d.1.desc).map (fun q => q.parameters.length) = some na)
theorem mws_ok (C : Ctx p s m args meth c R w own nm cc nL rt fr lo mc ms) {d : MD} (hc : Cond.code d.1 d.2.1 d.2.2.1 d.2.2.2.1 ∈ WA) : ∀ x ∈ mws d, ∀ (a9 : Array Value) (U : State), s.WarmedH U.vm → x.before a9 U = true := by
  intro x hx a9 U hW
  have h9 : x ∈ WA := by
    rcases List.mem_cons.mp hx with h | h
    · rw [h]; exact hc
    · exact h
  exact word_at hW (good_of_word (wa_good x h9)) (C.2.2.2.2.1 x h9)
/-- the room a callee needs, in the caller's -/
def RM (d : MD) (fr lo : Nat) : Prop := d.2.2.2.2.1 + 1 ≤ fr ∧ 8 + (d.2.2.1 + 11) + d.2.2.2.2.2 ≤ lo
theorem callB9 (C : Ctx p s m args meth c R w own nm cc nL rt fr lo mc ms) {ix na c1 s1 : Nat} {d : MD} (hR : RM d fr lo) (hcode : Cond.code d.1 d.2.1 d.2.2.1 d.2.2.2.1 ∈ WA) (hini : Cond.initialized d.1.cls ∈ WA) (hlink : Cond.methodLink own ix d.1 ∈ WA) (hd : d.1.cls ≠ "java/lang/invoke/MethodHandle" ∧ d.1.cls ≠ "java/lang/invoke/VarHandle" ∧ (parseMethodDescriptor d.1.desc).map (fun q => q.parameters.length) = some na) :
    CallB R s args own ix d.1 d.2.1 d.2.2.1 d.2.2.2.1 (mws d) (mrm d c1 s1) c1 s1 na := by
  have hts := C.2.2.2.2.1
  refine ⟨rfl, rfl, by rw [C.2.2.2.2.2.2.2.1.1]; exact hR.1, by rw [C.2.2.2.2.2.2.2.1.2.1]; exact hR.2, mws_ok C hcode, List.mem_cons_self, hts _ hcode, hts _ hini, ⟨hd.1, hd.2.1⟩, fun sig h => ?_, hts _ hlink⟩
  have h2 := hd.2.2
  rw [h] at h2
  exact (Option.some.inj h2).symm
theorem pre9 (C : Ctx p s m args meth c R w own nm cc nL rt fr lo mc ms) {H : Heap} {locs : List Loc} {av : List Value} (hP : PH w hs n H) (hS : va_S (wA w) s.heap H locs) : PreS s H (va_Pc av (WS w hs n)) av :=
  ⟨WS_blind w hs n av, fun U hU hW => ⟨rfl, by rw [hU]; exact hP, va_K.moved hW.alike C.2.2.2.2.2.2.2.2.1, OL.to C.2.2.2.2.2.2.2.2.2.1 hW hU hS⟩⟩
theorem run9 {H : Heap} {locs : List Loc} {c1 s1 : Nat} {ls : Array Slot} {st0 rest : List Value} {a : Array Value} {hs9 : Hs} {n9 : Option Nat} {v : Option Value} (hr : va_Run p l e R s m args below meth c H locs cells slots c1 s1 (F0 m pc ls st0) rest (Qn w hs9 n9 v a) (wA w)) (hS : va_S (wA w) s.heap H locs) (hl : lv_has ls nL lv)
    (K : ZW p l e R s m args below meth c w nL hs9 n9 (cells + c1) (slots + s1) Q (pc + 3) lv (v.toList ++ rest)) : W p l e R s m args below meth c H locs cells slots Q (F0 m pc ls st0) := by
  intro T hT X
  obtain ⟨v9, st9, t, T9, L, h0, X9, hL, e1, e2, ⟨hv, hP9, hz, hk⟩, step⟩ := hr T hT X
  cases hv
  rw [h0] at hz hk
  rw [← e1] at hP9
  obtain ⟨t2, a1, b1⟩ := K T9.heap (locs ++ L) ls hP9 ⟨Nat.le_trans hS.1 (by rw [e1]; exact hz), fun q h1 h2 => by rw [e1, hk q (Nat.lt_of_lt_of_le h1 hS.1) h2]; exact hS.2.1 q h1 h2, fun q hq => by
      rcases List.mem_append.mp hq with h | h
      · exact hS.2.2 q h
      · exact hL q h⟩ hl T9 rfl X9
  exact ⟨t2, step t2 a1, b1⟩
theorem z_callV1 (C : Ctx p s m args meth c R w own nm cc nL rt fr lo mc ms) {ix ci na c1 s1 i : Nat} {d : MD} {fs As rest : List Value} {hs9 : Hs} {n9 : Option Nat} {v : Value} (dd : decode cc pc = .ok (.invokevirtual ix, 3)) (g : CV own ix ci na d) (hC : Cn l w d c1 s1 (.ref (wB w + i) :: As) hs n hs9 n9 (some v)) (hh : hs i = some (.inr (ci, fs))) (hst : st = As.reverse ++ .ref (wB w + i) :: rest) (hn : As.length = na) (hcat : (rest.map fun v => v.category).sum ≤ 8) (hR : RM d fr lo) (hf : cells + c1 ≤ mc ∧ slots + s1 ≤ ms) (K : ZW p l e R s m args below meth c w nL hs9 n9 (cells + c1) (slots + s1) Q (pc + 3) lv (v :: rest)) : ZW p l e R s m args below meth c w nL hs n cells slots Q pc lv st := by
  intro H locs ls hP hS hl
  obtain ⟨w1, w2, w3, w4, w5, ⟨T, N, hc⟩, hd⟩ := g
  have hpre := pre9 C (av := .ref (wB w + i) :: As) hP hS
  have hrecv := va_recv (D := wG w) C.2.2.2.2.2.2.2.2.1 (P1 hP hh) (ci := ci) (q0 := 0) hc rfl
  exact run9 (va_runV (C := d.1.cls) ⟨C.1, C.2.1, C.2.2.1, C.2.2.2.1, C.2.2.2.2.1⟩ hC ⟨callB9 C hR w5 w4 w1 hd, C.2.2.2.2.1 _ w2, C.2.2.2.2.1 _ w3⟩ ⟨hpre.1, hrecv, hpre.2⟩ rfl hn hl.1 hst (lv_room hcat) dd ⟨by rw [C.2.2.2.2.2.2.2.1.2.2.1]; exact hf.1, by rw [C.2.2.2.2.2.2.2.1.2.2.2]; exact hf.2⟩) hS hl K
theorem z_callS1 (C : Ctx p s m args meth c R w own nm cc nL rt fr lo mc ms) {ix na c1 s1 : Nat} {d : MD} {As rest : List Value} {hs9 : Hs} {n9 : Option Nat} {v : Value} (dd : decode cc pc = .ok (.invokestatic ix, 3)) (g : CS own ix na d) (hC : Cn l w d c1 s1 As hs n hs9 n9 (some v)) (hst : st = As.reverse ++ rest) (hn : As.length = na) (hcat : (rest.map fun v => v.category).sum ≤ 8) (hR : RM d fr lo) (hf : cells + c1 ≤ mc ∧ slots + s1 ≤ ms) (K : ZW p l e R s m args below meth c w nL hs9 n9 (cells + c1) (slots + s1) Q (pc + 3) lv (v :: rest)) : ZW p l e R s m args below meth c w nL hs n cells slots Q pc lv st := by
  intro H locs ls hP hS hl
  obtain ⟨w1, w2, w4, w5, hd⟩ := g
  exact run9 (va_runS ⟨C.1, C.2.1, C.2.2.1, C.2.2.2.1, C.2.2.2.2.1⟩ hC ⟨callB9 C hR w5 w4 w1 hd, C.2.2.2.2.1 _ w2⟩ (pre9 C (av := As) hP hS) rfl hn hl.1 hst (lv_room hcat) dd ⟨by rw [C.2.2.2.2.2.2.2.1.2.2.1]; exact hf.1, by rw [C.2.2.2.2.2.2.2.1.2.2.2]; exact hf.2⟩) hS hl K
theorem z_callV0 (C : Ctx p s m args meth c R w own nm cc nL rt fr lo mc ms) {ix ci na c1 s1 i : Nat} {d : MD} {fs As rest : List Value} {hs9 : Hs} {n9 : Option Nat} (dd : decode cc pc = .ok (.invokevirtual ix, 3)) (g : CV own ix ci na d) (hC : Cn l w d c1 s1 (.ref (wB w + i) :: As) hs n hs9 n9 none) (hh : hs i = some (.inr (ci, fs))) (hst : st = As.reverse ++ .ref (wB w + i) :: rest) (hn : As.length = na) (hcat : (rest.map fun v => v.category).sum ≤ 8) (hR : RM d fr lo) (hf : cells + c1 ≤ mc ∧ slots + s1 ≤ ms) (K : ZW p l e R s m args below meth c w nL hs9 n9 (cells + c1) (slots + s1) Q (pc + 3) lv rest) : ZW p l e R s m args below meth c w nL hs n cells slots Q pc lv st := by
  intro H locs ls hP hS hl
  obtain ⟨w1, w2, w3, w4, w5, ⟨T, N, hc⟩, hd⟩ := g
  have hpre := pre9 C (av := .ref (wB w + i) :: As) hP hS
  have hrecv := va_recv (D := wG w) C.2.2.2.2.2.2.2.2.1 (P1 hP hh) (ci := ci) (q0 := 0) hc rfl
  exact run9 (va_runV (C := d.1.cls) ⟨C.1, C.2.1, C.2.2.1, C.2.2.2.1, C.2.2.2.2.1⟩ hC ⟨callB9 C hR w5 w4 w1 hd, C.2.2.2.2.1 _ w2, C.2.2.2.2.1 _ w3⟩ ⟨hpre.1, hrecv, hpre.2⟩ rfl hn hl.1 hst (lv_room hcat) dd ⟨by rw [C.2.2.2.2.2.2.2.1.2.2.1]; exact hf.1, by rw [C.2.2.2.2.2.2.2.1.2.2.2]; exact hf.2⟩) hS hl K
theorem z_callS0 (C : Ctx p s m args meth c R w own nm cc nL rt fr lo mc ms) {ix na c1 s1 : Nat} {d : MD} {As rest : List Value} {hs9 : Hs} {n9 : Option Nat} (dd : decode cc pc = .ok (.invokestatic ix, 3)) (g : CS own ix na d) (hC : Cn l w d c1 s1 As hs n hs9 n9 none) (hst : st = As.reverse ++ rest) (hn : As.length = na) (hcat : (rest.map fun v => v.category).sum ≤ 8) (hR : RM d fr lo) (hf : cells + c1 ≤ mc ∧ slots + s1 ≤ ms) (K : ZW p l e R s m args below meth c w nL hs9 n9 (cells + c1) (slots + s1) Q (pc + 3) lv rest) : ZW p l e R s m args below meth c w nL hs n cells slots Q pc lv st := by
  intro H locs ls hP hS hl
  obtain ⟨w1, w2, w4, w5, hd⟩ := g
  exact run9 (va_runS ⟨C.1, C.2.1, C.2.2.1, C.2.2.2.1, C.2.2.2.2.1⟩ hC ⟨callB9 C hR w5 w4 w1 hd, C.2.2.2.2.1 _ w2⟩ (pre9 C (av := As) hP hS) rfl hn hl.1 hst (lv_room hcat) dd ⟨by rw [C.2.2.2.2.2.2.2.1.2.2.1]; exact hf.1, by rw [C.2.2.2.2.2.2.2.1.2.2.2]; exact hf.2⟩) hS hl K
theorem z_callI (C : Ctx p s m args meth c R w own nm cc nL rt fr lo mc ms) {ix na c1 s1 i : Nat} {d : MD} {As rest : List Value} {hs9 : Hs} {n9 : Option Nat} (dd : decode cc pc = .ok (.invokespecial ix, 3)) (g : CI own ix na d) (hC : Cn l w d c1 s1 (.ref (wB w + i) :: As) hs n hs9 n9 none) (hst : st = As.reverse ++ .ref (wB w + i) :: rest) (hn : As.length = na) (hcat : (rest.map fun v => v.category).sum ≤ 8) (hR : RM d fr lo) (hf : cells + c1 ≤ mc ∧ slots + s1 ≤ ms) (K : ZW p l e R s m args below meth c w nL hs9 n9 (cells + c1) (slots + s1) Q (pc + 3) lv rest) : ZW p l e R s m args below meth c w nL hs n cells slots Q pc lv st := by
  intro H locs ls hP hS hl
  obtain ⟨w1, w2, w4, w5, hi9, hr9, hd⟩ := g
  have hB := callB9 (c1 := c1) (s1 := s1) C hR w5 w4 w1 hd
  rw [hr9] at hB
  exact run9 (va_runI ⟨C.1, C.2.1, C.2.2.1, C.2.2.2.1, C.2.2.2.2.1⟩ hC ⟨hB, hi9, C.2.2.2.2.1 _ w2⟩ (pre9 C (av := .ref (wB w + i) :: As) hP hS) rfl hn hl.1 hst (lv_room hcat) dd ⟨by rw [C.2.2.2.2.2.2.2.1.2.2.1]; exact hf.1, by rw [C.2.2.2.2.2.2.2.1.2.2.2]; exact hf.2⟩) hS hl K
theorem nle {n9 : Option Nat} (h : n9 = n ∨ n9 = none) {H : Heap} (hP : PH w hs n H) : PH w hs n9 H := by
  rcases h with h | h
  · rw [h]; exact hP
  · rw [h]; exact hP.any
theorem z_iret (C : Ctx p s m args meth c R w own nm cc nL rt fr lo mc ms) {x : Int32} {v : Value} {hs9 : Hs} {n9 : Option Nat} (d : decode cc pc = .ok (.ireturn, 1)) (hrt : rt = some .int) (hv : v = .int x) (hh : hs = hs9) (hn : n9 = n ∨ n9 = none) : ZW p l e R s m args below meth c w nL hs n cells slots (MQ below (Qn w hs9 n9 (some v)) args s cells slots (wA w)) pc lv [.int x] := by
  subst hv; subst hh
  exact fun H locs ls hP hS hl => W.iret C.1 C.2.1 (C.2.2.2.2.2.2.1.trans hrt) (fun t ht hW => ⟨rfl, by rw [ht]; exact nle hn hP, hS.F ht⟩) hS.2.2 d (hlocks := C.2.2.2.2.2.1)
theorem z_zret (C : Ctx p s m args meth c R w own nm cc nL rt fr lo mc ms) {x : Int32} {v : Value} {ty : FieldType} {hs9 : Hs} {n9 : Option Nat} (d : decode cc pc = .ok (.ireturn, 1)) (hrt : rt = some ty) (hx : narrow ty (.int x) = .int x) (hv : v = .int x) (hh : hs = hs9) (hn : n9 = n ∨ n9 = none) : ZW p l e R s m args below meth c w nL hs n cells slots (MQ below (Qn w hs9 n9 (some v)) args s cells slots (wA w)) pc lv [.int x] := by
  subst hv; subst hh
  exact fun H locs ls hP hS hl => W.zret C.1 C.2.1 (C.2.2.2.2.2.2.1.trans hrt) hx (fun t ht hW => ⟨rfl, by rw [ht]; exact nle hn hP, hS.F ht⟩) hS.2.2 d (hlocks := C.2.2.2.2.2.1)
theorem z_lret (C : Ctx p s m args meth c R w own nm cc nL rt fr lo mc ms) {x : Int64} {v : Value} {hs9 : Hs} {n9 : Option Nat} (d : decode cc pc = .ok (.lreturn, 1)) (hrt : rt = some .long) (hv : v = .long x) (hh : hs = hs9) (hn : n9 = n ∨ n9 = none) : ZW p l e R s m args below meth c w nL hs n cells slots (MQ below (Qn w hs9 n9 (some v)) args s cells slots (wA w)) pc lv [.long x] := by
  subst hv; subst hh
  exact fun H locs ls hP hS hl => W.lret C.1 C.2.1 (C.2.2.2.2.2.2.1.trans hrt) (fun t ht hW => ⟨rfl, by rw [ht]; exact nle hn hP, hS.F ht⟩) hS.2.2 d (hlocks := C.2.2.2.2.2.1)
theorem z_aret (C : Ctx p s m args meth c R w own nm cc nL rt fr lo mc ms) {x : Nat} {v : Value} {ty : FieldType} {hs9 : Hs} {n9 : Option Nat} (d : decode cc pc = .ok (.areturn, 1)) (hrt : rt = some ty) (hty : (∃ q, ty = .object q) ∨ ∃ t, ty = .array t) (hv : v = .ref x) (hh : hs = hs9) (hn : n9 = n ∨ n9 = none) : ZW p l e R s m args below meth c w nL hs n cells slots (MQ below (Qn w hs9 n9 (some v)) args s cells slots (wA w)) pc lv [.ref x] := by
  subst hv; subst hh
  exact fun H locs ls hP hS hl => W.aret C.1 C.2.1 (C.2.2.2.2.2.2.1.trans hrt) hty (Or.inr ⟨_, rfl⟩) (fun t ht hW => ⟨rfl, by rw [ht]; exact nle hn hP, hS.F ht⟩) hS.2.2 d (hlocks := C.2.2.2.2.2.1)
theorem z_vret (C : Ctx p s m args meth c R w own nm cc nL rt fr lo mc ms) {hs9 : Hs} {n9 : Option Nat} (d : decode cc pc = .ok (.return_, 1)) (hrt : rt = none) (hh : hs = hs9) (hn : n9 = n ∨ n9 = none) : ZW p l e R s m args below meth c w nL hs n cells slots (MQ below (Qn w hs9 n9 none) args s cells slots (wA w)) pc lv [] := by
  subst hh
  exact fun H locs ls hP hS hl => W.vret C.1 C.2.1 (C.2.2.2.2.2.2.1.trans hrt) (fun t ht hW => ⟨rfl, by rw [ht]; exact nle hn hP, hS.F ht⟩) hS.2.2 d (hlocks := C.2.2.2.2.2.1)
end ZK
theorem Cn.of {l : Launch} {w : Wt} {d : MD} {c1 s1 : Nat} {av : List Value} {hs hs9 : Hs} {n n9 : Option Nat} {v : Option Value} (hpl : plainName d.1.cls = true) (hav : (lg_sl av).length ≤ d.2.2.1)
    (body : ∀ (p : Program) (e : Env) (R : Room) (s : State) (m : MethodId) (args : Array Value) (below : List Frame) (meth : Method) (c : Code), Ctx p s m args meth c R w d.1.cls d.1.name d.2.1 d.2.2.1 d.2.2.2.1 d.2.2.2.2.1 d.2.2.2.2.2 c1 s1 →
      ZW p l e R s m args below meth c w d.2.2.1 hs n 0 0 (MQ below (Qn w hs9 n9 v) args s c1 s1 (wA w)) 0 (lv_args 0 av) []) : Cn l w d c1 s1 av hs n hs9 n9 v := by
  refine Met.ofW (cc := d.2.1) (maxL := d.2.2.1) (ret := d.2.2.2.1) hpl rfl ?_
  intro p e s m args below meth c s₁ B hml hv
  obtain ⟨rfl, hP, hK, hO⟩ := hv
  have hts : ∀ x ∈ WA, x.before av.toArray s = true := fun x hx => atoms_spec (ws := mws d) B.pre x (List.mem_cons_of_mem _ hx)
  have K := body p e (headSpec (mws d) (mrm d c1 s1)).room s m av.toArray below meth c ⟨B.exec, B.bytes, hml, findClass_of_methodNamed B.named, hts, B.notSynchronized, B.returns, ⟨rfl, rfl, rfl, rfl⟩, hK, hO, (name_of_methodNamed B.named B.method).1⟩
  rw [lg_entry_eq]
  exact K s.heap [] _ hP va_S.rf (lv_entry av hav)
