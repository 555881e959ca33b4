/-! the law: its rules, its wrappers each over a contract of the method that it calls -/
section
variable {p : Program} {l : Launch} {e : Env} {R : Room} {s : State} {m : MethodId} {args : Array Value} {below : List Frame} {meth : Method} {c : Code} {w : Wt} {own nm : String} {cc : ByteArray} {nL : Nat} {rt : Option FieldType} {fr lo mc ms : Nat} {hs : Hs} {n : Option Nat} {cells slots : Nat} {Q : State → Prop} {pc : Nat} {lv : List (Nat × Value)} {st : List Value}
theorem z_ldc (C : Ctx p s m args meth c R w own nm cc nL rt fr lo mc ms) {ix : Nat} {v : Int32} (d : decode cc pc = .ok (.ldc ix, 2)) (hw : Cond.constant own ix v ∈ WA) (K : ZW p l e R s m args below meth c w nL hs n cells slots Q (pc + 2) lv (.int v :: st)) : ZW p l e R s m args below meth c w nL hs n cells slots Q pc lv st := fun H locs ls hP hS hl => lv_ldc C.1 C.2.1 C.2.2.2.1 (C.2.2.2.2.1 _ hw) d (K H locs ls hP hS hl)
theorem z_ishr (C : Ctx p s m args meth c R w own nm cc nL rt fr lo mc ms) {x y v : Int32} (d : decode cc pc = .ok (.ishr, 1)) (hv : x >>> (y &&& 31) = v) (K : ZW p l e R s m args below meth c w nL hs n cells slots Q (pc + 1) lv (.int v :: st)) : ZW p l e R s m args below meth c w nL hs n cells slots Q pc lv (.int y :: .int x :: st) := by
  subst hv
  exact fun H locs ls hP hS hl => lv_ishr C.1 C.2.1 d (K H locs ls hP hS hl)
theorem z_topl {v : Int64} (K : ∀ y : Int64, y = v → ZW p l e R s m args below meth c w nL hs n cells slots Q pc lv (.long y :: st)) : ZW p l e R s m args below meth c w nL hs n cells slots Q pc lv (.long v :: st) := K v rfl
def CSw (own : String) (ix na : Nat) (d : MD) (hh : HT) : Prop := Cond.methodLink own ix d.1 ∈ WA ∧ Cond.static d.1 ∈ WA ∧ Cond.initialized d.1.cls ∈ WA ∧ Cond.codeWith d.1 d.2.1 d.2.2.1 d.2.2.2.1 hh ∈ WA ∧ (d.1.cls ≠ "java/lang/invoke/MethodHandle" ∧ d.1.cls ≠ "java/lang/invoke/VarHandle" ∧ (parseMethodDescriptor d.1.desc).map (fun q => q.parameters.length) = some na)
theorem z_callSw (C : Ctx p s m args meth c R w own nm cc nL rt fr lo mc ms) (hN : NX s) {ix na c1 s1 : Nat} {d : MD} {hh : HT} {As rest : List Value} {hs9 : Hs} {n9 : Option Nat} {v : Value} (dd : decode cc pc = .ok (.invokestatic ix, 3)) (g : CSw own ix na d hh) (hC : Cw l w d hh c1 s1 As hs n hs9 n9 (some v)) (hst : st = As.reverse ++ rest) (hn : As.length = na) (hcat : (rest.map fun v => v.category).sum ≤ 8) (hR : RM d fr lo) (hf : cells + c1 ≤ mc ∧ slots + s1 ≤ ms) (K : ZW p l e R s m args below meth c w nL hs9 n9 (cells + c1) (slots + s1) Q (pc + 3) lv (v :: rest)) : ZW p l e R s m args below meth c w nL hs n cells slots Q pc lv st := by
  intro H locs ls hP hS hl
  obtain ⟨w1, w2, w4, w5, hd⟩ := g
  have hts := C.2.2.2.2.1
  have hRm := C.2.2.2.2.2.2.2.1
  have hws : ∀ x ∈ mwsH d hh, ∀ (a9 : Array Value) (U : State), s.WarmedH U.vm → x.before a9 U = true := by
    intro x hx a9 U hW
    have h9 : x ∈ WA := by
      rcases List.mem_cons.mp hx with h | h
      · rw [h]; exact w5
      · exact h
    exact word_at hW (good_of_word (wa_good x h9)) (hts x h9)
  have cw : vx_CSW R s args own ix d.1 d.2.1 d.2.2.1 d.2.2.2.1 hh (mwsH d hh) (mrm d c1 s1) c1 s1 na := ⟨⟨rfl, rfl, by rw [hRm.1]; exact hR.1, by rw [hRm.2.1]; exact hR.2, hws, List.mem_cons_self⟩, hts _ w5, hts _ w4, ⟨hd.1, hd.2.1⟩, fun sig h => by
    have h2 := hd.2.2
    rw [h] at h2
    exact (Option.some.inj h2).symm, hts _ w1, hts _ w2⟩
  have hr := vx_runSX (hh := hh) (p := p) (l := l) (e := e) (below := below) (meth := meth) (locs := locs) (cells := cells) (slots := slots) (g := F0 m pc ls st) ⟨C.1, C.2.1, C.2.2.1, C.2.2.2.1, C.2.2.2.2.1⟩ hC cw (pre10 C hN (av := As) hP hS) rfl hn hl.1 hst (lv_room hcat) dd ⟨by rw [hRm.2.2.1]; exact hf.1, by rw [hRm.2.2.2]; exact hf.2⟩
  intro T hT X
  rcases hr T hT X with ⟨v9, st9, t, T9, L, h0, X9, hL, e1, e2, ⟨hv, hP9, hz, hk⟩, step⟩ | ⟨q, st₀, t, T', L, E', ce, h9, X', hL, e1, e2, hq, -⟩
  · cases hv
    rw [h0] at hz hk
    rw [← e1] at hP9
    obtain ⟨t2, a1, b1⟩ := K T9.heap (locs ++ L) ls hP9 ⟨Nat.le_trans hS.1 (by rw [e1]; exact hz), fun q h1 h2 => by rw [e1, hk q (Nat.lt_of_lt_of_le h1 hS.1) h2]; exact hS.2.1 q h1 h2, fun q hq => by
      rcases List.mem_append.mp hq with h | h
      · exact hS.2.2 q h
      · exact hL q h⟩ hl T9 rfl X9
    exact ⟨t2, step t2 a1, b1⟩
  · exact hq.elim
/-! a method of the law without a table: what it leaves and hands back, by a predicate -/
abbrev PQ : Type := Hs → Value → Prop
def QP (w : Wt) (P : PQ) : Array Value → State → Outcome → State → Prop := fun a st o t => ∃ hs9 v, P hs9 v ∧ Qn w hs9 none (some v) a st o t
def Cp (l : Launch) (w : Wt) (d : MD) (c1 s1 : Nat) (av : List Value) (hs : Hs) (P : PQ) : Prop := vx_Met l d.1 (mws d) (mrm d c1 s1) (va_Pc av (WS2 w hs none)) (QP w P) noX c1 s1 (wA w)
theorem Cp.of {d : MD} {c1 s1 : Nat} {av : List Value} {P : PQ} (hpl : plainName d.1.cls = true) (hav : (lg_sl av).length ≤ d.2.2.1)
    (body : ∀ (p : Program) (e : Env) (R : Room) (s : State) (m : MethodId) (args : Array Value) (below : List Frame) (meth : Method) (c : Code), Ctx p s m args meth c R w d.1.cls d.1.name d.2.1 d.2.2.1 d.2.2.2.1 d.2.2.2.2.1 d.2.2.2.2.2 c1 s1 → NX s →
      ZW p l e R s m args below meth c w d.2.2.1 hs none 0 0 (MQ below (QP w P) args s c1 s1 (wA w)) 0 (lv_args 0 av) []) : Cp l w d c1 s1 av hs P := by
  refine vx_ofW (cc := d.2.1) (maxL := d.2.2.1) (ret := d.2.2.2.1) hpl rfl ?_
  intro p e s m args below meth c s₁ B hml htb hv
  obtain ⟨rfl, ⟨hP, hK, hO⟩, hN⟩ := hv
  have hts : ∀ x ∈ WA, x.before av.toArray s = true := fun x hx => atoms_spec (ws := mws d) B.pre x (List.mem_cons_of_mem _ hx)
  have K := body p e (headSpec (mws d) (mrm d c1 s1)).room s m av.toArray below meth c ⟨B.exec, B.bytes, hml, findClass_of_methodNamed B.named, hts, B.notSynchronized, B.returns, ⟨rfl, rfl, rfl, rfl⟩, hK, hO, (name_of_methodNamed B.named B.method).1⟩ hN
  rw [lg_entry_eq]
  exact vx_ret (K s.heap [] _ hP va_S.rf (lv_entry av hav))
theorem z_callSp (C : Ctx p s m args meth c R w own nm cc nL rt fr lo mc ms) (hN : NX s) {ix na c1 s1 : Nat} {d : MD} {As rest : List Value} {P : PQ} (dd : decode cc pc = .ok (.invokestatic ix, 3)) (g : CS own ix na d) (hC : Cp l w d c1 s1 As hs P) (hst : st = As.reverse ++ rest) (hn : As.length = na) (hcat : (rest.map fun v => v.category).sum ≤ 8) (hR : RM d fr lo) (hf : cells + c1 ≤ mc ∧ slots + s1 ≤ ms) (K : ∀ hs9 v, P hs9 v → ZW p l e R s m args below meth c w nL hs9 none (cells + c1) (slots + s1) Q (pc + 3) lv (v :: rest)) : ZW p l e R s m args below meth c w nL hs n cells slots Q pc lv st := by
  intro H locs ls hP hS hl
  obtain ⟨w1, w2, w4, w5, hd⟩ := g
  have hr := vx_runS (p := p) (l := l) (e := e) (below := below) (meth := meth) (locs := locs) (cells := cells) (slots := slots) (g := F0 m pc ls st) ⟨C.1, C.2.1, C.2.2.1, C.2.2.2.1, C.2.2.2.2.1⟩ hC ⟨callB9 C hR w5 w4 w1 hd, C.2.2.2.2.1 _ w2⟩ (pre10 (n := none) C hN (av := As) hP.any hS) rfl hn hl.1 hst (lv_room hcat) dd ⟨by rw [C.2.2.2.2.2.2.2.1.2.2.1]; exact hf.1, by rw [C.2.2.2.2.2.2.2.1.2.2.2]; exact hf.2⟩
  intro T hT X
  rcases hr T hT X with ⟨v9, st9, t, T9, L, h0, X9, hL, e1, e2, ⟨hs9, v, hPQ, hv, hP9, hz, hk⟩, step⟩ | ⟨q, st₀, t, T', L, E', ce, h9, X', hL, e1, e2, hq, -⟩
  · cases hv
    rw [h0] at hz hk
    rw [← e1] at hP9
    obtain ⟨t2, a1, b1⟩ := K hs9 v hPQ T9.heap (locs ++ L) ls hP9 ⟨Nat.le_trans hS.1 (by rw [e1]; exact hz), fun q h1 h2 => by rw [e1, hk q (Nat.lt_of_lt_of_le h1 hS.1) h2]; exact hS.2.1 q h1 h2, fun q hq => by
      rcases List.mem_append.mp hq with h | h
      · exact hS.2.2 q h
      · exact hL q h⟩ hl T9 rfl X9
    exact ⟨t2, step t2 a1, b1⟩
  · exact hq.elim
theorem z_lretP (C : Ctx p s m args meth c R w own nm cc nL rt fr lo mc ms) {x : Int64} {P : PQ} (d : decode cc pc = .ok (.lreturn, 1)) (hrt : rt = some .long) (hP9 : P hs (.long x)) (hc : cells ≤ mc) (hs9 : slots ≤ ms) : ZW p l e R s m args below meth c w nL hs n cells slots (MQ below (QP w P) args s mc ms (wA w)) pc lv [.long x] := by
  refine z_widen hc hs9 ?_
  exact fun H locs ls hP hS hl => W.lret C.1 C.2.1 (C.2.2.2.2.2.2.1.trans hrt) (fun t ht hW => ⟨hs, .long x, hP9, rfl, by rw [ht]; exact hP.any, hS.F ht⟩) hS.2.2 d (hlocks := C.2.2.2.2.2.1)
theorem z_zretP (C : Ctx p s m args meth c R w own nm cc nL rt fr lo mc ms) {x : Int32} {ty : FieldType} {P : PQ} (d : decode cc pc = .ok (.ireturn, 1)) (hrt : rt = some ty) (hx : narrow ty (.int x) = .int x) (hP9 : P hs (.int x)) (hc : cells ≤ mc) (hs9 : slots ≤ ms) : ZW p l e R s m args below meth c w nL hs n cells slots (MQ below (QP w P) args s mc ms (wA w)) pc lv [.int x] := by
  refine z_widen hc hs9 ?_
  exact fun H locs ls hP hS hl => W.zret C.1 C.2.1 (C.2.2.2.2.2.2.1.trans hrt) hx (fun t ht hW => ⟨hs, .int x, hP9, rfl, by rw [ht]; exact hP.any, hS.F ht⟩) hS.2.2 d (hlocks := C.2.2.2.2.2.1)
end
theorem csw_126 : CSw RL 126 5 mL_gutter [(0, 10, 11, 34), (0, 10, 17, 15), (0, 10, 23, 19)] := ⟨wa_mem 627 (by decide +kernel) rfl, wa_mem 628 (by decide +kernel) rfl, wa_mem 0 (by decide +kernel) rfl, wa_mem 629 (by decide +kernel) rfl, ⟨by decide +kernel, by decide +kernel, by decide +kernel⟩⟩
theorem csw_129 : CSw RL 129 4 mL_boat [(0, 8, 9, 34), (0, 8, 15, 15), (0, 8, 21, 19)] := ⟨wa_mem 642 (by decide +kernel) rfl, wa_mem 643 (by decide +kernel) rfl, wa_mem 0 (by decide +kernel) rfl, wa_mem 644 (by decide +kernel) rfl, ⟨by decide +kernel, by decide +kernel, by decide +kernel⟩⟩
theorem csw_131 : CSw RL 131 3 mL_launch [(0, 7, 8, 34), (0, 7, 13, 19)] := ⟨wa_mem 651 (by decide +kernel) rfl, wa_mem 652 (by decide +kernel) rfl, wa_mem 0 (by decide +kernel) rfl, wa_mem 653 (by decide +kernel) rfl, ⟨by decide +kernel, by decide +kernel, by decide +kernel⟩⟩
theorem csw_133 : CSw RL 133 4 mL_hook [(0, 8, 9, 34)] := ⟨wa_mem 660 (by decide +kernel) rfl, wa_mem 661 (by decide +kernel) rfl, wa_mem 0 (by decide +kernel) rfl, wa_mem 662 (by decide +kernel) rfl, ⟨by decide +kernel, by decide +kernel, by decide +kernel⟩⟩
theorem csw_135 : CSw RL 135 3 mL_claim [(0, 7, 8, 34)] := ⟨wa_mem 670 (by decide +kernel) rfl, wa_mem 671 (by decide +kernel) rfl, wa_mem 0 (by decide +kernel) rfl, wa_mem 672 (by decide +kernel) rfl, ⟨by decide +kernel, by decide +kernel, by decide +kernel⟩⟩
theorem csw_139 : CSw RL 139 3 mL_set [(0, 7, 8, 15)] := ⟨wa_mem 689 (by decide +kernel) rfl, wa_mem 690 (by decide +kernel) rfl, wa_mem 0 (by decide +kernel) rfl, wa_mem 691 (by decide +kernel) rfl, ⟨by decide +kernel, by decide +kernel, by decide +kernel⟩⟩
theorem csw_174 : CSw RL 174 1 mL_undo [(0, 5, 6, 19)] := ⟨wa_mem 784 (by decide +kernel) rfl, wa_mem 785 (by decide +kernel) rfl, wa_mem 0 (by decide +kernel) rfl, wa_mem 786 (by decide +kernel) rfl, ⟨by decide +kernel, by decide +kernel, by decide +kernel⟩⟩
theorem csw_156 : CSw RL 156 2 mL_save [(0, 6, 7, 34)] := ⟨wa_mem 488 (by decide +kernel) rfl, wa_mem 489 (by decide +kernel) rfl, wa_mem 0 (by decide +kernel) rfl, wa_mem 490 (by decide +kernel) rfl, ⟨by decide +kernel, by decide +kernel, by decide +kernel⟩⟩
theorem csw_158 : CSw RL 158 2 mL_restore [(0, 6, 7, 34), (0, 6, 12, 19)] := ⟨wa_mem 519 (by decide +kernel) rfl, wa_mem 520 (by decide +kernel) rfl, wa_mem 0 (by decide +kernel) rfl, wa_mem 521 (by decide +kernel) rfl, ⟨by decide +kernel, by decide +kernel, by decide +kernel⟩⟩
theorem csw_137 : CSw RL 137 2 mL_minutes [(0, 6, 7, 15)] := ⟨wa_mem 680 (by decide +kernel) rfl, wa_mem 681 (by decide +kernel) rfl, wa_mem 0 (by decide +kernel) rfl, wa_mem 682 (by decide +kernel) rfl, ⟨by decide +kernel, by decide +kernel, by decide +kernel⟩⟩
theorem csw_145 : CSw RL 145 3 mL_leastFolds [(0, 7, 8, 34), (0, 7, 13, 15)] := ⟨wa_mem 717 (by decide +kernel) rfl, wa_mem 718 (by decide +kernel) rfl, wa_mem 0 (by decide +kernel) rfl, wa_mem 719 (by decide +kernel) rfl, ⟨by decide +kernel, by decide +kernel, by decide +kernel⟩⟩
theorem csw_153 : CSw RL 153 3 mL_simulate [(0, 7, 8, 15)] := ⟨wa_mem 741 (by decide +kernel) rfl, wa_mem 742 (by decide +kernel) rfl, wa_mem 0 (by decide +kernel) rfl, wa_mem 743 (by decide +kernel) rfl, ⟨by decide +kernel, by decide +kernel, by decide +kernel⟩⟩
theorem csw_147 : CSw RL 147 3 mL_script [(0, 7, 8, 15)] := ⟨wa_mem 724 (by decide +kernel) rfl, wa_mem 725 (by decide +kernel) rfl, wa_mem 0 (by decide +kernel) rfl, wa_mem 726 (by decide +kernel) rfl, ⟨by decide +kernel, by decide +kernel, by decide +kernel⟩⟩
theorem csw_103 : CSw RL 103 2 mL_about [(0, 6, 7, 15)] := ⟨wa_mem 542 (by decide +kernel) rfl, wa_mem 543 (by decide +kernel) rfl, wa_mem 0 (by decide +kernel) rfl, wa_mem 544 (by decide +kernel) rfl, ⟨by decide +kernel, by decide +kernel, by decide +kernel⟩⟩
theorem csw_112 : CSw RL 112 3 mL_gutterOf [(0, 7, 8, 34), (0, 7, 13, 15)] := ⟨wa_mem 568 (by decide +kernel) rfl, wa_mem 569 (by decide +kernel) rfl, wa_mem 0 (by decide +kernel) rfl, wa_mem 570 (by decide +kernel) rfl, ⟨by decide +kernel, by decide +kernel, by decide +kernel⟩⟩
theorem csw_115 : CSw RL 115 3 mL_boatOf [(0, 7, 8, 34), (0, 7, 13, 15)] := ⟨wa_mem 588 (by decide +kernel) rfl, wa_mem 589 (by decide +kernel) rfl, wa_mem 0 (by decide +kernel) rfl, wa_mem 590 (by decide +kernel) rfl, ⟨by decide +kernel, by decide +kernel, by decide +kernel⟩⟩
theorem csw_117 : CSw RL 117 3 mL_ownerOf [(0, 7, 8, 34), (0, 7, 13, 15)] := ⟨wa_mem 598 (by decide +kernel) rfl, wa_mem 599 (by decide +kernel) rfl, wa_mem 0 (by decide +kernel) rfl, wa_mem 600 (by decide +kernel) rfl, ⟨by decide +kernel, by decide +kernel, by decide +kernel⟩⟩
theorem csw_123 : CSw RL 123 4 mL_way [(0, 8, 9, 34), (0, 8, 15, 15)] := ⟨wa_mem 614 (by decide +kernel) rfl, wa_mem 615 (by decide +kernel) rfl, wa_mem 0 (by decide +kernel) rfl, wa_mem 616 (by decide +kernel) rfl, ⟨by decide +kernel, by decide +kernel, by decide +kernel⟩⟩
theorem csw_110 : CSw RL 110 2 mL_setting [(0, 6, 7, 15)] := ⟨wa_mem 560 (by decide +kernel) rfl, wa_mem 561 (by decide +kernel) rfl, wa_mem 0 (by decide +kernel) rfl, wa_mem 562 (by decide +kernel) rfl, ⟨by decide +kernel, by decide +kernel, by decide +kernel⟩⟩
theorem csw_141 : CSw RL 141 3 mL_why [(0, 7, 8, 34)] := ⟨wa_mem 698 (by decide +kernel) rfl, wa_mem 699 (by decide +kernel) rfl, wa_mem 0 (by decide +kernel) rfl, wa_mem 700 (by decide +kernel) rfl, ⟨by decide +kernel, by decide +kernel, by decide +kernel⟩⟩
theorem csw_143 : CSw RL 143 3 mL_endsIn [(0, 7, 8, 34), (0, 7, 13, 15), (0, 7, 18, 19)] := ⟨wa_mem 705 (by decide +kernel) rfl, wa_mem 706 (by decide +kernel) rfl, wa_mem 0 (by decide +kernel) rfl, wa_mem 707 (by decide +kernel) rfl, ⟨by decide +kernel, by decide +kernel, by decide +kernel⟩⟩
theorem csw_160 : CSw RL 160 2 mL_append [(0, 6, 7, 15), (0, 6, 12, 19)] := ⟨wa_mem 756 (by decide +kernel) rfl, wa_mem 757 (by decide +kernel) rfl, wa_mem 0 (by decide +kernel) rfl, wa_mem 758 (by decide +kernel) rfl, ⟨by decide +kernel, by decide +kernel, by decide +kernel⟩⟩
theorem csw_215 : CSw RL 215 1 mL_load [(0, 5, 6, 19)] := ⟨wa_mem 179 (by decide +kernel) rfl, wa_mem 180 (by decide +kernel) rfl, wa_mem 0 (by decide +kernel) rfl, wa_mem 181 (by decide +kernel) rfl, ⟨by decide +kernel, by decide +kernel, by decide +kernel⟩⟩
set_option maxHeartbeats 4000000 in
set_option maxRecDepth 100000 in
theorem w0_about {l : Launch} {w : Wt} {hs hs9 : Hs} {n n9 : Option Nat} {k : Nat} {a : Int32} {v : Int32} {fs : List Value} (hx : hs k = some (.inr (5, fs))) (hC : Cn l w mX5_about 0 0 [.ref (wB w + k), .int a] hs n hs9 n9 (some (.int v))) : Cw l w mL_about [(0, 6, 7, 15)] 0 0 [.ref (wB w + k), .int a] hs n hs9 n9 (some (.long v.toInt64)) := by
  refine Cw.of (d := mL_about) (hh := [(0, 6, 7, 15)]) (by decide +kernel) (Nat.le_of_ble_eq_true rfl) ?_
  intro p e R s m args below meth c CX htb hN
  replace CX : Ctx p s m args meth c R w RL "about" cL_about 3 (some .long) 8 133 0 0 := CX
  show ZW p l e R s m args below meth c w 3 _ _ 0 0 (MQ below (Qn w _ _ _) args s 0 0 (wA w)) 0 [(0, .ref (wB w + k)), (1, .int _)] []
  refine z_aload_n CX 0 dL_about_0 rfl rfl ?_
  refine z_iload_n CX 1 dL_about_1 rfl rfl ?_
  refine z_callV1 CX dL_about_2 cv_L_27 hC hx rfl rfl (Nat.le_of_ble_eq_true rfl) ⟨Nat.le_of_ble_eq_true rfl, Nat.le_of_ble_eq_true rfl⟩ ⟨Nat.le_refl _, Nat.le_refl _⟩ ?_
  refine z_i2l CX dL_about_5 rfl ?_
  exact z_lret CX dL_about_6 rfl rfl rfl (Or.inl rfl)
set_option maxHeartbeats 4000000 in
set_option maxRecDepth 100000 in
theorem wx_about2 {l : Launch} {w : Wt} {hs hs9 : Hs} {n : Option Nat} {k : Nat} {a : Int32} {fs : List Value} (hx : hs k = some (.inr (5, fs))) (hC : Cx l w mX5_about 1 6 [.ref (wB w + k), .int a] hs n hs9 (exN 2)) : Cw l w mL_about [(0, 6, 7, 15)] 1 6 [.ref (wB w + k), .int a] hs n hs9 none (some (.long (-9000000000000000002))) := by
  refine Cw.of (d := mL_about) (hh := [(0, 6, 7, 15)]) (by decide +kernel) (Nat.le_of_ble_eq_true rfl) ?_
  intro p e R s m args below meth c CX htb hN
  replace CX : Ctx p s m args meth c R w RL "about" cL_about 3 (some .long) 8 133 1 6 := CX
  show ZW p l e R s m args below meth c w 3 _ _ 0 0 (MQ below (Qn w _ _ _) args s 1 6 (wA w)) 0 [(0, .ref (wB w + k)), (1, .int _)] []
  refine z_aload_n CX 0 dL_about_0 rfl rfl ?_
  refine z_iload_n CX 1 dL_about_1 rfl rfl ?_
  refine z_callVc CX htb hN (j := 2) [] [] ⟨0, 6, 7, 15⟩ rfl (by decide) (by decide) ⟨by omega, by omega⟩ (fun _ h => absurd h List.not_mem_nil) (wa_mem 545 (by decide +kernel) rfl) dL_about_2 cv_L_27 hC hx rfl rfl (Nat.le_of_ble_eq_true rfl) ⟨Nat.le_of_ble_eq_true rfl, Nat.le_of_ble_eq_true rfl⟩ ⟨Nat.le_of_ble_eq_true rfl, Nat.le_of_ble_eq_true rfl⟩ (fun q9 => ?_)
  refine z_astore_n CX 2 dL_about_7 rfl (by decide) ?_
  refine z_ldc2 CX (v := -9000000000000000002) dL_about_8 (wa_mem 558 (by decide +kernel) rfl) ?_
  exact z_lret CX dL_about_11 rfl rfl rfl (Or.inl rfl)
set_option maxHeartbeats 4000000 in
set_option maxRecDepth 100000 in
theorem w0_append {l : Launch} {w : Wt} {hs hs9 : Hs} {n n9 : Option Nat} {k : Nat} {a : Int32} {v : Int32} {fs : List Value} (hx : hs k = some (.inr (5, fs))) (hC : Cn l w mX5_append 0 0 [.ref (wB w + k), .int a] hs n hs9 n9 (some (.int v))) : Cw l w mL_append [(0, 6, 7, 15), (0, 6, 12, 19)] 1 6 [.ref (wB w + k), .int a] hs n hs9 n9 (some (.long v.toInt64)) := by
  refine Cw.of (d := mL_append) (hh := [(0, 6, 7, 15), (0, 6, 12, 19)]) (by decide +kernel) (Nat.le_of_ble_eq_true rfl) ?_
  intro p e R s m args below meth c CX htb hN
  replace CX : Ctx p s m args meth c R w RL "append" cL_append 3 (some .long) 8 133 1 6 := CX
  show ZW p l e R s m args below meth c w 3 _ _ 0 0 (MQ below (Qn w _ _ _) args s 1 6 (wA w)) 0 [(0, .ref (wB w + k)), (1, .int _)] []
  refine z_aload_n CX 0 dL_append_0 rfl rfl ?_
  refine z_iload_n CX 1 dL_append_1 rfl rfl ?_
  refine z_callV1 CX dL_append_2 cv_L_9 hC hx rfl rfl (Nat.le_of_ble_eq_true rfl) ⟨Nat.le_of_ble_eq_true rfl, Nat.le_of_ble_eq_true rfl⟩ ⟨Nat.zero_le _, Nat.zero_le _⟩ ?_
  refine z_i2l CX dL_append_5 rfl ?_
  refine z_widen (k9 := 1) (n9 := 6) (by omega) (by omega) ?_
  exact z_lret CX dL_append_6 rfl rfl rfl (Or.inl rfl)
set_option maxHeartbeats 4000000 in
set_option maxRecDepth 100000 in
theorem wx_append2 {l : Launch} {w : Wt} {hs hs9 : Hs} {n : Option Nat} {k : Nat} {a : Int32} {fs : List Value} (hx : hs k = some (.inr (5, fs))) (hC : Cx l w mX5_append 1 6 [.ref (wB w + k), .int a] hs n hs9 (exN 2)) : Cw l w mL_append [(0, 6, 7, 15), (0, 6, 12, 19)] 1 6 [.ref (wB w + k), .int a] hs n hs9 none (some (.long (-9000000000000000002))) := by
  refine Cw.of (d := mL_append) (hh := [(0, 6, 7, 15), (0, 6, 12, 19)]) (by decide +kernel) (Nat.le_of_ble_eq_true rfl) ?_
  intro p e R s m args below meth c CX htb hN
  replace CX : Ctx p s m args meth c R w RL "append" cL_append 3 (some .long) 8 133 1 6 := CX
  show ZW p l e R s m args below meth c w 3 _ _ 0 0 (MQ below (Qn w _ _ _) args s 1 6 (wA w)) 0 [(0, .ref (wB w + k)), (1, .int _)] []
  refine z_aload_n CX 0 dL_append_0 rfl rfl ?_
  refine z_iload_n CX 1 dL_append_1 rfl rfl ?_
  refine z_callVc CX htb hN (j := 2) [] [(⟨0, 6, 12, 19⟩ : ExceptionTableEntry)] ⟨0, 6, 7, 15⟩ rfl (by decide) (by decide) ⟨by omega, by omega⟩ (fun _ h => absurd h List.not_mem_nil) (wa_mem 545 (by decide +kernel) rfl) dL_append_2 cv_L_9 hC hx rfl rfl (Nat.le_of_ble_eq_true rfl) ⟨Nat.le_of_ble_eq_true rfl, Nat.le_of_ble_eq_true rfl⟩ ⟨Nat.le_of_ble_eq_true rfl, Nat.le_of_ble_eq_true rfl⟩ (fun q9 => ?_)
  refine z_astore_n CX 2 dL_append_7 rfl (by decide) ?_
  refine z_ldc2 CX (v := -9000000000000000002) dL_append_8 (wa_mem 558 (by decide +kernel) rfl) ?_
  exact z_lret CX dL_append_11 rfl rfl rfl (Or.inl rfl)
set_option maxHeartbeats 4000000 in
set_option maxRecDepth 100000 in
theorem wx_append3 {l : Launch} {w : Wt} {hs hs9 : Hs} {n : Option Nat} {k : Nat} {a : Int32} {fs : List Value} (hx : hs k = some (.inr (5, fs))) (hC : Cx l w mX5_append 1 6 [.ref (wB w + k), .int a] hs n hs9 (exN 3)) : Cw l w mL_append [(0, 6, 7, 15), (0, 6, 12, 19)] 1 6 [.ref (wB w + k), .int a] hs n hs9 none (some (.long (-9000000000000000003))) := by
  refine Cw.of (d := mL_append) (hh := [(0, 6, 7, 15), (0, 6, 12, 19)]) (by decide +kernel) (Nat.le_of_ble_eq_true rfl) ?_
  intro p e R s m args below meth c CX htb hN
  replace CX : Ctx p s m args meth c R w RL "append" cL_append 3 (some .long) 8 133 1 6 := CX
  show ZW p l e R s m args below meth c w 3 _ _ 0 0 (MQ below (Qn w _ _ _) args s 1 6 (wA w)) 0 [(0, .ref (wB w + k)), (1, .int _)] []
  refine z_aload_n CX 0 dL_append_0 rfl rfl ?_
  refine z_iload_n CX 1 dL_append_1 rfl rfl ?_
  refine z_callVc CX htb hN (j := 3) [(⟨0, 6, 7, 15⟩ : ExceptionTableEntry)] [] ⟨0, 6, 12, 19⟩ rfl (by decide) (by decide) ⟨by omega, by omega⟩ (List.forall_mem_cons.mpr ⟨⟨by decide, 2, ⟨by omega, by omega⟩, by omega, wa_mem 545 (by decide +kernel) rfl⟩, (fun _ h => absurd h List.not_mem_nil)⟩) (wa_mem 182 (by decide +kernel) rfl) dL_append_2 cv_L_9 hC hx rfl rfl (Nat.le_of_ble_eq_true rfl) ⟨Nat.le_of_ble_eq_true rfl, Nat.le_of_ble_eq_true rfl⟩ ⟨Nat.le_of_ble_eq_true rfl, Nat.le_of_ble_eq_true rfl⟩ (fun q9 => ?_)
  refine z_astore_n CX 2 dL_append_12 rfl (by decide) ?_
  refine z_ldc2 CX (v := -9000000000000000003) dL_append_13 (wa_mem 487 (by decide +kernel) rfl) ?_
  exact z_lret CX dL_append_16 rfl rfl rfl (Or.inl rfl)
set_option maxHeartbeats 4000000 in
set_option maxRecDepth 100000 in
theorem w0_boat {l : Launch} {w : Wt} {hs hs9 : Hs} {n n9 : Option Nat} {k : Nat} {a : Int32} {b : Int32} {c : Int32} {v : Int32} {fs : List Value} (hx : hs k = some (.inr (5, fs))) (hC : Cn l w mX5_boat 0 0 [.ref (wB w + k), .int a, .int b, .int c] hs n hs9 n9 (some (.int v))) : Cw l w mL_boat [(0, 8, 9, 34), (0, 8, 15, 15), (0, 8, 21, 19)] 1 6 [.ref (wB w + k), .int a, .int b, .int c] hs n hs9 n9 (some (.long v.toInt64)) := by
  refine Cw.of (d := mL_boat) (hh := [(0, 8, 9, 34), (0, 8, 15, 15), (0, 8, 21, 19)]) (by decide +kernel) (Nat.le_of_ble_eq_true rfl) ?_
  intro p e R s m args below meth c CX htb hN
  replace CX : Ctx p s m args meth c R w RL "boat" cL_boat 5 (some .long) 8 153 1 6 := CX
  show ZW p l e R s m args below meth c w 5 _ _ 0 0 (MQ below (Qn w _ _ _) args s 1 6 (wA w)) 0 [(0, .ref (wB w + k)), (1, .int _), (2, .int _), (3, .int _)] []
  refine z_aload_n CX 0 dL_boat_0 rfl rfl ?_
  refine z_iload_n CX 1 dL_boat_1 rfl rfl ?_
  refine z_iload_n CX 2 dL_boat_2 rfl rfl ?_
  refine z_iload_n CX 3 dL_boat_3 rfl rfl ?_
  refine z_callV1 CX dL_boat_4 cv_L_55 hC hx rfl rfl (Nat.le_of_ble_eq_true rfl) ⟨Nat.le_of_ble_eq_true rfl, Nat.le_of_ble_eq_true rfl⟩ ⟨Nat.zero_le _, Nat.zero_le _⟩ ?_
  refine z_i2l CX dL_boat_7 rfl ?_
  refine z_widen (k9 := 1) (n9 := 6) (by omega) (by omega) ?_
  exact z_lret CX dL_boat_8 rfl rfl rfl (Or.inl rfl)
set_option maxHeartbeats 4000000 in
set_option maxRecDepth 100000 in
theorem wx_boat1 {l : Launch} {w : Wt} {hs hs9 : Hs} {n : Option Nat} {k : Nat} {a : Int32} {b : Int32} {c : Int32} {fs : List Value} (hx : hs k = some (.inr (5, fs))) (hC : Cx l w mX5_boat 1 6 [.ref (wB w + k), .int a, .int b, .int c] hs n hs9 (exN 1)) : Cw l w mL_boat [(0, 8, 9, 34), (0, 8, 15, 15), (0, 8, 21, 19)] 1 6 [.ref (wB w + k), .int a, .int b, .int c] hs n hs9 none (some (.long (-9000000000000000001))) := by
  refine Cw.of (d := mL_boat) (hh := [(0, 8, 9, 34), (0, 8, 15, 15), (0, 8, 21, 19)]) (by decide +kernel) (Nat.le_of_ble_eq_true rfl) ?_
  intro p e R s m args below meth c CX htb hN
  replace CX : Ctx p s m args meth c R w RL "boat" cL_boat 5 (some .long) 8 153 1 6 := CX
  show ZW p l e R s m args below meth c w 5 _ _ 0 0 (MQ below (Qn w _ _ _) args s 1 6 (wA w)) 0 [(0, .ref (wB w + k)), (1, .int _), (2, .int _), (3, .int _)] []
  refine z_aload_n CX 0 dL_boat_0 rfl rfl ?_
  refine z_iload_n CX 1 dL_boat_1 rfl rfl ?_
  refine z_iload_n CX 2 dL_boat_2 rfl rfl ?_
  refine z_iload_n CX 3 dL_boat_3 rfl rfl ?_
  refine z_callVc CX htb hN (j := 1) [] [(⟨0, 8, 15, 15⟩ : ExceptionTableEntry), (⟨0, 8, 21, 19⟩ : ExceptionTableEntry)] ⟨0, 8, 9, 34⟩ rfl (by decide) (by decide) ⟨by omega, by omega⟩ (fun _ h => absurd h List.not_mem_nil) (wa_mem 491 (by decide +kernel) rfl) dL_boat_4 cv_L_55 hC hx rfl rfl (Nat.le_of_ble_eq_true rfl) ⟨Nat.le_of_ble_eq_true rfl, Nat.le_of_ble_eq_true rfl⟩ ⟨Nat.le_of_ble_eq_true rfl, Nat.le_of_ble_eq_true rfl⟩ (fun q9 => ?_)
  refine z_astore CX dL_boat_9 (by decide) ?_
  refine z_ldc2 CX (v := -9000000000000000001) dL_boat_11 (wa_mem 518 (by decide +kernel) rfl) ?_
  exact z_lret CX dL_boat_14 rfl rfl rfl (Or.inl rfl)
set_option maxHeartbeats 4000000 in
set_option maxRecDepth 100000 in
theorem wx_boat2 {l : Launch} {w : Wt} {hs hs9 : Hs} {n : Option Nat} {k : Nat} {a : Int32} {b : Int32} {c : Int32} {fs : List Value} (hx : hs k = some (.inr (5, fs))) (hC : Cx l w mX5_boat 1 6 [.ref (wB w + k), .int a, .int b, .int c] hs n hs9 (exN 2)) : Cw l w mL_boat [(0, 8, 9, 34), (0, 8, 15, 15), (0, 8, 21, 19)] 1 6 [.ref (wB w + k), .int a, .int b, .int c] hs n hs9 none (some (.long (-9000000000000000002))) := by
  refine Cw.of (d := mL_boat) (hh := [(0, 8, 9, 34), (0, 8, 15, 15), (0, 8, 21, 19)]) (by decide +kernel) (Nat.le_of_ble_eq_true rfl) ?_
  intro p e R s m args below meth c CX htb hN
  replace CX : Ctx p s m args meth c R w RL "boat" cL_boat 5 (some .long) 8 153 1 6 := CX
  show ZW p l e R s m args below meth c w 5 _ _ 0 0 (MQ below (Qn w _ _ _) args s 1 6 (wA w)) 0 [(0, .ref (wB w + k)), (1, .int _), (2, .int _), (3, .int _)] []
  refine z_aload_n CX 0 dL_boat_0 rfl rfl ?_
  refine z_iload_n CX 1 dL_boat_1 rfl rfl ?_
  refine z_iload_n CX 2 dL_boat_2 rfl rfl ?_
  refine z_iload_n CX 3 dL_boat_3 rfl rfl ?_
  refine z_callVc CX htb hN (j := 2) [(⟨0, 8, 9, 34⟩ : ExceptionTableEntry)] [(⟨0, 8, 21, 19⟩ : ExceptionTableEntry)] ⟨0, 8, 15, 15⟩ rfl (by decide) (by decide) ⟨by omega, by omega⟩ (List.forall_mem_cons.mpr ⟨⟨by decide, 1, ⟨by omega, by omega⟩, by omega, wa_mem 491 (by decide +kernel) rfl⟩, (fun _ h => absurd h List.not_mem_nil)⟩) (wa_mem 545 (by decide +kernel) rfl) dL_boat_4 cv_L_55 hC hx rfl rfl (Nat.le_of_ble_eq_true rfl) ⟨Nat.le_of_ble_eq_true rfl, Nat.le_of_ble_eq_true rfl⟩ ⟨Nat.le_of_ble_eq_true rfl, Nat.le_of_ble_eq_true rfl⟩ (fun q9 => ?_)
  refine z_astore CX dL_boat_15 (by decide) ?_
  refine z_ldc2 CX (v := -9000000000000000002) dL_boat_17 (wa_mem 558 (by decide +kernel) rfl) ?_
  exact z_lret CX dL_boat_20 rfl rfl rfl (Or.inl rfl)
set_option maxHeartbeats 4000000 in
set_option maxRecDepth 100000 in
theorem wx_boat3 {l : Launch} {w : Wt} {hs hs9 : Hs} {n : Option Nat} {k : Nat} {a : Int32} {b : Int32} {c : Int32} {fs : List Value} (hx : hs k = some (.inr (5, fs))) (hC : Cx l w mX5_boat 1 6 [.ref (wB w + k), .int a, .int b, .int c] hs n hs9 (exN 3)) : Cw l w mL_boat [(0, 8, 9, 34), (0, 8, 15, 15), (0, 8, 21, 19)] 1 6 [.ref (wB w + k), .int a, .int b, .int c] hs n hs9 none (some (.long (-9000000000000000003))) := by
  refine Cw.of (d := mL_boat) (hh := [(0, 8, 9, 34), (0, 8, 15, 15), (0, 8, 21, 19)]) (by decide +kernel) (Nat.le_of_ble_eq_true rfl) ?_
  intro p e R s m args below meth c CX htb hN
  replace CX : Ctx p s m args meth c R w RL "boat" cL_boat 5 (some .long) 8 153 1 6 := CX
  show ZW p l e R s m args below meth c w 5 _ _ 0 0 (MQ below (Qn w _ _ _) args s 1 6 (wA w)) 0 [(0, .ref (wB w + k)), (1, .int _), (2, .int _), (3, .int _)] []
  refine z_aload_n CX 0 dL_boat_0 rfl rfl ?_
  refine z_iload_n CX 1 dL_boat_1 rfl rfl ?_
  refine z_iload_n CX 2 dL_boat_2 rfl rfl ?_
  refine z_iload_n CX 3 dL_boat_3 rfl rfl ?_
  refine z_callVc CX htb hN (j := 3) [(⟨0, 8, 9, 34⟩ : ExceptionTableEntry), (⟨0, 8, 15, 15⟩ : ExceptionTableEntry)] [] ⟨0, 8, 21, 19⟩ rfl (by decide) (by decide) ⟨by omega, by omega⟩ (List.forall_mem_cons.mpr ⟨⟨by decide, 1, ⟨by omega, by omega⟩, by omega, wa_mem 491 (by decide +kernel) rfl⟩, (List.forall_mem_cons.mpr ⟨⟨by decide, 2, ⟨by omega, by omega⟩, by omega, wa_mem 545 (by decide +kernel) rfl⟩, (fun _ h => absurd h List.not_mem_nil)⟩)⟩) (wa_mem 182 (by decide +kernel) rfl) dL_boat_4 cv_L_55 hC hx rfl rfl (Nat.le_of_ble_eq_true rfl) ⟨Nat.le_of_ble_eq_true rfl, Nat.le_of_ble_eq_true rfl⟩ ⟨Nat.le_of_ble_eq_true rfl, Nat.le_of_ble_eq_true rfl⟩ (fun q9 => ?_)
  refine z_astore CX dL_boat_21 (by decide) ?_
  refine z_ldc2 CX (v := -9000000000000000003) dL_boat_23 (wa_mem 487 (by decide +kernel) rfl) ?_
  exact z_lret CX dL_boat_26 rfl rfl rfl (Or.inl rfl)
set_option maxHeartbeats 4000000 in
set_option maxRecDepth 100000 in
theorem w0_boatOf {l : Launch} {w : Wt} {hs hs9 : Hs} {n n9 : Option Nat} {k : Nat} {a : Int32} {b : Int32} {v : Int32} {fs : List Value} (hx : hs k = some (.inr (5, fs))) (hC : Cn l w mX5_boatOf 0 0 [.ref (wB w + k), .int a, .int b] hs n hs9 n9 (some (.int v))) : Cw l w mL_boatOf [(0, 7, 8, 34), (0, 7, 13, 15)] 0 0 [.ref (wB w + k), .int a, .int b] hs n hs9 n9 (some (.long v.toInt64)) := by
  refine Cw.of (d := mL_boatOf) (hh := [(0, 7, 8, 34), (0, 7, 13, 15)]) (by decide +kernel) (Nat.le_of_ble_eq_true rfl) ?_
  intro p e R s m args below meth c CX htb hN
  replace CX : Ctx p s m args meth c R w RL "boatOf" cL_boatOf 4 (some .long) 8 134 0 0 := CX
  show ZW p l e R s m args below meth c w 4 _ _ 0 0 (MQ below (Qn w _ _ _) args s 0 0 (wA w)) 0 [(0, .ref (wB w + k)), (1, .int _), (2, .int _)] []
  refine z_aload_n CX 0 dL_boatOf_0 rfl rfl ?_
  refine z_iload_n CX 1 dL_boatOf_1 rfl rfl ?_
  refine z_iload_n CX 2 dL_boatOf_2 rfl rfl ?_
  refine z_callV1 CX dL_boatOf_3 cv_L_38 hC hx rfl rfl (Nat.le_of_ble_eq_true rfl) ⟨Nat.le_of_ble_eq_true rfl, Nat.le_of_ble_eq_true rfl⟩ ⟨Nat.le_refl _, Nat.le_refl _⟩ ?_
  refine z_i2l CX dL_boatOf_6 rfl ?_
  exact z_lret CX dL_boatOf_7 rfl rfl rfl (Or.inl rfl)
set_option maxHeartbeats 4000000 in
set_option maxRecDepth 100000 in
theorem wx_boatOf1 {l : Launch} {w : Wt} {hs hs9 : Hs} {n : Option Nat} {k : Nat} {a : Int32} {b : Int32} {fs : List Value} (hx : hs k = some (.inr (5, fs))) (hC : Cx l w mX5_boatOf 1 6 [.ref (wB w + k), .int a, .int b] hs n hs9 (exN 1)) : Cw l w mL_boatOf [(0, 7, 8, 34), (0, 7, 13, 15)] 1 6 [.ref (wB w + k), .int a, .int b] hs n hs9 none (some (.long (-9000000000000000001))) := by
  refine Cw.of (d := mL_boatOf) (hh := [(0, 7, 8, 34), (0, 7, 13, 15)]) (by decide +kernel) (Nat.le_of_ble_eq_true rfl) ?_
  intro p e R s m args below meth c CX htb hN
  replace CX : Ctx p s m args meth c R w RL "boatOf" cL_boatOf 4 (some .long) 8 134 1 6 := CX
  show ZW p l e R s m args below meth c w 4 _ _ 0 0 (MQ below (Qn w _ _ _) args s 1 6 (wA w)) 0 [(0, .ref (wB w + k)), (1, .int _), (2, .int _)] []
  refine z_aload_n CX 0 dL_boatOf_0 rfl rfl ?_
  refine z_iload_n CX 1 dL_boatOf_1 rfl rfl ?_
  refine z_iload_n CX 2 dL_boatOf_2 rfl rfl ?_
  refine z_callVc CX htb hN (j := 1) [] [(⟨0, 7, 13, 15⟩ : ExceptionTableEntry)] ⟨0, 7, 8, 34⟩ rfl (by decide) (by decide) ⟨by omega, by omega⟩ (fun _ h => absurd h List.not_mem_nil) (wa_mem 491 (by decide +kernel) rfl) dL_boatOf_3 cv_L_38 hC hx rfl rfl (Nat.le_of_ble_eq_true rfl) ⟨Nat.le_of_ble_eq_true rfl, Nat.le_of_ble_eq_true rfl⟩ ⟨Nat.le_of_ble_eq_true rfl, Nat.le_of_ble_eq_true rfl⟩ (fun q9 => ?_)
  refine z_astore_n CX 3 dL_boatOf_8 rfl (by decide) ?_
  refine z_ldc2 CX (v := -9000000000000000001) dL_boatOf_9 (wa_mem 518 (by decide +kernel) rfl) ?_
  exact z_lret CX dL_boatOf_12 rfl rfl rfl (Or.inl rfl)
set_option maxHeartbeats 4000000 in
set_option maxRecDepth 100000 in
theorem wx_boatOf2 {l : Launch} {w : Wt} {hs hs9 : Hs} {n : Option Nat} {k : Nat} {a : Int32} {b : Int32} {fs : List Value} (hx : hs k = some (.inr (5, fs))) (hC : Cx l w mX5_boatOf 1 6 [.ref (wB w + k), .int a, .int b] hs n hs9 (exN 2)) : Cw l w mL_boatOf [(0, 7, 8, 34), (0, 7, 13, 15)] 1 6 [.ref (wB w + k), .int a, .int b] hs n hs9 none (some (.long (-9000000000000000002))) := by
  refine Cw.of (d := mL_boatOf) (hh := [(0, 7, 8, 34), (0, 7, 13, 15)]) (by decide +kernel) (Nat.le_of_ble_eq_true rfl) ?_
  intro p e R s m args below meth c CX htb hN
  replace CX : Ctx p s m args meth c R w RL "boatOf" cL_boatOf 4 (some .long) 8 134 1 6 := CX
  show ZW p l e R s m args below meth c w 4 _ _ 0 0 (MQ below (Qn w _ _ _) args s 1 6 (wA w)) 0 [(0, .ref (wB w + k)), (1, .int _), (2, .int _)] []
  refine z_aload_n CX 0 dL_boatOf_0 rfl rfl ?_
  refine z_iload_n CX 1 dL_boatOf_1 rfl rfl ?_
  refine z_iload_n CX 2 dL_boatOf_2 rfl rfl ?_
  refine z_callVc CX htb hN (j := 2) [(⟨0, 7, 8, 34⟩ : ExceptionTableEntry)] [] ⟨0, 7, 13, 15⟩ rfl (by decide) (by decide) ⟨by omega, by omega⟩ (List.forall_mem_cons.mpr ⟨⟨by decide, 1, ⟨by omega, by omega⟩, by omega, wa_mem 491 (by decide +kernel) rfl⟩, (fun _ h => absurd h List.not_mem_nil)⟩) (wa_mem 545 (by decide +kernel) rfl) dL_boatOf_3 cv_L_38 hC hx rfl rfl (Nat.le_of_ble_eq_true rfl) ⟨Nat.le_of_ble_eq_true rfl, Nat.le_of_ble_eq_true rfl⟩ ⟨Nat.le_of_ble_eq_true rfl, Nat.le_of_ble_eq_true rfl⟩ (fun q9 => ?_)
  refine z_astore_n CX 3 dL_boatOf_13 rfl (by decide) ?_
  refine z_ldc2 CX (v := -9000000000000000002) dL_boatOf_14 (wa_mem 558 (by decide +kernel) rfl) ?_
  exact z_lret CX dL_boatOf_17 rfl rfl rfl (Or.inl rfl)
set_option maxHeartbeats 4000000 in
set_option maxRecDepth 100000 in
theorem w0_claim {l : Launch} {w : Wt} {hs hs9 : Hs} {n n9 : Option Nat} {k : Nat} {a : Int32} {b : Int32} {v : Int32} {fs : List Value} (hx : hs k = some (.inr (5, fs))) (hC : Cn l w mX5_claim 0 0 [.ref (wB w + k), .int a, .int b] hs n hs9 n9 (some (.int v))) : Cw l w mL_claim [(0, 7, 8, 34)] 1 6 [.ref (wB w + k), .int a, .int b] hs n hs9 n9 (some (.long v.toInt64)) := by
  refine Cw.of (d := mL_claim) (hh := [(0, 7, 8, 34)]) (by decide +kernel) (Nat.le_of_ble_eq_true rfl) ?_
  intro p e R s m args below meth c CX htb hN
  replace CX : Ctx p s m args meth c R w RL "claim" cL_claim 4 (some .long) 8 153 1 6 := CX
  show ZW p l e R s m args below meth c w 4 _ _ 0 0 (MQ below (Qn w _ _ _) args s 1 6 (wA w)) 0 [(0, .ref (wB w + k)), (1, .int _), (2, .int _)] []
  refine z_aload_n CX 0 dL_claim_0 rfl rfl ?_
  refine z_iload_n CX 1 dL_claim_1 rfl rfl ?_
  refine z_iload_n CX 2 dL_claim_2 rfl rfl ?_
  refine z_callV1 CX dL_claim_3 cv_L_64 hC hx rfl rfl (Nat.le_of_ble_eq_true rfl) ⟨Nat.le_of_ble_eq_true rfl, Nat.le_of_ble_eq_true rfl⟩ ⟨Nat.zero_le _, Nat.zero_le _⟩ ?_
  refine z_i2l CX dL_claim_6 rfl ?_
  refine z_widen (k9 := 1) (n9 := 6) (by omega) (by omega) ?_
  exact z_lret CX dL_claim_7 rfl rfl rfl (Or.inl rfl)
set_option maxHeartbeats 4000000 in
set_option maxRecDepth 100000 in
theorem wx_claim1 {l : Launch} {w : Wt} {hs hs9 : Hs} {n : Option Nat} {k : Nat} {a : Int32} {b : Int32} {fs : List Value} (hx : hs k = some (.inr (5, fs))) (hC : Cx l w mX5_claim 1 6 [.ref (wB w + k), .int a, .int b] hs n hs9 (exN 1)) : Cw l w mL_claim [(0, 7, 8, 34)] 1 6 [.ref (wB w + k), .int a, .int b] hs n hs9 none (some (.long (-9000000000000000001))) := by
  refine Cw.of (d := mL_claim) (hh := [(0, 7, 8, 34)]) (by decide +kernel) (Nat.le_of_ble_eq_true rfl) ?_
  intro p e R s m args below meth c CX htb hN
  replace CX : Ctx p s m args meth c R w RL "claim" cL_claim 4 (some .long) 8 153 1 6 := CX
  show ZW p l e R s m args below meth c w 4 _ _ 0 0 (MQ below (Qn w _ _ _) args s 1 6 (wA w)) 0 [(0, .ref (wB w + k)), (1, .int _), (2, .int _)] []
  refine z_aload_n CX 0 dL_claim_0 rfl rfl ?_
  refine z_iload_n CX 1 dL_claim_1 rfl rfl ?_
  refine z_iload_n CX 2 dL_claim_2 rfl rfl ?_
  refine z_callVc CX htb hN (j := 1) [] [] ⟨0, 7, 8, 34⟩ rfl (by decide) (by decide) ⟨by omega, by omega⟩ (fun _ h => absurd h List.not_mem_nil) (wa_mem 491 (by decide +kernel) rfl) dL_claim_3 cv_L_64 hC hx rfl rfl (Nat.le_of_ble_eq_true rfl) ⟨Nat.le_of_ble_eq_true rfl, Nat.le_of_ble_eq_true rfl⟩ ⟨Nat.le_of_ble_eq_true rfl, Nat.le_of_ble_eq_true rfl⟩ (fun q9 => ?_)
  refine z_astore_n CX 3 dL_claim_8 rfl (by decide) ?_
  refine z_ldc2 CX (v := -9000000000000000001) dL_claim_9 (wa_mem 518 (by decide +kernel) rfl) ?_
  exact z_lret CX dL_claim_12 rfl rfl rfl (Or.inl rfl)
set_option maxHeartbeats 4000000 in
set_option maxRecDepth 100000 in
theorem w0_endsIn {l : Launch} {w : Wt} {hs hs9 : Hs} {n n9 : Option Nat} {k : Nat} {a : Int32} {b : Int32} {v : Int32} {fs : List Value} (hx : hs k = some (.inr (5, fs))) (hC : Cn l w mX5_endsIn 0 0 [.ref (wB w + k), .int a, .int b] hs n hs9 n9 (some (.int v))) : Cw l w mL_endsIn [(0, 7, 8, 34), (0, 7, 13, 15), (0, 7, 18, 19)] 1 6 [.ref (wB w + k), .int a, .int b] hs n hs9 n9 (some (.long v.toInt64)) := by
  refine Cw.of (d := mL_endsIn) (hh := [(0, 7, 8, 34), (0, 7, 13, 15), (0, 7, 18, 19)]) (by decide +kernel) (Nat.le_of_ble_eq_true rfl) ?_
  intro p e R s m args below meth c CX htb hN
  replace CX : Ctx p s m args meth c R w RL "endsIn" cL_endsIn 4 (some .long) 8 142 1 6 := CX
  show ZW p l e R s m args below meth c w 4 _ _ 0 0 (MQ below (Qn w _ _ _) args s 1 6 (wA w)) 0 [(0, .ref (wB w + k)), (1, .int _), (2, .int _)] []
  refine z_aload_n CX 0 dL_endsIn_0 rfl rfl ?_
  refine z_iload_n CX 1 dL_endsIn_1 rfl rfl ?_
  refine z_iload_n CX 2 dL_endsIn_2 rfl rfl ?_
  refine z_callV1 CX dL_endsIn_3 cv_L_79 hC hx rfl rfl (Nat.le_of_ble_eq_true rfl) ⟨Nat.le_of_ble_eq_true rfl, Nat.le_of_ble_eq_true rfl⟩ ⟨Nat.zero_le _, Nat.zero_le _⟩ ?_
  refine z_i2l CX dL_endsIn_6 rfl ?_
  refine z_widen (k9 := 1) (n9 := 6) (by omega) (by omega) ?_
  exact z_lret CX dL_endsIn_7 rfl rfl rfl (Or.inl rfl)
set_option maxHeartbeats 4000000 in
set_option maxRecDepth 100000 in
theorem wx_endsIn1 {l : Launch} {w : Wt} {hs hs9 : Hs} {n : Option Nat} {k : Nat} {a : Int32} {b : Int32} {fs : List Value} (hx : hs k = some (.inr (5, fs))) (hC : Cx l w mX5_endsIn 1 6 [.ref (wB w + k), .int a, .int b] hs n hs9 (exN 1)) : Cw l w mL_endsIn [(0, 7, 8, 34), (0, 7, 13, 15), (0, 7, 18, 19)] 1 6 [.ref (wB w + k), .int a, .int b] hs n hs9 none (some (.long (-9000000000000000001))) := by
  refine Cw.of (d := mL_endsIn) (hh := [(0, 7, 8, 34), (0, 7, 13, 15), (0, 7, 18, 19)]) (by decide +kernel) (Nat.le_of_ble_eq_true rfl) ?_
  intro p e R s m args below meth c CX htb hN
  replace CX : Ctx p s m args meth c R w RL "endsIn" cL_endsIn 4 (some .long) 8 142 1 6 := CX
  show ZW p l e R s m args below meth c w 4 _ _ 0 0 (MQ below (Qn w _ _ _) args s 1 6 (wA w)) 0 [(0, .ref (wB w + k)), (1, .int _), (2, .int _)] []
  refine z_aload_n CX 0 dL_endsIn_0 rfl rfl ?_
  refine z_iload_n CX 1 dL_endsIn_1 rfl rfl ?_
  refine z_iload_n CX 2 dL_endsIn_2 rfl rfl ?_
  refine z_callVc CX htb hN (j := 1) [] [(⟨0, 7, 13, 15⟩ : ExceptionTableEntry), (⟨0, 7, 18, 19⟩ : ExceptionTableEntry)] ⟨0, 7, 8, 34⟩ rfl (by decide) (by decide) ⟨by omega, by omega⟩ (fun _ h => absurd h List.not_mem_nil) (wa_mem 491 (by decide +kernel) rfl) dL_endsIn_3 cv_L_79 hC hx rfl rfl (Nat.le_of_ble_eq_true rfl) ⟨Nat.le_of_ble_eq_true rfl, Nat.le_of_ble_eq_true rfl⟩ ⟨Nat.le_of_ble_eq_true rfl, Nat.le_of_ble_eq_true rfl⟩ (fun q9 => ?_)
  refine z_astore_n CX 3 dL_endsIn_8 rfl (by decide) ?_
  refine z_ldc2 CX (v := -9000000000000000001) dL_endsIn_9 (wa_mem 518 (by decide +kernel) rfl) ?_
  exact z_lret CX dL_endsIn_12 rfl rfl rfl (Or.inl rfl)
set_option maxHeartbeats 4000000 in
set_option maxRecDepth 100000 in
theorem wx_endsIn2 {l : Launch} {w : Wt} {hs hs9 : Hs} {n : Option Nat} {k : Nat} {a : Int32} {b : Int32} {fs : List Value} (hx : hs k = some (.inr (5, fs))) (hC : Cx l w mX5_endsIn 1 6 [.ref (wB w + k), .int a, .int b] hs n hs9 (exN 2)) : Cw l w mL_endsIn [(0, 7, 8, 34), (0, 7, 13, 15), (0, 7, 18, 19)] 1 6 [.ref (wB w + k), .int a, .int b] hs n hs9 none (some (.long (-9000000000000000002))) := by
  refine Cw.of (d := mL_endsIn) (hh := [(0, 7, 8, 34), (0, 7, 13, 15), (0, 7, 18, 19)]) (by decide +kernel) (Nat.le_of_ble_eq_true rfl) ?_
  intro p e R s m args below meth c CX htb hN
  replace CX : Ctx p s m args meth c R w RL "endsIn" cL_endsIn 4 (some .long) 8 142 1 6 := CX
  show ZW p l e R s m args below meth c w 4 _ _ 0 0 (MQ below (Qn w _ _ _) args s 1 6 (wA w)) 0 [(0, .ref (wB w + k)), (1, .int _), (2, .int _)] []
  refine z_aload_n CX 0 dL_endsIn_0 rfl rfl ?_
  refine z_iload_n CX 1 dL_endsIn_1 rfl rfl ?_
  refine z_iload_n CX 2 dL_endsIn_2 rfl rfl ?_
  refine z_callVc CX htb hN (j := 2) [(⟨0, 7, 8, 34⟩ : ExceptionTableEntry)] [(⟨0, 7, 18, 19⟩ : ExceptionTableEntry)] ⟨0, 7, 13, 15⟩ rfl (by decide) (by decide) ⟨by omega, by omega⟩ (List.forall_mem_cons.mpr ⟨⟨by decide, 1, ⟨by omega, by omega⟩, by omega, wa_mem 491 (by decide +kernel) rfl⟩, (fun _ h => absurd h List.not_mem_nil)⟩) (wa_mem 545 (by decide +kernel) rfl) dL_endsIn_3 cv_L_79 hC hx rfl rfl (Nat.le_of_ble_eq_true rfl) ⟨Nat.le_of_ble_eq_true rfl, Nat.le_of_ble_eq_true rfl⟩ ⟨Nat.le_of_ble_eq_true rfl, Nat.le_of_ble_eq_true rfl⟩ (fun q9 => ?_)
  refine z_astore_n CX 3 dL_endsIn_13 rfl (by decide) ?_
  refine z_ldc2 CX (v := -9000000000000000002) dL_endsIn_14 (wa_mem 558 (by decide +kernel) rfl) ?_
  exact z_lret CX dL_endsIn_17 rfl rfl rfl (Or.inl rfl)
set_option maxHeartbeats 4000000 in
set_option maxRecDepth 100000 in
theorem wx_endsIn3 {l : Launch} {w : Wt} {hs hs9 : Hs} {n : Option Nat} {k : Nat} {a : Int32} {b : Int32} {fs : List Value} (hx : hs k = some (.inr (5, fs))) (hC : Cx l w mX5_endsIn 1 6 [.ref (wB w + k), .int a, .int b] hs n hs9 (exN 3)) : Cw l w mL_endsIn [(0, 7, 8, 34), (0, 7, 13, 15), (0, 7, 18, 19)] 1 6 [.ref (wB w + k), .int a, .int b] hs n hs9 none (some (.long (-9000000000000000003))) := by
  refine Cw.of (d := mL_endsIn) (hh := [(0, 7, 8, 34), (0, 7, 13, 15), (0, 7, 18, 19)]) (by decide +kernel) (Nat.le_of_ble_eq_true rfl) ?_
  intro p e R s m args below meth c CX htb hN
  replace CX : Ctx p s m args meth c R w RL "endsIn" cL_endsIn 4 (some .long) 8 142 1 6 := CX
  show ZW p l e R s m args below meth c w 4 _ _ 0 0 (MQ below (Qn w _ _ _) args s 1 6 (wA w)) 0 [(0, .ref (wB w + k)), (1, .int _), (2, .int _)] []
  refine z_aload_n CX 0 dL_endsIn_0 rfl rfl ?_
  refine z_iload_n CX 1 dL_endsIn_1 rfl rfl ?_
  refine z_iload_n CX 2 dL_endsIn_2 rfl rfl ?_
  refine z_callVc CX htb hN (j := 3) [(⟨0, 7, 8, 34⟩ : ExceptionTableEntry), (⟨0, 7, 13, 15⟩ : ExceptionTableEntry)] [] ⟨0, 7, 18, 19⟩ rfl (by decide) (by decide) ⟨by omega, by omega⟩ (List.forall_mem_cons.mpr ⟨⟨by decide, 1, ⟨by omega, by omega⟩, by omega, wa_mem 491 (by decide +kernel) rfl⟩, (List.forall_mem_cons.mpr ⟨⟨by decide, 2, ⟨by omega, by omega⟩, by omega, wa_mem 545 (by decide +kernel) rfl⟩, (fun _ h => absurd h List.not_mem_nil)⟩)⟩) (wa_mem 182 (by decide +kernel) rfl) dL_endsIn_3 cv_L_79 hC hx rfl rfl (Nat.le_of_ble_eq_true rfl) ⟨Nat.le_of_ble_eq_true rfl, Nat.le_of_ble_eq_true rfl⟩ ⟨Nat.le_of_ble_eq_true rfl, Nat.le_of_ble_eq_true rfl⟩ (fun q9 => ?_)
  refine z_astore_n CX 3 dL_endsIn_18 rfl (by decide) ?_
  refine z_ldc2 CX (v := -9000000000000000003) dL_endsIn_19 (wa_mem 487 (by decide +kernel) rfl) ?_
  exact z_lret CX dL_endsIn_22 rfl rfl rfl (Or.inl rfl)
set_option maxHeartbeats 4000000 in
set_option maxRecDepth 100000 in
theorem w0_gutter {l : Launch} {w : Wt} {hs hs9 : Hs} {n n9 : Option Nat} {k : Nat} {a : Int32} {b : Int32} {c : Int32} {y : Int32} {v : Int32} {fs : List Value} (hx : hs k = some (.inr (5, fs))) (hC : Cn l w mX5_gutter 0 0 [.ref (wB w + k), .int a, .int b, .int c, .int y] hs n hs9 n9 (some (.int v))) : Cw l w mL_gutter [(0, 10, 11, 34), (0, 10, 17, 15), (0, 10, 23, 19)] 1 6 [.ref (wB w + k), .int a, .int b, .int c, .int y] hs n hs9 n9 (some (.long v.toInt64)) := by
  refine Cw.of (d := mL_gutter) (hh := [(0, 10, 11, 34), (0, 10, 17, 15), (0, 10, 23, 19)]) (by decide +kernel) (Nat.le_of_ble_eq_true rfl) ?_
  intro p e R s m args below meth c CX htb hN
  replace CX : Ctx p s m args meth c R w RL "gutter" cL_gutter 6 (some .long) 8 154 1 6 := CX
  show ZW p l e R s m args below meth c w 6 _ _ 0 0 (MQ below (Qn w _ _ _) args s 1 6 (wA w)) 0 [(0, .ref (wB w + k)), (1, .int _), (2, .int _), (3, .int _), (4, .int _)] []
  refine z_aload_n CX 0 dL_gutter_0 rfl rfl ?_
  refine z_iload_n CX 1 dL_gutter_1 rfl rfl ?_
  refine z_iload_n CX 2 dL_gutter_2 rfl rfl ?_
  refine z_iload_n CX 3 dL_gutter_3 rfl rfl ?_
  refine z_iload CX dL_gutter_4 rfl ?_
  refine z_callV1 CX dL_gutter_6 cv_L_51 hC hx rfl rfl (Nat.le_of_ble_eq_true rfl) ⟨Nat.le_of_ble_eq_true rfl, Nat.le_of_ble_eq_true rfl⟩ ⟨Nat.zero_le _, Nat.zero_le _⟩ ?_
  refine z_i2l CX dL_gutter_9 rfl ?_
  refine z_widen (k9 := 1) (n9 := 6) (by omega) (by omega) ?_
  exact z_lret CX dL_gutter_10 rfl rfl rfl (Or.inl rfl)
set_option maxHeartbeats 4000000 in
set_option maxRecDepth 100000 in
theorem wx_gutter1 {l : Launch} {w : Wt} {hs hs9 : Hs} {n : Option Nat} {k : Nat} {a : Int32} {b : Int32} {c : Int32} {y : Int32} {fs : List Value} (hx : hs k = some (.inr (5, fs))) (hC : Cx l w mX5_gutter 1 6 [.ref (wB w + k), .int a, .int b, .int c, .int y] hs n hs9 (exN 1)) : Cw l w mL_gutter [(0, 10, 11, 34), (0, 10, 17, 15), (0, 10, 23, 19)] 1 6 [.ref (wB w + k), .int a, .int b, .int c, .int y] hs n hs9 none (some (.long (-9000000000000000001))) := by
  refine Cw.of (d := mL_gutter) (hh := [(0, 10, 11, 34), (0, 10, 17, 15), (0, 10, 23, 19)]) (by decide +kernel) (Nat.le_of_ble_eq_true rfl) ?_
  intro p e R s m args below meth c CX htb hN
  replace CX : Ctx p s m args meth c R w RL "gutter" cL_gutter 6 (some .long) 8 154 1 6 := CX
  show ZW p l e R s m args below meth c w 6 _ _ 0 0 (MQ below (Qn w _ _ _) args s 1 6 (wA w)) 0 [(0, .ref (wB w + k)), (1, .int _), (2, .int _), (3, .int _), (4, .int _)] []
  refine z_aload_n CX 0 dL_gutter_0 rfl rfl ?_
  refine z_iload_n CX 1 dL_gutter_1 rfl rfl ?_
  refine z_iload_n CX 2 dL_gutter_2 rfl rfl ?_
  refine z_iload_n CX 3 dL_gutter_3 rfl rfl ?_
  refine z_iload CX dL_gutter_4 rfl ?_
  refine z_callVc CX htb hN (j := 1) [] [(⟨0, 10, 17, 15⟩ : ExceptionTableEntry), (⟨0, 10, 23, 19⟩ : ExceptionTableEntry)] ⟨0, 10, 11, 34⟩ rfl (by decide) (by decide) ⟨by omega, by omega⟩ (fun _ h => absurd h List.not_mem_nil) (wa_mem 491 (by decide +kernel) rfl) dL_gutter_6 cv_L_51 hC hx rfl rfl (Nat.le_of_ble_eq_true rfl) ⟨Nat.le_of_ble_eq_true rfl, Nat.le_of_ble_eq_true rfl⟩ ⟨Nat.le_of_ble_eq_true rfl, Nat.le_of_ble_eq_true rfl⟩ (fun q9 => ?_)
  refine z_astore CX dL_gutter_11 (by decide) ?_
  refine z_ldc2 CX (v := -9000000000000000001) dL_gutter_13 (wa_mem 518 (by decide +kernel) rfl) ?_
  exact z_lret CX dL_gutter_16 rfl rfl rfl (Or.inl rfl)
set_option maxHeartbeats 4000000 in
set_option maxRecDepth 100000 in
theorem wx_gutter2 {l : Launch} {w : Wt} {hs hs9 : Hs} {n : Option Nat} {k : Nat} {a : Int32} {b : Int32} {c : Int32} {y : Int32} {fs : List Value} (hx : hs k = some (.inr (5, fs))) (hC : Cx l w mX5_gutter 1 6 [.ref (wB w + k), .int a, .int b, .int c, .int y] hs n hs9 (exN 2)) : Cw l w mL_gutter [(0, 10, 11, 34), (0, 10, 17, 15), (0, 10, 23, 19)] 1 6 [.ref (wB w + k), .int a, .int b, .int c, .int y] hs n hs9 none (some (.long (-9000000000000000002))) := by
  refine Cw.of (d := mL_gutter) (hh := [(0, 10, 11, 34), (0, 10, 17, 15), (0, 10, 23, 19)]) (by decide +kernel) (Nat.le_of_ble_eq_true rfl) ?_
  intro p e R s m args below meth c CX htb hN
  replace CX : Ctx p s m args meth c R w RL "gutter" cL_gutter 6 (some .long) 8 154 1 6 := CX
  show ZW p l e R s m args below meth c w 6 _ _ 0 0 (MQ below (Qn w _ _ _) args s 1 6 (wA w)) 0 [(0, .ref (wB w + k)), (1, .int _), (2, .int _), (3, .int _), (4, .int _)] []
  refine z_aload_n CX 0 dL_gutter_0 rfl rfl ?_
  refine z_iload_n CX 1 dL_gutter_1 rfl rfl ?_
  refine z_iload_n CX 2 dL_gutter_2 rfl rfl ?_
  refine z_iload_n CX 3 dL_gutter_3 rfl rfl ?_
  refine z_iload CX dL_gutter_4 rfl ?_
  refine z_callVc CX htb hN (j := 2) [(⟨0, 10, 11, 34⟩ : ExceptionTableEntry)] [(⟨0, 10, 23, 19⟩ : ExceptionTableEntry)] ⟨0, 10, 17, 15⟩ rfl (by decide) (by decide) ⟨by omega, by omega⟩ (List.forall_mem_cons.mpr ⟨⟨by decide, 1, ⟨by omega, by omega⟩, by omega, wa_mem 491 (by decide +kernel) rfl⟩, (fun _ h => absurd h List.not_mem_nil)⟩) (wa_mem 545 (by decide +kernel) rfl) dL_gutter_6 cv_L_51 hC hx rfl rfl (Nat.le_of_ble_eq_true rfl) ⟨Nat.le_of_ble_eq_true rfl, Nat.le_of_ble_eq_true rfl⟩ ⟨Nat.le_of_ble_eq_true rfl, Nat.le_of_ble_eq_true rfl⟩ (fun q9 => ?_)
  refine z_astore CX dL_gutter_17 (by decide) ?_
  refine z_ldc2 CX (v := -9000000000000000002) dL_gutter_19 (wa_mem 558 (by decide +kernel) rfl) ?_
  exact z_lret CX dL_gutter_22 rfl rfl rfl (Or.inl rfl)
set_option maxHeartbeats 4000000 in
set_option maxRecDepth 100000 in
theorem wx_gutter3 {l : Launch} {w : Wt} {hs hs9 : Hs} {n : Option Nat} {k : Nat} {a : Int32} {b : Int32} {c : Int32} {y : Int32} {fs : List Value} (hx : hs k = some (.inr (5, fs))) (hC : Cx l w mX5_gutter 1 6 [.ref (wB w + k), .int a, .int b, .int c, .int y] hs n hs9 (exN 3)) : Cw l w mL_gutter [(0, 10, 11, 34), (0, 10, 17, 15), (0, 10, 23, 19)] 1 6 [.ref (wB w + k), .int a, .int b, .int c, .int y] hs n hs9 none (some (.long (-9000000000000000003))) := by
  refine Cw.of (d := mL_gutter) (hh := [(0, 10, 11, 34), (0, 10, 17, 15), (0, 10, 23, 19)]) (by decide +kernel) (Nat.le_of_ble_eq_true rfl) ?_
  intro p e R s m args below meth c CX htb hN
  replace CX : Ctx p s m args meth c R w RL "gutter" cL_gutter 6 (some .long) 8 154 1 6 := CX
  show ZW p l e R s m args below meth c w 6 _ _ 0 0 (MQ below (Qn w _ _ _) args s 1 6 (wA w)) 0 [(0, .ref (wB w + k)), (1, .int _), (2, .int _), (3, .int _), (4, .int _)] []
  refine z_aload_n CX 0 dL_gutter_0 rfl rfl ?_
  refine z_iload_n CX 1 dL_gutter_1 rfl rfl ?_
  refine z_iload_n CX 2 dL_gutter_2 rfl rfl ?_
  refine z_iload_n CX 3 dL_gutter_3 rfl rfl ?_
  refine z_iload CX dL_gutter_4 rfl ?_
  refine z_callVc CX htb hN (j := 3) [(⟨0, 10, 11, 34⟩ : ExceptionTableEntry), (⟨0, 10, 17, 15⟩ : ExceptionTableEntry)] [] ⟨0, 10, 23, 19⟩ rfl (by decide) (by decide) ⟨by omega, by omega⟩ (List.forall_mem_cons.mpr ⟨⟨by decide, 1, ⟨by omega, by omega⟩, by omega, wa_mem 491 (by decide +kernel) rfl⟩, (List.forall_mem_cons.mpr ⟨⟨by decide, 2, ⟨by omega, by omega⟩, by omega, wa_mem 545 (by decide +kernel) rfl⟩, (fun _ h => absurd h List.not_mem_nil)⟩)⟩) (wa_mem 182 (by decide +kernel) rfl) dL_gutter_6 cv_L_51 hC hx rfl rfl (Nat.le_of_ble_eq_true rfl) ⟨Nat.le_of_ble_eq_true rfl, Nat.le_of_ble_eq_true rfl⟩ ⟨Nat.le_of_ble_eq_true rfl, Nat.le_of_ble_eq_true rfl⟩ (fun q9 => ?_)
  refine z_astore CX dL_gutter_23 (by decide) ?_
  refine z_ldc2 CX (v := -9000000000000000003) dL_gutter_25 (wa_mem 487 (by decide +kernel) rfl) ?_
  exact z_lret CX dL_gutter_28 rfl rfl rfl (Or.inl rfl)
set_option maxHeartbeats 4000000 in
set_option maxRecDepth 100000 in
theorem w0_gutterOf {l : Launch} {w : Wt} {hs hs9 : Hs} {n n9 : Option Nat} {k : Nat} {a : Int32} {b : Int32} {v : Int32} {fs : List Value} (hx : hs k = some (.inr (5, fs))) (hC : Cn l w mX5_gutterOf 0 0 [.ref (wB w + k), .int a, .int b] hs n hs9 n9 (some (.int v))) : Cw l w mL_gutterOf [(0, 7, 8, 34), (0, 7, 13, 15)] 0 0 [.ref (wB w + k), .int a, .int b] hs n hs9 n9 (some (.long v.toInt64)) := by
  refine Cw.of (d := mL_gutterOf) (hh := [(0, 7, 8, 34), (0, 7, 13, 15)]) (by decide +kernel) (Nat.le_of_ble_eq_true rfl) ?_
  intro p e R s m args below meth c CX htb hN
  replace CX : Ctx p s m args meth c R w RL "gutterOf" cL_gutterOf 4 (some .long) 8 134 0 0 := CX
  show ZW p l e R s m args below meth c w 4 _ _ 0 0 (MQ below (Qn w _ _ _) args s 0 0 (wA w)) 0 [(0, .ref (wB w + k)), (1, .int _), (2, .int _)] []
  refine z_aload_n CX 0 dL_gutterOf_0 rfl rfl ?_
  refine z_iload_n CX 1 dL_gutterOf_1 rfl rfl ?_
  refine z_iload_n CX 2 dL_gutterOf_2 rfl rfl ?_
  refine z_callV1 CX dL_gutterOf_3 cv_L_30 hC hx rfl rfl (Nat.le_of_ble_eq_true rfl) ⟨Nat.le_of_ble_eq_true rfl, Nat.le_of_ble_eq_true rfl⟩ ⟨Nat.le_refl _, Nat.le_refl _⟩ ?_
  refine z_i2l CX dL_gutterOf_6 rfl ?_
  exact z_lret CX dL_gutterOf_7 rfl rfl rfl (Or.inl rfl)
set_option maxHeartbeats 4000000 in
set_option maxRecDepth 100000 in
theorem wx_gutterOf1 {l : Launch} {w : Wt} {hs hs9 : Hs} {n : Option Nat} {k : Nat} {a : Int32} {b : Int32} {fs : List Value} (hx : hs k = some (.inr (5, fs))) (hC : Cx l w mX5_gutterOf 1 6 [.ref (wB w + k), .int a, .int b] hs n hs9 (exN 1)) : Cw l w mL_gutterOf [(0, 7, 8, 34), (0, 7, 13, 15)] 1 6 [.ref (wB w + k), .int a, .int b] hs n hs9 none (some (.long (-9000000000000000001))) := by
  refine Cw.of (d := mL_gutterOf) (hh := [(0, 7, 8, 34), (0, 7, 13, 15)]) (by decide +kernel) (Nat.le_of_ble_eq_true rfl) ?_
  intro p e R s m args below meth c CX htb hN
  replace CX : Ctx p s m args meth c R w RL "gutterOf" cL_gutterOf 4 (some .long) 8 134 1 6 := CX
  show ZW p l e R s m args below meth c w 4 _ _ 0 0 (MQ below (Qn w _ _ _) args s 1 6 (wA w)) 0 [(0, .ref (wB w + k)), (1, .int _), (2, .int _)] []
  refine z_aload_n CX 0 dL_gutterOf_0 rfl rfl ?_
  refine z_iload_n CX 1 dL_gutterOf_1 rfl rfl ?_
  refine z_iload_n CX 2 dL_gutterOf_2 rfl rfl ?_
  refine z_callVc CX htb hN (j := 1) [] [(⟨0, 7, 13, 15⟩ : ExceptionTableEntry)] ⟨0, 7, 8, 34⟩ rfl (by decide) (by decide) ⟨by omega, by omega⟩ (fun _ h => absurd h List.not_mem_nil) (wa_mem 491 (by decide +kernel) rfl) dL_gutterOf_3 cv_L_30 hC hx rfl rfl (Nat.le_of_ble_eq_true rfl) ⟨Nat.le_of_ble_eq_true rfl, Nat.le_of_ble_eq_true rfl⟩ ⟨Nat.le_of_ble_eq_true rfl, Nat.le_of_ble_eq_true rfl⟩ (fun q9 => ?_)
  refine z_astore_n CX 3 dL_gutterOf_8 rfl (by decide) ?_
  refine z_ldc2 CX (v := -9000000000000000001) dL_gutterOf_9 (wa_mem 518 (by decide +kernel) rfl) ?_
  exact z_lret CX dL_gutterOf_12 rfl rfl rfl (Or.inl rfl)
set_option maxHeartbeats 4000000 in
set_option maxRecDepth 100000 in
theorem wx_gutterOf2 {l : Launch} {w : Wt} {hs hs9 : Hs} {n : Option Nat} {k : Nat} {a : Int32} {b : Int32} {fs : List Value} (hx : hs k = some (.inr (5, fs))) (hC : Cx l w mX5_gutterOf 1 6 [.ref (wB w + k), .int a, .int b] hs n hs9 (exN 2)) : Cw l w mL_gutterOf [(0, 7, 8, 34), (0, 7, 13, 15)] 1 6 [.ref (wB w + k), .int a, .int b] hs n hs9 none (some (.long (-9000000000000000002))) := by
  refine Cw.of (d := mL_gutterOf) (hh := [(0, 7, 8, 34), (0, 7, 13, 15)]) (by decide +kernel) (Nat.le_of_ble_eq_true rfl) ?_
  intro p e R s m args below meth c CX htb hN
  replace CX : Ctx p s m args meth c R w RL "gutterOf" cL_gutterOf 4 (some .long) 8 134 1 6 := CX
  show ZW p l e R s m args below meth c w 4 _ _ 0 0 (MQ below (Qn w _ _ _) args s 1 6 (wA w)) 0 [(0, .ref (wB w + k)), (1, .int _), (2, .int _)] []
  refine z_aload_n CX 0 dL_gutterOf_0 rfl rfl ?_
  refine z_iload_n CX 1 dL_gutterOf_1 rfl rfl ?_
  refine z_iload_n CX 2 dL_gutterOf_2 rfl rfl ?_
  refine z_callVc CX htb hN (j := 2) [(⟨0, 7, 8, 34⟩ : ExceptionTableEntry)] [] ⟨0, 7, 13, 15⟩ rfl (by decide) (by decide) ⟨by omega, by omega⟩ (List.forall_mem_cons.mpr ⟨⟨by decide, 1, ⟨by omega, by omega⟩, by omega, wa_mem 491 (by decide +kernel) rfl⟩, (fun _ h => absurd h List.not_mem_nil)⟩) (wa_mem 545 (by decide +kernel) rfl) dL_gutterOf_3 cv_L_30 hC hx rfl rfl (Nat.le_of_ble_eq_true rfl) ⟨Nat.le_of_ble_eq_true rfl, Nat.le_of_ble_eq_true rfl⟩ ⟨Nat.le_of_ble_eq_true rfl, Nat.le_of_ble_eq_true rfl⟩ (fun q9 => ?_)
  refine z_astore_n CX 3 dL_gutterOf_13 rfl (by decide) ?_
  refine z_ldc2 CX (v := -9000000000000000002) dL_gutterOf_14 (wa_mem 558 (by decide +kernel) rfl) ?_
  exact z_lret CX dL_gutterOf_17 rfl rfl rfl (Or.inl rfl)
set_option maxHeartbeats 4000000 in
set_option maxRecDepth 100000 in
theorem w0_hook {l : Launch} {w : Wt} {hs hs9 : Hs} {n n9 : Option Nat} {k : Nat} {a : Int32} {b : Int32} {c : Int32} {v : Int32} {fs : List Value} (hx : hs k = some (.inr (5, fs))) (hC : Cn l w mX5_hook 0 0 [.ref (wB w + k), .int a, .int b, .int c] hs n hs9 n9 (some (.int v))) : Cw l w mL_hook [(0, 8, 9, 34)] 1 6 [.ref (wB w + k), .int a, .int b, .int c] hs n hs9 n9 (some (.long v.toInt64)) := by
  refine Cw.of (d := mL_hook) (hh := [(0, 8, 9, 34)]) (by decide +kernel) (Nat.le_of_ble_eq_true rfl) ?_
  intro p e R s m args below meth c CX htb hN
  replace CX : Ctx p s m args meth c R w RL "hook" cL_hook 5 (some .long) 8 153 1 6 := CX
  show ZW p l e R s m args below meth c w 5 _ _ 0 0 (MQ below (Qn w _ _ _) args s 1 6 (wA w)) 0 [(0, .ref (wB w + k)), (1, .int _), (2, .int _), (3, .int _)] []
  refine z_aload_n CX 0 dL_hook_0 rfl rfl ?_
  refine z_iload_n CX 1 dL_hook_1 rfl rfl ?_
  refine z_iload_n CX 2 dL_hook_2 rfl rfl ?_
  refine z_iload_n CX 3 dL_hook_3 rfl rfl ?_
  refine z_callV1 CX dL_hook_4 cv_L_61 hC hx rfl rfl (Nat.le_of_ble_eq_true rfl) ⟨Nat.le_of_ble_eq_true rfl, Nat.le_of_ble_eq_true rfl⟩ ⟨Nat.zero_le _, Nat.zero_le _⟩ ?_
  refine z_i2l CX dL_hook_7 rfl ?_
  refine z_widen (k9 := 1) (n9 := 6) (by omega) (by omega) ?_
  exact z_lret CX dL_hook_8 rfl rfl rfl (Or.inl rfl)
set_option maxHeartbeats 4000000 in
set_option maxRecDepth 100000 in
theorem wx_hook1 {l : Launch} {w : Wt} {hs hs9 : Hs} {n : Option Nat} {k : Nat} {a : Int32} {b : Int32} {c : Int32} {fs : List Value} (hx : hs k = some (.inr (5, fs))) (hC : Cx l w mX5_hook 1 6 [.ref (wB w + k), .int a, .int b, .int c] hs n hs9 (exN 1)) : Cw l w mL_hook [(0, 8, 9, 34)] 1 6 [.ref (wB w + k), .int a, .int b, .int c] hs n hs9 none (some (.long (-9000000000000000001))) := by
  refine Cw.of (d := mL_hook) (hh := [(0, 8, 9, 34)]) (by decide +kernel) (Nat.le_of_ble_eq_true rfl) ?_
  intro p e R s m args below meth c CX htb hN
  replace CX : Ctx p s m args meth c R w RL "hook" cL_hook 5 (some .long) 8 153 1 6 := CX
  show ZW p l e R s m args below meth c w 5 _ _ 0 0 (MQ below (Qn w _ _ _) args s 1 6 (wA w)) 0 [(0, .ref (wB w + k)), (1, .int _), (2, .int _), (3, .int _)] []
  refine z_aload_n CX 0 dL_hook_0 rfl rfl ?_
  refine z_iload_n CX 1 dL_hook_1 rfl rfl ?_
  refine z_iload_n CX 2 dL_hook_2 rfl rfl ?_
  refine z_iload_n CX 3 dL_hook_3 rfl rfl ?_
  refine z_callVc CX htb hN (j := 1) [] [] ⟨0, 8, 9, 34⟩ rfl (by decide) (by decide) ⟨by omega, by omega⟩ (fun _ h => absurd h List.not_mem_nil) (wa_mem 491 (by decide +kernel) rfl) dL_hook_4 cv_L_61 hC hx rfl rfl (Nat.le_of_ble_eq_true rfl) ⟨Nat.le_of_ble_eq_true rfl, Nat.le_of_ble_eq_true rfl⟩ ⟨Nat.le_of_ble_eq_true rfl, Nat.le_of_ble_eq_true rfl⟩ (fun q9 => ?_)
  refine z_astore CX dL_hook_9 (by decide) ?_
  refine z_ldc2 CX (v := -9000000000000000001) dL_hook_11 (wa_mem 518 (by decide +kernel) rfl) ?_
  exact z_lret CX dL_hook_14 rfl rfl rfl (Or.inl rfl)
set_option maxHeartbeats 4000000 in
set_option maxRecDepth 100000 in
theorem w0_launch {l : Launch} {w : Wt} {hs hs9 : Hs} {n n9 : Option Nat} {k : Nat} {a : Int32} {b : Int32} {v : Int32} {fs : List Value} (hx : hs k = some (.inr (5, fs))) (hC : Cn l w mX5_launch 0 0 [.ref (wB w + k), .int a, .int b] hs n hs9 n9 (some (.int v))) : Cw l w mL_launch [(0, 7, 8, 34), (0, 7, 13, 19)] 1 6 [.ref (wB w + k), .int a, .int b] hs n hs9 n9 (some (.long v.toInt64)) := by
  refine Cw.of (d := mL_launch) (hh := [(0, 7, 8, 34), (0, 7, 13, 19)]) (by decide +kernel) (Nat.le_of_ble_eq_true rfl) ?_
  intro p e R s m args below meth c CX htb hN
  replace CX : Ctx p s m args meth c R w RL "launch" cL_launch 4 (some .long) 8 152 1 6 := CX
  show ZW p l e R s m args below meth c w 4 _ _ 0 0 (MQ below (Qn w _ _ _) args s 1 6 (wA w)) 0 [(0, .ref (wB w + k)), (1, .int _), (2, .int _)] []
  refine z_aload_n CX 0 dL_launch_0 rfl rfl ?_
  refine z_iload_n CX 1 dL_launch_1 rfl rfl ?_
  refine z_iload_n CX 2 dL_launch_2 rfl rfl ?_
  refine z_callV1 CX dL_launch_3 cv_L_58 hC hx rfl rfl (Nat.le_of_ble_eq_true rfl) ⟨Nat.le_of_ble_eq_true rfl, Nat.le_of_ble_eq_true rfl⟩ ⟨Nat.zero_le _, Nat.zero_le _⟩ ?_
  refine z_i2l CX dL_launch_6 rfl ?_
  refine z_widen (k9 := 1) (n9 := 6) (by omega) (by omega) ?_
  exact z_lret CX dL_launch_7 rfl rfl rfl (Or.inl rfl)
set_option maxHeartbeats 4000000 in
set_option maxRecDepth 100000 in
theorem wx_launch1 {l : Launch} {w : Wt} {hs hs9 : Hs} {n : Option Nat} {k : Nat} {a : Int32} {b : Int32} {fs : List Value} (hx : hs k = some (.inr (5, fs))) (hC : Cx l w mX5_launch 1 6 [.ref (wB w + k), .int a, .int b] hs n hs9 (exN 1)) : Cw l w mL_launch [(0, 7, 8, 34), (0, 7, 13, 19)] 1 6 [.ref (wB w + k), .int a, .int b] hs n hs9 none (some (.long (-9000000000000000001))) := by
  refine Cw.of (d := mL_launch) (hh := [(0, 7, 8, 34), (0, 7, 13, 19)]) (by decide +kernel) (Nat.le_of_ble_eq_true rfl) ?_
  intro p e R s m args below meth c CX htb hN
  replace CX : Ctx p s m args meth c R w RL "launch" cL_launch 4 (some .long) 8 152 1 6 := CX
  show ZW p l e R s m args below meth c w 4 _ _ 0 0 (MQ below (Qn w _ _ _) args s 1 6 (wA w)) 0 [(0, .ref (wB w + k)), (1, .int _), (2, .int _)] []
  refine z_aload_n CX 0 dL_launch_0 rfl rfl ?_
  refine z_iload_n CX 1 dL_launch_1 rfl rfl ?_
  refine z_iload_n CX 2 dL_launch_2 rfl rfl ?_
  refine z_callVc CX htb hN (j := 1) [] [(⟨0, 7, 13, 19⟩ : ExceptionTableEntry)] ⟨0, 7, 8, 34⟩ rfl (by decide) (by decide) ⟨by omega, by omega⟩ (fun _ h => absurd h List.not_mem_nil) (wa_mem 491 (by decide +kernel) rfl) dL_launch_3 cv_L_58 hC hx rfl rfl (Nat.le_of_ble_eq_true rfl) ⟨Nat.le_of_ble_eq_true rfl, Nat.le_of_ble_eq_true rfl⟩ ⟨Nat.le_of_ble_eq_true rfl, Nat.le_of_ble_eq_true rfl⟩ (fun q9 => ?_)
  refine z_astore_n CX 3 dL_launch_8 rfl (by decide) ?_
  refine z_ldc2 CX (v := -9000000000000000001) dL_launch_9 (wa_mem 518 (by decide +kernel) rfl) ?_
  exact z_lret CX dL_launch_12 rfl rfl rfl (Or.inl rfl)
set_option maxHeartbeats 4000000 in
set_option maxRecDepth 100000 in
theorem wx_launch3 {l : Launch} {w : Wt} {hs hs9 : Hs} {n : Option Nat} {k : Nat} {a : Int32} {b : Int32} {fs : List Value} (hx : hs k = some (.inr (5, fs))) (hC : Cx l w mX5_launch 1 6 [.ref (wB w + k), .int a, .int b] hs n hs9 (exN 3)) : Cw l w mL_launch [(0, 7, 8, 34), (0, 7, 13, 19)] 1 6 [.ref (wB w + k), .int a, .int b] hs n hs9 none (some (.long (-9000000000000000003))) := by
  refine Cw.of (d := mL_launch) (hh := [(0, 7, 8, 34), (0, 7, 13, 19)]) (by decide +kernel) (Nat.le_of_ble_eq_true rfl) ?_
  intro p e R s m args below meth c CX htb hN
  replace CX : Ctx p s m args meth c R w RL "launch" cL_launch 4 (some .long) 8 152 1 6 := CX
  show ZW p l e R s m args below meth c w 4 _ _ 0 0 (MQ below (Qn w _ _ _) args s 1 6 (wA w)) 0 [(0, .ref (wB w + k)), (1, .int _), (2, .int _)] []
  refine z_aload_n CX 0 dL_launch_0 rfl rfl ?_
  refine z_iload_n CX 1 dL_launch_1 rfl rfl ?_
  refine z_iload_n CX 2 dL_launch_2 rfl rfl ?_
  refine z_callVc CX htb hN (j := 3) [(⟨0, 7, 8, 34⟩ : ExceptionTableEntry)] [] ⟨0, 7, 13, 19⟩ rfl (by decide) (by decide) ⟨by omega, by omega⟩ (List.forall_mem_cons.mpr ⟨⟨by decide, 1, ⟨by omega, by omega⟩, by omega, wa_mem 491 (by decide +kernel) rfl⟩, (fun _ h => absurd h List.not_mem_nil)⟩) (wa_mem 182 (by decide +kernel) rfl) dL_launch_3 cv_L_58 hC hx rfl rfl (Nat.le_of_ble_eq_true rfl) ⟨Nat.le_of_ble_eq_true rfl, Nat.le_of_ble_eq_true rfl⟩ ⟨Nat.le_of_ble_eq_true rfl, Nat.le_of_ble_eq_true rfl⟩ (fun q9 => ?_)
  refine z_astore_n CX 3 dL_launch_13 rfl (by decide) ?_
  refine z_ldc2 CX (v := -9000000000000000003) dL_launch_14 (wa_mem 487 (by decide +kernel) rfl) ?_
  exact z_lret CX dL_launch_17 rfl rfl rfl (Or.inl rfl)
set_option maxHeartbeats 4000000 in
set_option maxRecDepth 100000 in
theorem w0_leastFolds {l : Launch} {w : Wt} {hs hs9 : Hs} {n n9 : Option Nat} {k : Nat} {a : Int32} {b : Int32} {v : Int32} {fs : List Value} (hx : hs k = some (.inr (5, fs))) (hC : Cn l w mX5_leastFolds 0 0 [.ref (wB w + k), .int a, .int b] hs n hs9 n9 (some (.int v))) : Cw l w mL_leastFolds [(0, 7, 8, 34), (0, 7, 13, 15)] 1 6 [.ref (wB w + k), .int a, .int b] hs n hs9 n9 (some (.long v.toInt64)) := by
  refine Cw.of (d := mL_leastFolds) (hh := [(0, 7, 8, 34), (0, 7, 13, 15)]) (by decide +kernel) (Nat.le_of_ble_eq_true rfl) ?_
  intro p e R s m args below meth c CX htb hN
  replace CX : Ctx p s m args meth c R w RL "leastFolds" cL_leastFolds 4 (some .long) 8 142 1 6 := CX
  show ZW p l e R s m args below meth c w 4 _ _ 0 0 (MQ below (Qn w _ _ _) args s 1 6 (wA w)) 0 [(0, .ref (wB w + k)), (1, .int _), (2, .int _)] []
  refine z_aload_n CX 0 dL_leastFolds_0 rfl rfl ?_
  refine z_iload_n CX 1 dL_leastFolds_1 rfl rfl ?_
  refine z_iload_n CX 2 dL_leastFolds_2 rfl rfl ?_
  refine z_callV1 CX dL_leastFolds_3 cv_L_82 hC hx rfl rfl (Nat.le_of_ble_eq_true rfl) ⟨Nat.le_of_ble_eq_true rfl, Nat.le_of_ble_eq_true rfl⟩ ⟨Nat.zero_le _, Nat.zero_le _⟩ ?_
  refine z_i2l CX dL_leastFolds_6 rfl ?_
  refine z_widen (k9 := 1) (n9 := 6) (by omega) (by omega) ?_
  exact z_lret CX dL_leastFolds_7 rfl rfl rfl (Or.inl rfl)
set_option maxHeartbeats 4000000 in
set_option maxRecDepth 100000 in
theorem wx_leastFolds1 {l : Launch} {w : Wt} {hs hs9 : Hs} {n : Option Nat} {k : Nat} {a : Int32} {b : Int32} {fs : List Value} (hx : hs k = some (.inr (5, fs))) (hC : Cx l w mX5_leastFolds 1 6 [.ref (wB w + k), .int a, .int b] hs n hs9 (exN 1)) : Cw l w mL_leastFolds [(0, 7, 8, 34), (0, 7, 13, 15)] 1 6 [.ref (wB w + k), .int a, .int b] hs n hs9 none (some (.long (-9000000000000000001))) := by
  refine Cw.of (d := mL_leastFolds) (hh := [(0, 7, 8, 34), (0, 7, 13, 15)]) (by decide +kernel) (Nat.le_of_ble_eq_true rfl) ?_
  intro p e R s m args below meth c CX htb hN
  replace CX : Ctx p s m args meth c R w RL "leastFolds" cL_leastFolds 4 (some .long) 8 142 1 6 := CX
  show ZW p l e R s m args below meth c w 4 _ _ 0 0 (MQ below (Qn w _ _ _) args s 1 6 (wA w)) 0 [(0, .ref (wB w + k)), (1, .int _), (2, .int _)] []
  refine z_aload_n CX 0 dL_leastFolds_0 rfl rfl ?_
  refine z_iload_n CX 1 dL_leastFolds_1 rfl rfl ?_
  refine z_iload_n CX 2 dL_leastFolds_2 rfl rfl ?_
  refine z_callVc CX htb hN (j := 1) [] [(⟨0, 7, 13, 15⟩ : ExceptionTableEntry)] ⟨0, 7, 8, 34⟩ rfl (by decide) (by decide) ⟨by omega, by omega⟩ (fun _ h => absurd h List.not_mem_nil) (wa_mem 491 (by decide +kernel) rfl) dL_leastFolds_3 cv_L_82 hC hx rfl rfl (Nat.le_of_ble_eq_true rfl) ⟨Nat.le_of_ble_eq_true rfl, Nat.le_of_ble_eq_true rfl⟩ ⟨Nat.le_of_ble_eq_true rfl, Nat.le_of_ble_eq_true rfl⟩ (fun q9 => ?_)
  refine z_astore_n CX 3 dL_leastFolds_8 rfl (by decide) ?_
  refine z_ldc2 CX (v := -9000000000000000001) dL_leastFolds_9 (wa_mem 518 (by decide +kernel) rfl) ?_
  exact z_lret CX dL_leastFolds_12 rfl rfl rfl (Or.inl rfl)
set_option maxHeartbeats 4000000 in
set_option maxRecDepth 100000 in
theorem wx_leastFolds2 {l : Launch} {w : Wt} {hs hs9 : Hs} {n : Option Nat} {k : Nat} {a : Int32} {b : Int32} {fs : List Value} (hx : hs k = some (.inr (5, fs))) (hC : Cx l w mX5_leastFolds 1 6 [.ref (wB w + k), .int a, .int b] hs n hs9 (exN 2)) : Cw l w mL_leastFolds [(0, 7, 8, 34), (0, 7, 13, 15)] 1 6 [.ref (wB w + k), .int a, .int b] hs n hs9 none (some (.long (-9000000000000000002))) := by
  refine Cw.of (d := mL_leastFolds) (hh := [(0, 7, 8, 34), (0, 7, 13, 15)]) (by decide +kernel) (Nat.le_of_ble_eq_true rfl) ?_
  intro p e R s m args below meth c CX htb hN
  replace CX : Ctx p s m args meth c R w RL "leastFolds" cL_leastFolds 4 (some .long) 8 142 1 6 := CX
  show ZW p l e R s m args below meth c w 4 _ _ 0 0 (MQ below (Qn w _ _ _) args s 1 6 (wA w)) 0 [(0, .ref (wB w + k)), (1, .int _), (2, .int _)] []
  refine z_aload_n CX 0 dL_leastFolds_0 rfl rfl ?_
  refine z_iload_n CX 1 dL_leastFolds_1 rfl rfl ?_
  refine z_iload_n CX 2 dL_leastFolds_2 rfl rfl ?_
  refine z_callVc CX htb hN (j := 2) [(⟨0, 7, 8, 34⟩ : ExceptionTableEntry)] [] ⟨0, 7, 13, 15⟩ rfl (by decide) (by decide) ⟨by omega, by omega⟩ (List.forall_mem_cons.mpr ⟨⟨by decide, 1, ⟨by omega, by omega⟩, by omega, wa_mem 491 (by decide +kernel) rfl⟩, (fun _ h => absurd h List.not_mem_nil)⟩) (wa_mem 545 (by decide +kernel) rfl) dL_leastFolds_3 cv_L_82 hC hx rfl rfl (Nat.le_of_ble_eq_true rfl) ⟨Nat.le_of_ble_eq_true rfl, Nat.le_of_ble_eq_true rfl⟩ ⟨Nat.le_of_ble_eq_true rfl, Nat.le_of_ble_eq_true rfl⟩ (fun q9 => ?_)
  refine z_astore_n CX 3 dL_leastFolds_13 rfl (by decide) ?_
  refine z_ldc2 CX (v := -9000000000000000002) dL_leastFolds_14 (wa_mem 558 (by decide +kernel) rfl) ?_
  exact z_lret CX dL_leastFolds_17 rfl rfl rfl (Or.inl rfl)
set_option maxHeartbeats 4000000 in
set_option maxRecDepth 100000 in
theorem w0_load {l : Launch} {w : Wt} {hs hs9 : Hs} {n n9 : Option Nat} {k : Nat}  {v : Int32} {fs : List Value} (hx : hs k = some (.inr (5, fs))) (hC : Cn l w mX5_load 0 0 [.ref (wB w + k)] hs n hs9 n9 (some (.int v))) : Cw l w mL_load [(0, 5, 6, 19)] 1 6 [.ref (wB w + k)] hs n hs9 n9 (some (.long v.toInt64)) := by
  refine Cw.of (d := mL_load) (hh := [(0, 5, 6, 19)]) (by decide +kernel) (Nat.le_of_ble_eq_true rfl) ?_
  intro p e R s m args below meth c CX htb hN
  replace CX : Ctx p s m args meth c R w RL "load" cL_load 2 (some .long) 8 164 1 6 := CX
  show ZW p l e R s m args below meth c w 2 _ _ 0 0 (MQ below (Qn w _ _ _) args s 1 6 (wA w)) 0 [(0, .ref (wB w + k))] []
  refine z_aload_n CX 0 dL_load_0 rfl rfl ?_
  refine z_callV1 CX dL_load_1 cv_L_23 hC hx rfl rfl (Nat.le_of_ble_eq_true rfl) ⟨Nat.le_of_ble_eq_true rfl, Nat.le_of_ble_eq_true rfl⟩ ⟨Nat.zero_le _, Nat.zero_le _⟩ ?_
  refine z_i2l CX dL_load_4 rfl ?_
  refine z_widen (k9 := 1) (n9 := 6) (by omega) (by omega) ?_
  exact z_lret CX dL_load_5 rfl rfl rfl (Or.inl rfl)
set_option maxHeartbeats 4000000 in
set_option maxRecDepth 100000 in
theorem wx_load3 {l : Launch} {w : Wt} {hs hs9 : Hs} {n : Option Nat} {k : Nat}  {fs : List Value} (hx : hs k = some (.inr (5, fs))) (hC : Cx l w mX5_load 1 6 [.ref (wB w + k)] hs n hs9 (exN 3)) : Cw l w mL_load [(0, 5, 6, 19)] 1 6 [.ref (wB w + k)] hs n hs9 none (some (.long (-9000000000000000003))) := by
  refine Cw.of (d := mL_load) (hh := [(0, 5, 6, 19)]) (by decide +kernel) (Nat.le_of_ble_eq_true rfl) ?_
  intro p e R s m args below meth c CX htb hN
  replace CX : Ctx p s m args meth c R w RL "load" cL_load 2 (some .long) 8 164 1 6 := CX
  show ZW p l e R s m args below meth c w 2 _ _ 0 0 (MQ below (Qn w _ _ _) args s 1 6 (wA w)) 0 [(0, .ref (wB w + k))] []
  refine z_aload_n CX 0 dL_load_0 rfl rfl ?_
  refine z_callVc CX htb hN (j := 3) [] [] ⟨0, 5, 6, 19⟩ rfl (by decide) (by decide) ⟨by omega, by omega⟩ (fun _ h => absurd h List.not_mem_nil) (wa_mem 182 (by decide +kernel) rfl) dL_load_1 cv_L_23 hC hx rfl rfl (Nat.le_of_ble_eq_true rfl) ⟨Nat.le_of_ble_eq_true rfl, Nat.le_of_ble_eq_true rfl⟩ ⟨Nat.le_of_ble_eq_true rfl, Nat.le_of_ble_eq_true rfl⟩ (fun q9 => ?_)
  refine z_astore_n CX 1 dL_load_6 rfl (by decide) ?_
  refine z_ldc2 CX (v := -9000000000000000003) dL_load_7 (wa_mem 487 (by decide +kernel) rfl) ?_
  exact z_lret CX dL_load_10 rfl rfl rfl (Or.inl rfl)
set_option maxHeartbeats 4000000 in
set_option maxRecDepth 100000 in
theorem w0_minutes {l : Launch} {w : Wt} {hs hs9 : Hs} {n n9 : Option Nat} {k : Nat} {a : Int32} {v : Int32} {fs : List Value} (hx : hs k = some (.inr (5, fs))) (hC : Cn l w mX5_minutes 0 0 [.ref (wB w + k), .int a] hs n hs9 n9 (some (.int v))) : Cw l w mL_minutes [(0, 6, 7, 15)] 1 6 [.ref (wB w + k), .int a] hs n hs9 n9 (some (.long v.toInt64)) := by
  refine Cw.of (d := mL_minutes) (hh := [(0, 6, 7, 15)]) (by decide +kernel) (Nat.le_of_ble_eq_true rfl) ?_
  intro p e R s m args below meth c CX htb hN
  replace CX : Ctx p s m args meth c R w RL "minutes" cL_minutes 3 (some .long) 8 151 1 6 := CX
  show ZW p l e R s m args below meth c w 3 _ _ 0 0 (MQ below (Qn w _ _ _) args s 1 6 (wA w)) 0 [(0, .ref (wB w + k)), (1, .int _)] []
  refine z_aload_n CX 0 dL_minutes_0 rfl rfl ?_
  refine z_iload_n CX 1 dL_minutes_1 rfl rfl ?_
  refine z_callV1 CX dL_minutes_2 cv_L_67 hC hx rfl rfl (Nat.le_of_ble_eq_true rfl) ⟨Nat.le_of_ble_eq_true rfl, Nat.le_of_ble_eq_true rfl⟩ ⟨Nat.zero_le _, Nat.zero_le _⟩ ?_
  refine z_i2l CX dL_minutes_5 rfl ?_
  refine z_widen (k9 := 1) (n9 := 6) (by omega) (by omega) ?_
  exact z_lret CX dL_minutes_6 rfl rfl rfl (Or.inl rfl)
set_option maxHeartbeats 4000000 in
set_option maxRecDepth 100000 in
theorem wx_minutes2 {l : Launch} {w : Wt} {hs hs9 : Hs} {n : Option Nat} {k : Nat} {a : Int32} {fs : List Value} (hx : hs k = some (.inr (5, fs))) (hC : Cx l w mX5_minutes 1 6 [.ref (wB w + k), .int a] hs n hs9 (exN 2)) : Cw l w mL_minutes [(0, 6, 7, 15)] 1 6 [.ref (wB w + k), .int a] hs n hs9 none (some (.long (-9000000000000000002))) := by
  refine Cw.of (d := mL_minutes) (hh := [(0, 6, 7, 15)]) (by decide +kernel) (Nat.le_of_ble_eq_true rfl) ?_
  intro p e R s m args below meth c CX htb hN
  replace CX : Ctx p s m args meth c R w RL "minutes" cL_minutes 3 (some .long) 8 151 1 6 := CX
  show ZW p l e R s m args below meth c w 3 _ _ 0 0 (MQ below (Qn w _ _ _) args s 1 6 (wA w)) 0 [(0, .ref (wB w + k)), (1, .int _)] []
  refine z_aload_n CX 0 dL_minutes_0 rfl rfl ?_
  refine z_iload_n CX 1 dL_minutes_1 rfl rfl ?_
  refine z_callVc CX htb hN (j := 2) [] [] ⟨0, 6, 7, 15⟩ rfl (by decide) (by decide) ⟨by omega, by omega⟩ (fun _ h => absurd h List.not_mem_nil) (wa_mem 545 (by decide +kernel) rfl) dL_minutes_2 cv_L_67 hC hx rfl rfl (Nat.le_of_ble_eq_true rfl) ⟨Nat.le_of_ble_eq_true rfl, Nat.le_of_ble_eq_true rfl⟩ ⟨Nat.le_of_ble_eq_true rfl, Nat.le_of_ble_eq_true rfl⟩ (fun q9 => ?_)
  refine z_astore_n CX 2 dL_minutes_7 rfl (by decide) ?_
  refine z_ldc2 CX (v := -9000000000000000002) dL_minutes_8 (wa_mem 558 (by decide +kernel) rfl) ?_
  exact z_lret CX dL_minutes_11 rfl rfl rfl (Or.inl rfl)
set_option maxHeartbeats 4000000 in
set_option maxRecDepth 100000 in
theorem w0_ownerOf {l : Launch} {w : Wt} {hs hs9 : Hs} {n n9 : Option Nat} {k : Nat} {a : Int32} {b : Int32} {v : Int32} {fs : List Value} (hx : hs k = some (.inr (5, fs))) (hC : Cn l w mX5_ownerOf 0 0 [.ref (wB w + k), .int a, .int b] hs n hs9 n9 (some (.int v))) : Cw l w mL_ownerOf [(0, 7, 8, 34), (0, 7, 13, 15)] 0 0 [.ref (wB w + k), .int a, .int b] hs n hs9 n9 (some (.long v.toInt64)) := by
  refine Cw.of (d := mL_ownerOf) (hh := [(0, 7, 8, 34), (0, 7, 13, 15)]) (by decide +kernel) (Nat.le_of_ble_eq_true rfl) ?_
  intro p e R s m args below meth c CX htb hN
  replace CX : Ctx p s m args meth c R w RL "ownerOf" cL_ownerOf 4 (some .long) 8 137 0 0 := CX
  show ZW p l e R s m args below meth c w 4 _ _ 0 0 (MQ below (Qn w _ _ _) args s 0 0 (wA w)) 0 [(0, .ref (wB w + k)), (1, .int _), (2, .int _)] []
  refine z_aload_n CX 0 dL_ownerOf_0 rfl rfl ?_
  refine z_iload_n CX 1 dL_ownerOf_1 rfl rfl ?_
  refine z_iload_n CX 2 dL_ownerOf_2 rfl rfl ?_
  refine z_callV1 CX dL_ownerOf_3 cv_L_41 hC hx rfl rfl (Nat.le_of_ble_eq_true rfl) ⟨Nat.le_of_ble_eq_true rfl, Nat.le_of_ble_eq_true rfl⟩ ⟨Nat.le_refl _, Nat.le_refl _⟩ ?_
  refine z_i2l CX dL_ownerOf_6 rfl ?_
  exact z_lret CX dL_ownerOf_7 rfl rfl rfl (Or.inl rfl)
set_option maxHeartbeats 4000000 in
set_option maxRecDepth 100000 in
theorem wx_ownerOf1 {l : Launch} {w : Wt} {hs hs9 : Hs} {n : Option Nat} {k : Nat} {a : Int32} {b : Int32} {fs : List Value} (hx : hs k = some (.inr (5, fs))) (hC : Cx l w mX5_ownerOf 1 6 [.ref (wB w + k), .int a, .int b] hs n hs9 (exN 1)) : Cw l w mL_ownerOf [(0, 7, 8, 34), (0, 7, 13, 15)] 1 6 [.ref (wB w + k), .int a, .int b] hs n hs9 none (some (.long (-9000000000000000001))) := by
  refine Cw.of (d := mL_ownerOf) (hh := [(0, 7, 8, 34), (0, 7, 13, 15)]) (by decide +kernel) (Nat.le_of_ble_eq_true rfl) ?_
  intro p e R s m args below meth c CX htb hN
  replace CX : Ctx p s m args meth c R w RL "ownerOf" cL_ownerOf 4 (some .long) 8 137 1 6 := CX
  show ZW p l e R s m args below meth c w 4 _ _ 0 0 (MQ below (Qn w _ _ _) args s 1 6 (wA w)) 0 [(0, .ref (wB w + k)), (1, .int _), (2, .int _)] []
  refine z_aload_n CX 0 dL_ownerOf_0 rfl rfl ?_
  refine z_iload_n CX 1 dL_ownerOf_1 rfl rfl ?_
  refine z_iload_n CX 2 dL_ownerOf_2 rfl rfl ?_
  refine z_callVc CX htb hN (j := 1) [] [(⟨0, 7, 13, 15⟩ : ExceptionTableEntry)] ⟨0, 7, 8, 34⟩ rfl (by decide) (by decide) ⟨by omega, by omega⟩ (fun _ h => absurd h List.not_mem_nil) (wa_mem 491 (by decide +kernel) rfl) dL_ownerOf_3 cv_L_41 hC hx rfl rfl (Nat.le_of_ble_eq_true rfl) ⟨Nat.le_of_ble_eq_true rfl, Nat.le_of_ble_eq_true rfl⟩ ⟨Nat.le_of_ble_eq_true rfl, Nat.le_of_ble_eq_true rfl⟩ (fun q9 => ?_)
  refine z_astore_n CX 3 dL_ownerOf_8 rfl (by decide) ?_
  refine z_ldc2 CX (v := -9000000000000000001) dL_ownerOf_9 (wa_mem 518 (by decide +kernel) rfl) ?_
  exact z_lret CX dL_ownerOf_12 rfl rfl rfl (Or.inl rfl)
set_option maxHeartbeats 4000000 in
set_option maxRecDepth 100000 in
theorem wx_ownerOf2 {l : Launch} {w : Wt} {hs hs9 : Hs} {n : Option Nat} {k : Nat} {a : Int32} {b : Int32} {fs : List Value} (hx : hs k = some (.inr (5, fs))) (hC : Cx l w mX5_ownerOf 1 6 [.ref (wB w + k), .int a, .int b] hs n hs9 (exN 2)) : Cw l w mL_ownerOf [(0, 7, 8, 34), (0, 7, 13, 15)] 1 6 [.ref (wB w + k), .int a, .int b] hs n hs9 none (some (.long (-9000000000000000002))) := by
  refine Cw.of (d := mL_ownerOf) (hh := [(0, 7, 8, 34), (0, 7, 13, 15)]) (by decide +kernel) (Nat.le_of_ble_eq_true rfl) ?_
  intro p e R s m args below meth c CX htb hN
  replace CX : Ctx p s m args meth c R w RL "ownerOf" cL_ownerOf 4 (some .long) 8 137 1 6 := CX
  show ZW p l e R s m args below meth c w 4 _ _ 0 0 (MQ below (Qn w _ _ _) args s 1 6 (wA w)) 0 [(0, .ref (wB w + k)), (1, .int _), (2, .int _)] []
  refine z_aload_n CX 0 dL_ownerOf_0 rfl rfl ?_
  refine z_iload_n CX 1 dL_ownerOf_1 rfl rfl ?_
  refine z_iload_n CX 2 dL_ownerOf_2 rfl rfl ?_
  refine z_callVc CX htb hN (j := 2) [(⟨0, 7, 8, 34⟩ : ExceptionTableEntry)] [] ⟨0, 7, 13, 15⟩ rfl (by decide) (by decide) ⟨by omega, by omega⟩ (List.forall_mem_cons.mpr ⟨⟨by decide, 1, ⟨by omega, by omega⟩, by omega, wa_mem 491 (by decide +kernel) rfl⟩, (fun _ h => absurd h List.not_mem_nil)⟩) (wa_mem 545 (by decide +kernel) rfl) dL_ownerOf_3 cv_L_41 hC hx rfl rfl (Nat.le_of_ble_eq_true rfl) ⟨Nat.le_of_ble_eq_true rfl, Nat.le_of_ble_eq_true rfl⟩ ⟨Nat.le_of_ble_eq_true rfl, Nat.le_of_ble_eq_true rfl⟩ (fun q9 => ?_)
  refine z_astore_n CX 3 dL_ownerOf_13 rfl (by decide) ?_
  refine z_ldc2 CX (v := -9000000000000000002) dL_ownerOf_14 (wa_mem 558 (by decide +kernel) rfl) ?_
  exact z_lret CX dL_ownerOf_17 rfl rfl rfl (Or.inl rfl)
set_option maxHeartbeats 4000000 in
set_option maxRecDepth 100000 in
theorem w0_restore {l : Launch} {w : Wt} {hs hs9 : Hs} {n n9 : Option Nat} {k : Nat} {a : Int32} {v : Int32} {fs : List Value} (hx : hs k = some (.inr (5, fs))) (hC : Cn l w mX5_restore 0 0 [.ref (wB w + k), .int a] hs n hs9 n9 (some (.int v))) : Cw l w mL_restore [(0, 6, 7, 34), (0, 6, 12, 19)] 1 6 [.ref (wB w + k), .int a] hs n hs9 n9 (some (.long v.toInt64)) := by
  refine Cw.of (d := mL_restore) (hh := [(0, 6, 7, 34), (0, 6, 12, 19)]) (by decide +kernel) (Nat.le_of_ble_eq_true rfl) ?_
  intro p e R s m args below meth c CX htb hN
  replace CX : Ctx p s m args meth c R w RL "restore" cL_restore 3 (some .long) 8 133 1 6 := CX
  show ZW p l e R s m args below meth c w 3 _ _ 0 0 (MQ below (Qn w _ _ _) args s 1 6 (wA w)) 0 [(0, .ref (wB w + k)), (1, .int _)] []
  refine z_aload_n CX 0 dL_restore_0 rfl rfl ?_
  refine z_iload_n CX 1 dL_restore_1 rfl rfl ?_
  refine z_callV1 CX dL_restore_2 cv_L_96 hC hx rfl rfl (Nat.le_of_ble_eq_true rfl) ⟨Nat.le_of_ble_eq_true rfl, Nat.le_of_ble_eq_true rfl⟩ ⟨Nat.zero_le _, Nat.zero_le _⟩ ?_
  refine z_i2l CX dL_restore_5 rfl ?_
  refine z_widen (k9 := 1) (n9 := 6) (by omega) (by omega) ?_
  exact z_lret CX dL_restore_6 rfl rfl rfl (Or.inl rfl)
set_option maxHeartbeats 4000000 in
set_option maxRecDepth 100000 in
theorem wx_restore1 {l : Launch} {w : Wt} {hs hs9 : Hs} {n : Option Nat} {k : Nat} {a : Int32} {fs : List Value} (hx : hs k = some (.inr (5, fs))) (hC : Cx l w mX5_restore 1 6 [.ref (wB w + k), .int a] hs n hs9 (exN 1)) : Cw l w mL_restore [(0, 6, 7, 34), (0, 6, 12, 19)] 1 6 [.ref (wB w + k), .int a] hs n hs9 none (some (.long (-9000000000000000001))) := by
  refine Cw.of (d := mL_restore) (hh := [(0, 6, 7, 34), (0, 6, 12, 19)]) (by decide +kernel) (Nat.le_of_ble_eq_true rfl) ?_
  intro p e R s m args below meth c CX htb hN
  replace CX : Ctx p s m args meth c R w RL "restore" cL_restore 3 (some .long) 8 133 1 6 := CX
  show ZW p l e R s m args below meth c w 3 _ _ 0 0 (MQ below (Qn w _ _ _) args s 1 6 (wA w)) 0 [(0, .ref (wB w + k)), (1, .int _)] []
  refine z_aload_n CX 0 dL_restore_0 rfl rfl ?_
  refine z_iload_n CX 1 dL_restore_1 rfl rfl ?_
  refine z_callVc CX htb hN (j := 1) [] [(⟨0, 6, 12, 19⟩ : ExceptionTableEntry)] ⟨0, 6, 7, 34⟩ rfl (by decide) (by decide) ⟨by omega, by omega⟩ (fun _ h => absurd h List.not_mem_nil) (wa_mem 491 (by decide +kernel) rfl) dL_restore_2 cv_L_96 hC hx rfl rfl (Nat.le_of_ble_eq_true rfl) ⟨Nat.le_of_ble_eq_true rfl, Nat.le_of_ble_eq_true rfl⟩ ⟨Nat.le_of_ble_eq_true rfl, Nat.le_of_ble_eq_true rfl⟩ (fun q9 => ?_)
  refine z_astore_n CX 2 dL_restore_7 rfl (by decide) ?_
  refine z_ldc2 CX (v := -9000000000000000001) dL_restore_8 (wa_mem 518 (by decide +kernel) rfl) ?_
  exact z_lret CX dL_restore_11 rfl rfl rfl (Or.inl rfl)
set_option maxHeartbeats 4000000 in
set_option maxRecDepth 100000 in
theorem wx_restore3 {l : Launch} {w : Wt} {hs hs9 : Hs} {n : Option Nat} {k : Nat} {a : Int32} {fs : List Value} (hx : hs k = some (.inr (5, fs))) (hC : Cx l w mX5_restore 1 6 [.ref (wB w + k), .int a] hs n hs9 (exN 3)) : Cw l w mL_restore [(0, 6, 7, 34), (0, 6, 12, 19)] 1 6 [.ref (wB w + k), .int a] hs n hs9 none (some (.long (-9000000000000000003))) := by
  refine Cw.of (d := mL_restore) (hh := [(0, 6, 7, 34), (0, 6, 12, 19)]) (by decide +kernel) (Nat.le_of_ble_eq_true rfl) ?_
  intro p e R s m args below meth c CX htb hN
  replace CX : Ctx p s m args meth c R w RL "restore" cL_restore 3 (some .long) 8 133 1 6 := CX
  show ZW p l e R s m args below meth c w 3 _ _ 0 0 (MQ below (Qn w _ _ _) args s 1 6 (wA w)) 0 [(0, .ref (wB w + k)), (1, .int _)] []
  refine z_aload_n CX 0 dL_restore_0 rfl rfl ?_
  refine z_iload_n CX 1 dL_restore_1 rfl rfl ?_
  refine z_callVc CX htb hN (j := 3) [(⟨0, 6, 7, 34⟩ : ExceptionTableEntry)] [] ⟨0, 6, 12, 19⟩ rfl (by decide) (by decide) ⟨by omega, by omega⟩ (List.forall_mem_cons.mpr ⟨⟨by decide, 1, ⟨by omega, by omega⟩, by omega, wa_mem 491 (by decide +kernel) rfl⟩, (fun _ h => absurd h List.not_mem_nil)⟩) (wa_mem 182 (by decide +kernel) rfl) dL_restore_2 cv_L_96 hC hx rfl rfl (Nat.le_of_ble_eq_true rfl) ⟨Nat.le_of_ble_eq_true rfl, Nat.le_of_ble_eq_true rfl⟩ ⟨Nat.le_of_ble_eq_true rfl, Nat.le_of_ble_eq_true rfl⟩ (fun q9 => ?_)
  refine z_astore_n CX 2 dL_restore_12 rfl (by decide) ?_
  refine z_ldc2 CX (v := -9000000000000000003) dL_restore_13 (wa_mem 487 (by decide +kernel) rfl) ?_
  exact z_lret CX dL_restore_16 rfl rfl rfl (Or.inl rfl)
set_option maxHeartbeats 4000000 in
set_option maxRecDepth 100000 in
theorem w0_save {l : Launch} {w : Wt} {hs hs9 : Hs} {n n9 : Option Nat} {k : Nat} {a : Int32} {v : Int32} {fs : List Value} (hx : hs k = some (.inr (5, fs))) (hC : Cn l w mX5_save 0 0 [.ref (wB w + k), .int a] hs n hs9 n9 (some (.int v))) : Cw l w mL_save [(0, 6, 7, 34)] 1 6 [.ref (wB w + k), .int a] hs n hs9 n9 (some (.long v.toInt64)) := by
  refine Cw.of (d := mL_save) (hh := [(0, 6, 7, 34)]) (by decide +kernel) (Nat.le_of_ble_eq_true rfl) ?_
  intro p e R s m args below meth c CX htb hN
  replace CX : Ctx p s m args meth c R w RL "save" cL_save 3 (some .long) 8 133 1 6 := CX
  show ZW p l e R s m args below meth c w 3 _ _ 0 0 (MQ below (Qn w _ _ _) args s 1 6 (wA w)) 0 [(0, .ref (wB w + k)), (1, .int _)] []
  refine z_aload_n CX 0 dL_save_0 rfl rfl ?_
  refine z_iload_n CX 1 dL_save_1 rfl rfl ?_
  refine z_callV1 CX dL_save_2 cv_L_93 hC hx rfl rfl (Nat.le_of_ble_eq_true rfl) ⟨Nat.le_of_ble_eq_true rfl, Nat.le_of_ble_eq_true rfl⟩ ⟨Nat.zero_le _, Nat.zero_le _⟩ ?_
  refine z_i2l CX dL_save_5 rfl ?_
  refine z_widen (k9 := 1) (n9 := 6) (by omega) (by omega) ?_
  exact z_lret CX dL_save_6 rfl rfl rfl (Or.inl rfl)
set_option maxHeartbeats 4000000 in
set_option maxRecDepth 100000 in
theorem wx_save1 {l : Launch} {w : Wt} {hs hs9 : Hs} {n : Option Nat} {k : Nat} {a : Int32} {fs : List Value} (hx : hs k = some (.inr (5, fs))) (hC : Cx l w mX5_save 1 6 [.ref (wB w + k), .int a] hs n hs9 (exN 1)) : Cw l w mL_save [(0, 6, 7, 34)] 1 6 [.ref (wB w + k), .int a] hs n hs9 none (some (.long (-9000000000000000001))) := by
  refine Cw.of (d := mL_save) (hh := [(0, 6, 7, 34)]) (by decide +kernel) (Nat.le_of_ble_eq_true rfl) ?_
  intro p e R s m args below meth c CX htb hN
  replace CX : Ctx p s m args meth c R w RL "save" cL_save 3 (some .long) 8 133 1 6 := CX
  show ZW p l e R s m args below meth c w 3 _ _ 0 0 (MQ below (Qn w _ _ _) args s 1 6 (wA w)) 0 [(0, .ref (wB w + k)), (1, .int _)] []
  refine z_aload_n CX 0 dL_save_0 rfl rfl ?_
  refine z_iload_n CX 1 dL_save_1 rfl rfl ?_
  refine z_callVc CX htb hN (j := 1) [] [] ⟨0, 6, 7, 34⟩ rfl (by decide) (by decide) ⟨by omega, by omega⟩ (fun _ h => absurd h List.not_mem_nil) (wa_mem 491 (by decide +kernel) rfl) dL_save_2 cv_L_93 hC hx rfl rfl (Nat.le_of_ble_eq_true rfl) ⟨Nat.le_of_ble_eq_true rfl, Nat.le_of_ble_eq_true rfl⟩ ⟨Nat.le_of_ble_eq_true rfl, Nat.le_of_ble_eq_true rfl⟩ (fun q9 => ?_)
  refine z_astore_n CX 2 dL_save_7 rfl (by decide) ?_
  refine z_ldc2 CX (v := -9000000000000000001) dL_save_8 (wa_mem 518 (by decide +kernel) rfl) ?_
  exact z_lret CX dL_save_11 rfl rfl rfl (Or.inl rfl)
set_option maxHeartbeats 4000000 in
set_option maxRecDepth 100000 in
theorem w0_script {l : Launch} {w : Wt} {hs hs9 : Hs} {n n9 : Option Nat} {k : Nat} {a : Int32} {b : Int64} {v : Int32} {fs : List Value} (hx : hs k = some (.inr (5, fs))) (hC : Cn l w mX5_runScript 0 0 [.ref (wB w + k), .int a, .long b] hs n hs9 n9 (some (.int v))) : Cw l w mL_script [(0, 7, 8, 15)] 1 6 [.ref (wB w + k), .int a, .long b] hs n hs9 n9 (some (.long v.toInt64)) := by
  refine Cw.of (d := mL_script) (hh := [(0, 7, 8, 15)]) (by decide +kernel) (Nat.le_of_ble_eq_true rfl) ?_
  intro p e R s m args below meth c CX htb hN
  replace CX : Ctx p s m args meth c R w RL "script" cL_script 5 (some .long) 8 171 1 6 := CX
  show ZW p l e R s m args below meth c w 5 _ _ 0 0 (MQ below (Qn w _ _ _) args s 1 6 (wA w)) 0 [(0, .ref (wB w + k)), (1, .int _), (2, .long _)] []
  refine z_aload_n CX 0 dL_script_0 rfl rfl ?_
  refine z_iload_n CX 1 dL_script_1 rfl rfl ?_
  refine z_lload_n CX 2 dL_script_2 rfl rfl ?_
  refine z_callV1 CX dL_script_3 cv_L_85 hC hx rfl rfl (Nat.le_of_ble_eq_true rfl) ⟨Nat.le_of_ble_eq_true rfl, Nat.le_of_ble_eq_true rfl⟩ ⟨Nat.zero_le _, Nat.zero_le _⟩ ?_
  refine z_i2l CX dL_script_6 rfl ?_
  refine z_widen (k9 := 1) (n9 := 6) (by omega) (by omega) ?_
  exact z_lret CX dL_script_7 rfl rfl rfl (Or.inl rfl)
set_option maxHeartbeats 4000000 in
set_option maxRecDepth 100000 in
theorem wx_script2 {l : Launch} {w : Wt} {hs hs9 : Hs} {n : Option Nat} {k : Nat} {a : Int32} {b : Int64} {fs : List Value} (hx : hs k = some (.inr (5, fs))) (hC : Cx l w mX5_runScript 1 6 [.ref (wB w + k), .int a, .long b] hs n hs9 (exN 2)) : Cw l w mL_script [(0, 7, 8, 15)] 1 6 [.ref (wB w + k), .int a, .long b] hs n hs9 none (some (.long (-9000000000000000002))) := by
  refine Cw.of (d := mL_script) (hh := [(0, 7, 8, 15)]) (by decide +kernel) (Nat.le_of_ble_eq_true rfl) ?_
  intro p e R s m args below meth c CX htb hN
  replace CX : Ctx p s m args meth c R w RL "script" cL_script 5 (some .long) 8 171 1 6 := CX
  show ZW p l e R s m args below meth c w 5 _ _ 0 0 (MQ below (Qn w _ _ _) args s 1 6 (wA w)) 0 [(0, .ref (wB w + k)), (1, .int _), (2, .long _)] []
  refine z_aload_n CX 0 dL_script_0 rfl rfl ?_
  refine z_iload_n CX 1 dL_script_1 rfl rfl ?_
  refine z_lload_n CX 2 dL_script_2 rfl rfl ?_
  refine z_callVc CX htb hN (j := 2) [] [] ⟨0, 7, 8, 15⟩ rfl (by decide) (by decide) ⟨by omega, by omega⟩ (fun _ h => absurd h List.not_mem_nil) (wa_mem 545 (by decide +kernel) rfl) dL_script_3 cv_L_85 hC hx rfl rfl (Nat.le_of_ble_eq_true rfl) ⟨Nat.le_of_ble_eq_true rfl, Nat.le_of_ble_eq_true rfl⟩ ⟨Nat.le_of_ble_eq_true rfl, Nat.le_of_ble_eq_true rfl⟩ (fun q9 => ?_)
  refine z_astore CX dL_script_8 (by decide) ?_
  refine z_ldc2 CX (v := -9000000000000000002) dL_script_10 (wa_mem 558 (by decide +kernel) rfl) ?_
  exact z_lret CX dL_script_13 rfl rfl rfl (Or.inl rfl)
set_option maxHeartbeats 4000000 in
set_option maxRecDepth 100000 in
theorem w0_set {l : Launch} {w : Wt} {hs hs9 : Hs} {n n9 : Option Nat} {k : Nat} {a : Int32} {b : Int32} {v : Int32} {fs : List Value} (hx : hs k = some (.inr (5, fs))) (hC : Cn l w mX5_set 0 0 [.ref (wB w + k), .int a, .int b] hs n hs9 n9 (some (.int v))) : Cw l w mL_set [(0, 7, 8, 15)] 1 6 [.ref (wB w + k), .int a, .int b] hs n hs9 n9 (some (.long v.toInt64)) := by
  refine Cw.of (d := mL_set) (hh := [(0, 7, 8, 15)]) (by decide +kernel) (Nat.le_of_ble_eq_true rfl) ?_
  intro p e R s m args below meth c CX htb hN
  replace CX : Ctx p s m args meth c R w RL "set" cL_set 4 (some .long) 8 152 1 6 := CX
  show ZW p l e R s m args below meth c w 4 _ _ 0 0 (MQ below (Qn w _ _ _) args s 1 6 (wA w)) 0 [(0, .ref (wB w + k)), (1, .int _), (2, .int _)] []
  refine z_aload_n CX 0 dL_set_0 rfl rfl ?_
  refine z_iload_n CX 1 dL_set_1 rfl rfl ?_
  refine z_iload_n CX 2 dL_set_2 rfl rfl ?_
  refine z_callV1 CX dL_set_3 cv_L_70 hC hx rfl rfl (Nat.le_of_ble_eq_true rfl) ⟨Nat.le_of_ble_eq_true rfl, Nat.le_of_ble_eq_true rfl⟩ ⟨Nat.zero_le _, Nat.zero_le _⟩ ?_
  refine z_i2l CX dL_set_6 rfl ?_
  refine z_widen (k9 := 1) (n9 := 6) (by omega) (by omega) ?_
  exact z_lret CX dL_set_7 rfl rfl rfl (Or.inl rfl)
set_option maxHeartbeats 4000000 in
set_option maxRecDepth 100000 in
theorem wx_set2 {l : Launch} {w : Wt} {hs hs9 : Hs} {n : Option Nat} {k : Nat} {a : Int32} {b : Int32} {fs : List Value} (hx : hs k = some (.inr (5, fs))) (hC : Cx l w mX5_set 1 6 [.ref (wB w + k), .int a, .int b] hs n hs9 (exN 2)) : Cw l w mL_set [(0, 7, 8, 15)] 1 6 [.ref (wB w + k), .int a, .int b] hs n hs9 none (some (.long (-9000000000000000002))) := by
  refine Cw.of (d := mL_set) (hh := [(0, 7, 8, 15)]) (by decide +kernel) (Nat.le_of_ble_eq_true rfl) ?_
  intro p e R s m args below meth c CX htb hN
  replace CX : Ctx p s m args meth c R w RL "set" cL_set 4 (some .long) 8 152 1 6 := CX
  show ZW p l e R s m args below meth c w 4 _ _ 0 0 (MQ below (Qn w _ _ _) args s 1 6 (wA w)) 0 [(0, .ref (wB w + k)), (1, .int _), (2, .int _)] []
  refine z_aload_n CX 0 dL_set_0 rfl rfl ?_
  refine z_iload_n CX 1 dL_set_1 rfl rfl ?_
  refine z_iload_n CX 2 dL_set_2 rfl rfl ?_
  refine z_callVc CX htb hN (j := 2) [] [] ⟨0, 7, 8, 15⟩ rfl (by decide) (by decide) ⟨by omega, by omega⟩ (fun _ h => absurd h List.not_mem_nil) (wa_mem 545 (by decide +kernel) rfl) dL_set_3 cv_L_70 hC hx rfl rfl (Nat.le_of_ble_eq_true rfl) ⟨Nat.le_of_ble_eq_true rfl, Nat.le_of_ble_eq_true rfl⟩ ⟨Nat.le_of_ble_eq_true rfl, Nat.le_of_ble_eq_true rfl⟩ (fun q9 => ?_)
  refine z_astore_n CX 3 dL_set_8 rfl (by decide) ?_
  refine z_ldc2 CX (v := -9000000000000000002) dL_set_9 (wa_mem 558 (by decide +kernel) rfl) ?_
  exact z_lret CX dL_set_12 rfl rfl rfl (Or.inl rfl)
set_option maxHeartbeats 4000000 in
set_option maxRecDepth 100000 in
theorem w0_setting {l : Launch} {w : Wt} {hs hs9 : Hs} {n n9 : Option Nat} {k : Nat} {a : Int32} {v : Int32} {fs : List Value} (hx : hs k = some (.inr (5, fs))) (hC : Cn l w mX5_setting 0 0 [.ref (wB w + k), .int a] hs n hs9 n9 (some (.int v))) : Cw l w mL_setting [(0, 6, 7, 15)] 0 0 [.ref (wB w + k), .int a] hs n hs9 n9 (some (.long v.toInt64)) := by
  refine Cw.of (d := mL_setting) (hh := [(0, 6, 7, 15)]) (by decide +kernel) (Nat.le_of_ble_eq_true rfl) ?_
  intro p e R s m args below meth c CX htb hN
  replace CX : Ctx p s m args meth c R w RL "setting" cL_setting 3 (some .long) 8 133 0 0 := CX
  show ZW p l e R s m args below meth c w 3 _ _ 0 0 (MQ below (Qn w _ _ _) args s 0 0 (wA w)) 0 [(0, .ref (wB w + k)), (1, .int _)] []
  refine z_aload_n CX 0 dL_setting_0 rfl rfl ?_
  refine z_iload_n CX 1 dL_setting_1 rfl rfl ?_
  refine z_callV1 CX dL_setting_2 cv_L_48 hC hx rfl rfl (Nat.le_of_ble_eq_true rfl) ⟨Nat.le_of_ble_eq_true rfl, Nat.le_of_ble_eq_true rfl⟩ ⟨Nat.le_refl _, Nat.le_refl _⟩ ?_
  refine z_i2l CX dL_setting_5 rfl ?_
  exact z_lret CX dL_setting_6 rfl rfl rfl (Or.inl rfl)
set_option maxHeartbeats 4000000 in
set_option maxRecDepth 100000 in
theorem wx_setting2 {l : Launch} {w : Wt} {hs hs9 : Hs} {n : Option Nat} {k : Nat} {a : Int32} {fs : List Value} (hx : hs k = some (.inr (5, fs))) (hC : Cx l w mX5_setting 1 6 [.ref (wB w + k), .int a] hs n hs9 (exN 2)) : Cw l w mL_setting [(0, 6, 7, 15)] 1 6 [.ref (wB w + k), .int a] hs n hs9 none (some (.long (-9000000000000000002))) := by
  refine Cw.of (d := mL_setting) (hh := [(0, 6, 7, 15)]) (by decide +kernel) (Nat.le_of_ble_eq_true rfl) ?_
  intro p e R s m args below meth c CX htb hN
  replace CX : Ctx p s m args meth c R w RL "setting" cL_setting 3 (some .long) 8 133 1 6 := CX
  show ZW p l e R s m args below meth c w 3 _ _ 0 0 (MQ below (Qn w _ _ _) args s 1 6 (wA w)) 0 [(0, .ref (wB w + k)), (1, .int _)] []
  refine z_aload_n CX 0 dL_setting_0 rfl rfl ?_
  refine z_iload_n CX 1 dL_setting_1 rfl rfl ?_
  refine z_callVc CX htb hN (j := 2) [] [] ⟨0, 6, 7, 15⟩ rfl (by decide) (by decide) ⟨by omega, by omega⟩ (fun _ h => absurd h List.not_mem_nil) (wa_mem 545 (by decide +kernel) rfl) dL_setting_2 cv_L_48 hC hx rfl rfl (Nat.le_of_ble_eq_true rfl) ⟨Nat.le_of_ble_eq_true rfl, Nat.le_of_ble_eq_true rfl⟩ ⟨Nat.le_of_ble_eq_true rfl, Nat.le_of_ble_eq_true rfl⟩ (fun q9 => ?_)
  refine z_astore_n CX 2 dL_setting_7 rfl (by decide) ?_
  refine z_ldc2 CX (v := -9000000000000000002) dL_setting_8 (wa_mem 558 (by decide +kernel) rfl) ?_
  exact z_lret CX dL_setting_11 rfl rfl rfl (Or.inl rfl)
set_option maxHeartbeats 4000000 in
set_option maxRecDepth 100000 in
theorem w0_simulate {l : Launch} {w : Wt} {hs hs9 : Hs} {n n9 : Option Nat} {k : Nat} {a : Int64} {b : Int32} {v : Int32} {fs : List Value} (hx : hs k = some (.inr (5, fs))) (hC : Cn l w mX5_simulate 0 0 [.ref (wB w + k), .long a, .int b] hs n hs9 n9 (some (.int v))) : Cw l w mL_simulate [(0, 7, 8, 15)] 1 6 [.ref (wB w + k), .long a, .int b] hs n hs9 n9 (some (.long v.toInt64)) := by
  refine Cw.of (d := mL_simulate) (hh := [(0, 7, 8, 15)]) (by decide +kernel) (Nat.le_of_ble_eq_true rfl) ?_
  intro p e R s m args below meth c CX htb hN
  replace CX : Ctx p s m args meth c R w RL "simulate" cL_simulate 5 (some .long) 8 169 1 6 := CX
  show ZW p l e R s m args below meth c w 5 _ _ 0 0 (MQ below (Qn w _ _ _) args s 1 6 (wA w)) 0 [(0, .ref (wB w + k)), (1, .long _), (3, .int _)] []
  refine z_aload_n CX 0 dL_simulate_0 rfl rfl ?_
  refine z_lload_n CX 1 dL_simulate_1 rfl rfl ?_
  refine z_iload_n CX 3 dL_simulate_2 rfl rfl ?_
  refine z_callV1 CX dL_simulate_3 cv_L_89 hC hx rfl rfl (Nat.le_of_ble_eq_true rfl) ⟨Nat.le_of_ble_eq_true rfl, Nat.le_of_ble_eq_true rfl⟩ ⟨Nat.zero_le _, Nat.zero_le _⟩ ?_
  refine z_i2l CX dL_simulate_6 rfl ?_
  refine z_widen (k9 := 1) (n9 := 6) (by omega) (by omega) ?_
  exact z_lret CX dL_simulate_7 rfl rfl rfl (Or.inl rfl)
set_option maxHeartbeats 4000000 in
set_option maxRecDepth 100000 in
theorem wx_simulate2 {l : Launch} {w : Wt} {hs hs9 : Hs} {n : Option Nat} {k : Nat} {a : Int64} {b : Int32} {fs : List Value} (hx : hs k = some (.inr (5, fs))) (hC : Cx l w mX5_simulate 1 6 [.ref (wB w + k), .long a, .int b] hs n hs9 (exN 2)) : Cw l w mL_simulate [(0, 7, 8, 15)] 1 6 [.ref (wB w + k), .long a, .int b] hs n hs9 none (some (.long (-9000000000000000002))) := by
  refine Cw.of (d := mL_simulate) (hh := [(0, 7, 8, 15)]) (by decide +kernel) (Nat.le_of_ble_eq_true rfl) ?_
  intro p e R s m args below meth c CX htb hN
  replace CX : Ctx p s m args meth c R w RL "simulate" cL_simulate 5 (some .long) 8 169 1 6 := CX
  show ZW p l e R s m args below meth c w 5 _ _ 0 0 (MQ below (Qn w _ _ _) args s 1 6 (wA w)) 0 [(0, .ref (wB w + k)), (1, .long _), (3, .int _)] []
  refine z_aload_n CX 0 dL_simulate_0 rfl rfl ?_
  refine z_lload_n CX 1 dL_simulate_1 rfl rfl ?_
  refine z_iload_n CX 3 dL_simulate_2 rfl rfl ?_
  refine z_callVc CX htb hN (j := 2) [] [] ⟨0, 7, 8, 15⟩ rfl (by decide) (by decide) ⟨by omega, by omega⟩ (fun _ h => absurd h List.not_mem_nil) (wa_mem 545 (by decide +kernel) rfl) dL_simulate_3 cv_L_89 hC hx rfl rfl (Nat.le_of_ble_eq_true rfl) ⟨Nat.le_of_ble_eq_true rfl, Nat.le_of_ble_eq_true rfl⟩ ⟨Nat.le_of_ble_eq_true rfl, Nat.le_of_ble_eq_true rfl⟩ (fun q9 => ?_)
  refine z_astore CX dL_simulate_8 (by decide) ?_
  refine z_ldc2 CX (v := -9000000000000000002) dL_simulate_10 (wa_mem 558 (by decide +kernel) rfl) ?_
  exact z_lret CX dL_simulate_13 rfl rfl rfl (Or.inl rfl)
set_option maxHeartbeats 4000000 in
set_option maxRecDepth 100000 in
theorem w0_undo {l : Launch} {w : Wt} {hs hs9 : Hs} {n n9 : Option Nat} {k : Nat}  {v : Int32} {fs : List Value} (hx : hs k = some (.inr (5, fs))) (hC : Cn l w mX5_undo 0 0 [.ref (wB w + k)] hs n hs9 n9 (some (.int v))) : Cw l w mL_undo [(0, 5, 6, 19)] 1 6 [.ref (wB w + k)] hs n hs9 n9 (some (.long v.toInt64)) := by
  refine Cw.of (d := mL_undo) (hh := [(0, 5, 6, 19)]) (by decide +kernel) (Nat.le_of_ble_eq_true rfl) ?_
  intro p e R s m args below meth c CX htb hN
  replace CX : Ctx p s m args meth c R w RL "undo" cL_undo 2 (some .long) 8 150 1 6 := CX
  show ZW p l e R s m args below meth c w 2 _ _ 0 0 (MQ below (Qn w _ _ _) args s 1 6 (wA w)) 0 [(0, .ref (wB w + k))] []
  refine z_aload_n CX 0 dL_undo_0 rfl rfl ?_
  refine z_callV1 CX dL_undo_1 cv_L_73 hC hx rfl rfl (Nat.le_of_ble_eq_true rfl) ⟨Nat.le_of_ble_eq_true rfl, Nat.le_of_ble_eq_true rfl⟩ ⟨Nat.zero_le _, Nat.zero_le _⟩ ?_
  refine z_i2l CX dL_undo_4 rfl ?_
  refine z_widen (k9 := 1) (n9 := 6) (by omega) (by omega) ?_
  exact z_lret CX dL_undo_5 rfl rfl rfl (Or.inl rfl)
set_option maxHeartbeats 4000000 in
set_option maxRecDepth 100000 in
theorem wx_undo3 {l : Launch} {w : Wt} {hs hs9 : Hs} {n : Option Nat} {k : Nat}  {fs : List Value} (hx : hs k = some (.inr (5, fs))) (hC : Cx l w mX5_undo 1 6 [.ref (wB w + k)] hs n hs9 (exN 3)) : Cw l w mL_undo [(0, 5, 6, 19)] 1 6 [.ref (wB w + k)] hs n hs9 none (some (.long (-9000000000000000003))) := by
  refine Cw.of (d := mL_undo) (hh := [(0, 5, 6, 19)]) (by decide +kernel) (Nat.le_of_ble_eq_true rfl) ?_
  intro p e R s m args below meth c CX htb hN
  replace CX : Ctx p s m args meth c R w RL "undo" cL_undo 2 (some .long) 8 150 1 6 := CX
  show ZW p l e R s m args below meth c w 2 _ _ 0 0 (MQ below (Qn w _ _ _) args s 1 6 (wA w)) 0 [(0, .ref (wB w + k))] []
  refine z_aload_n CX 0 dL_undo_0 rfl rfl ?_
  refine z_callVc CX htb hN (j := 3) [] [] ⟨0, 5, 6, 19⟩ rfl (by decide) (by decide) ⟨by omega, by omega⟩ (fun _ h => absurd h List.not_mem_nil) (wa_mem 182 (by decide +kernel) rfl) dL_undo_1 cv_L_73 hC hx rfl rfl (Nat.le_of_ble_eq_true rfl) ⟨Nat.le_of_ble_eq_true rfl, Nat.le_of_ble_eq_true rfl⟩ ⟨Nat.le_of_ble_eq_true rfl, Nat.le_of_ble_eq_true rfl⟩ (fun q9 => ?_)
  refine z_astore_n CX 1 dL_undo_6 rfl (by decide) ?_
  refine z_ldc2 CX (v := -9000000000000000003) dL_undo_7 (wa_mem 487 (by decide +kernel) rfl) ?_
  exact z_lret CX dL_undo_10 rfl rfl rfl (Or.inl rfl)
set_option maxHeartbeats 4000000 in
set_option maxRecDepth 100000 in
theorem w0_way {l : Launch} {w : Wt} {hs hs9 : Hs} {n n9 : Option Nat} {k : Nat} {a : Int32} {b : Int32} {c : Int32} {v : Int32} {fs : List Value} (hx : hs k = some (.inr (5, fs))) (hC : Cn l w mX5_way 0 0 [.ref (wB w + k), .int a, .int b, .int c] hs n hs9 n9 (some (.int v))) : Cw l w mL_way [(0, 8, 9, 34), (0, 8, 15, 15)] 0 0 [.ref (wB w + k), .int a, .int b, .int c] hs n hs9 n9 (some (.long v.toInt64)) := by
  refine Cw.of (d := mL_way) (hh := [(0, 8, 9, 34), (0, 8, 15, 15)]) (by decide +kernel) (Nat.le_of_ble_eq_true rfl) ?_
  intro p e R s m args below meth c CX htb hN
  replace CX : Ctx p s m args meth c R w RL "way" cL_way 5 (some .long) 8 135 0 0 := CX
  show ZW p l e R s m args below meth c w 5 _ _ 0 0 (MQ below (Qn w _ _ _) args s 0 0 (wA w)) 0 [(0, .ref (wB w + k)), (1, .int _), (2, .int _), (3, .int _)] []
  refine z_aload_n CX 0 dL_way_0 rfl rfl ?_
  refine z_iload_n CX 1 dL_way_1 rfl rfl ?_
  refine z_iload_n CX 2 dL_way_2 rfl rfl ?_
  refine z_iload_n CX 3 dL_way_3 rfl rfl ?_
  refine z_callV1 CX dL_way_4 cv_L_44 hC hx rfl rfl (Nat.le_of_ble_eq_true rfl) ⟨Nat.le_of_ble_eq_true rfl, Nat.le_of_ble_eq_true rfl⟩ ⟨Nat.le_refl _, Nat.le_refl _⟩ ?_
  refine z_i2l CX dL_way_7 rfl ?_
  exact z_lret CX dL_way_8 rfl rfl rfl (Or.inl rfl)
set_option maxHeartbeats 4000000 in
set_option maxRecDepth 100000 in
theorem wx_way1 {l : Launch} {w : Wt} {hs hs9 : Hs} {n : Option Nat} {k : Nat} {a : Int32} {b : Int32} {c : Int32} {fs : List Value} (hx : hs k = some (.inr (5, fs))) (hC : Cx l w mX5_way 1 6 [.ref (wB w + k), .int a, .int b, .int c] hs n hs9 (exN 1)) : Cw l w mL_way [(0, 8, 9, 34), (0, 8, 15, 15)] 1 6 [.ref (wB w + k), .int a, .int b, .int c] hs n hs9 none (some (.long (-9000000000000000001))) := by
  refine Cw.of (d := mL_way) (hh := [(0, 8, 9, 34), (0, 8, 15, 15)]) (by decide +kernel) (Nat.le_of_ble_eq_true rfl) ?_
  intro p e R s m args below meth c CX htb hN
  replace CX : Ctx p s m args meth c R w RL "way" cL_way 5 (some .long) 8 135 1 6 := CX
  show ZW p l e R s m args below meth c w 5 _ _ 0 0 (MQ below (Qn w _ _ _) args s 1 6 (wA w)) 0 [(0, .ref (wB w + k)), (1, .int _), (2, .int _), (3, .int _)] []
  refine z_aload_n CX 0 dL_way_0 rfl rfl ?_
  refine z_iload_n CX 1 dL_way_1 rfl rfl ?_
  refine z_iload_n CX 2 dL_way_2 rfl rfl ?_
  refine z_iload_n CX 3 dL_way_3 rfl rfl ?_
  refine z_callVc CX htb hN (j := 1) [] [(⟨0, 8, 15, 15⟩ : ExceptionTableEntry)] ⟨0, 8, 9, 34⟩ rfl (by decide) (by decide) ⟨by omega, by omega⟩ (fun _ h => absurd h List.not_mem_nil) (wa_mem 491 (by decide +kernel) rfl) dL_way_4 cv_L_44 hC hx rfl rfl (Nat.le_of_ble_eq_true rfl) ⟨Nat.le_of_ble_eq_true rfl, Nat.le_of_ble_eq_true rfl⟩ ⟨Nat.le_of_ble_eq_true rfl, Nat.le_of_ble_eq_true rfl⟩ (fun q9 => ?_)
  refine z_astore CX dL_way_9 (by decide) ?_
  refine z_ldc2 CX (v := -9000000000000000001) dL_way_11 (wa_mem 518 (by decide +kernel) rfl) ?_
  exact z_lret CX dL_way_14 rfl rfl rfl (Or.inl rfl)
set_option maxHeartbeats 4000000 in
set_option maxRecDepth 100000 in
theorem wx_way2 {l : Launch} {w : Wt} {hs hs9 : Hs} {n : Option Nat} {k : Nat} {a : Int32} {b : Int32} {c : Int32} {fs : List Value} (hx : hs k = some (.inr (5, fs))) (hC : Cx l w mX5_way 1 6 [.ref (wB w + k), .int a, .int b, .int c] hs n hs9 (exN 2)) : Cw l w mL_way [(0, 8, 9, 34), (0, 8, 15, 15)] 1 6 [.ref (wB w + k), .int a, .int b, .int c] hs n hs9 none (some (.long (-9000000000000000002))) := by
  refine Cw.of (d := mL_way) (hh := [(0, 8, 9, 34), (0, 8, 15, 15)]) (by decide +kernel) (Nat.le_of_ble_eq_true rfl) ?_
  intro p e R s m args below meth c CX htb hN
  replace CX : Ctx p s m args meth c R w RL "way" cL_way 5 (some .long) 8 135 1 6 := CX
  show ZW p l e R s m args below meth c w 5 _ _ 0 0 (MQ below (Qn w _ _ _) args s 1 6 (wA w)) 0 [(0, .ref (wB w + k)), (1, .int _), (2, .int _), (3, .int _)] []
  refine z_aload_n CX 0 dL_way_0 rfl rfl ?_
  refine z_iload_n CX 1 dL_way_1 rfl rfl ?_
  refine z_iload_n CX 2 dL_way_2 rfl rfl ?_
  refine z_iload_n CX 3 dL_way_3 rfl rfl ?_
  refine z_callVc CX htb hN (j := 2) [(⟨0, 8, 9, 34⟩ : ExceptionTableEntry)] [] ⟨0, 8, 15, 15⟩ rfl (by decide) (by decide) ⟨by omega, by omega⟩ (List.forall_mem_cons.mpr ⟨⟨by decide, 1, ⟨by omega, by omega⟩, by omega, wa_mem 491 (by decide +kernel) rfl⟩, (fun _ h => absurd h List.not_mem_nil)⟩) (wa_mem 545 (by decide +kernel) rfl) dL_way_4 cv_L_44 hC hx rfl rfl (Nat.le_of_ble_eq_true rfl) ⟨Nat.le_of_ble_eq_true rfl, Nat.le_of_ble_eq_true rfl⟩ ⟨Nat.le_of_ble_eq_true rfl, Nat.le_of_ble_eq_true rfl⟩ (fun q9 => ?_)
  refine z_astore CX dL_way_15 (by decide) ?_
  refine z_ldc2 CX (v := -9000000000000000002) dL_way_17 (wa_mem 558 (by decide +kernel) rfl) ?_
  exact z_lret CX dL_way_20 rfl rfl rfl (Or.inl rfl)
set_option maxHeartbeats 4000000 in
set_option maxRecDepth 100000 in
theorem w0_why {l : Launch} {w : Wt} {hs hs9 : Hs} {n n9 : Option Nat} {k : Nat} {a : Int32} {b : Int32} {v : Int32} {fs : List Value} (hx : hs k = some (.inr (5, fs))) (hC : Cn l w mX5_why 0 0 [.ref (wB w + k), .int a, .int b] hs n hs9 n9 (some (.int v))) : Cw l w mL_why [(0, 7, 8, 34)] 1 6 [.ref (wB w + k), .int a, .int b] hs n hs9 n9 (some (.long v.toInt64)) := by
  refine Cw.of (d := mL_why) (hh := [(0, 7, 8, 34)]) (by decide +kernel) (Nat.le_of_ble_eq_true rfl) ?_
  intro p e R s m args below meth c CX htb hN
  replace CX : Ctx p s m args meth c R w RL "why" cL_why 4 (some .long) 8 134 1 6 := CX
  show ZW p l e R s m args below meth c w 4 _ _ 0 0 (MQ below (Qn w _ _ _) args s 1 6 (wA w)) 0 [(0, .ref (wB w + k)), (1, .int _), (2, .int _)] []
  refine z_aload_n CX 0 dL_why_0 rfl rfl ?_
  refine z_iload_n CX 1 dL_why_1 rfl rfl ?_
  refine z_iload_n CX 2 dL_why_2 rfl rfl ?_
  refine z_callV1 CX dL_why_3 cv_L_76 hC hx rfl rfl (Nat.le_of_ble_eq_true rfl) ⟨Nat.le_of_ble_eq_true rfl, Nat.le_of_ble_eq_true rfl⟩ ⟨Nat.zero_le _, Nat.zero_le _⟩ ?_
  refine z_i2l CX dL_why_6 rfl ?_
  refine z_widen (k9 := 1) (n9 := 6) (by omega) (by omega) ?_
  exact z_lret CX dL_why_7 rfl rfl rfl (Or.inl rfl)
set_option maxHeartbeats 4000000 in
set_option maxRecDepth 100000 in
theorem wx_why1 {l : Launch} {w : Wt} {hs hs9 : Hs} {n : Option Nat} {k : Nat} {a : Int32} {b : Int32} {fs : List Value} (hx : hs k = some (.inr (5, fs))) (hC : Cx l w mX5_why 1 6 [.ref (wB w + k), .int a, .int b] hs n hs9 (exN 1)) : Cw l w mL_why [(0, 7, 8, 34)] 1 6 [.ref (wB w + k), .int a, .int b] hs n hs9 none (some (.long (-9000000000000000001))) := by
  refine Cw.of (d := mL_why) (hh := [(0, 7, 8, 34)]) (by decide +kernel) (Nat.le_of_ble_eq_true rfl) ?_
  intro p e R s m args below meth c CX htb hN
  replace CX : Ctx p s m args meth c R w RL "why" cL_why 4 (some .long) 8 134 1 6 := CX
  show ZW p l e R s m args below meth c w 4 _ _ 0 0 (MQ below (Qn w _ _ _) args s 1 6 (wA w)) 0 [(0, .ref (wB w + k)), (1, .int _), (2, .int _)] []
  refine z_aload_n CX 0 dL_why_0 rfl rfl ?_
  refine z_iload_n CX 1 dL_why_1 rfl rfl ?_
  refine z_iload_n CX 2 dL_why_2 rfl rfl ?_
  refine z_callVc CX htb hN (j := 1) [] [] ⟨0, 7, 8, 34⟩ rfl (by decide) (by decide) ⟨by omega, by omega⟩ (fun _ h => absurd h List.not_mem_nil) (wa_mem 491 (by decide +kernel) rfl) dL_why_3 cv_L_76 hC hx rfl rfl (Nat.le_of_ble_eq_true rfl) ⟨Nat.le_of_ble_eq_true rfl, Nat.le_of_ble_eq_true rfl⟩ ⟨Nat.le_of_ble_eq_true rfl, Nat.le_of_ble_eq_true rfl⟩ (fun q9 => ?_)
  refine z_astore_n CX 3 dL_why_8 rfl (by decide) ?_
  refine z_ldc2 CX (v := -9000000000000000001) dL_why_9 (wa_mem 518 (by decide +kernel) rfl) ?_
  exact z_lret CX dL_why_12 rfl rfl rfl (Or.inl rfl)
