/-! the law: its script, its wrappers called, its cases -/
section
variable {p : Program} {l : Launch} {e : Env} {R : Room} {s : State} {m : MethodId} {args : Array Value} {below : List Frame} {meth : Method} {c : Code} {w : Wt} {own nm : String} {cc : ByteArray} {nL : Nat} {rt : Option FieldType} {fr lo mc ms : Nat} {hs : Hs} {n : Option Nat} {cells slots : Nat} {Q : State → Prop} {pc : Nat} {lv : List (Nat × Value)} {st : List Value}
def SX (b L : Nat) (xs : Nat → Int32) (w : Wt) (s : State) : Prop := va_X b L xs s s.heap ∧ b < s.heap.size ∧ wB w = s.heap.size ∧ L ≤ 2560
theorem z_sl (C : Ctx p s m args meth c R w own nm cc nL rt fr lo mc ms) {b L : Nat} {xs : Nat → Int32} (hX : SX b L xs w s) {j : Nat} {x : Int32} (d : decode cc pc = .ok (.iaload, 1)) (hx : x = nI j) (hj : j < L) (K : ZW p l e R s m args below meth c w nL hs n cells slots Q (pc + 1) lv (.int (xs j) :: st)) : ZW p l e R s m args below meth c w nL hs n cells slots Q pc lv (.int x :: .ref b :: st) := by
  subst hx
  intro H locs ls hP hS hl
  obtain ⟨x1, x2, x3, x4⟩ := hX
  refine va_sld C.1 C.2.1 x1 x2 (show ¬ wB w ≤ b by omega) hS (vp_in_nI hj (by omega)) d ?_
  rw [nI_clamp (by omega)]
  exact K H locs ls hP hS hl
theorem z_slen (C : Ctx p s m args meth c R w own nm cc nL rt fr lo mc ms) {b L : Nat} {xs : Nat → Int32} (hX : SX b L xs w s) (d : decode cc pc = .ok (.arraylength, 1)) (K : ZW p l e R s m args below meth c w nL hs n cells slots Q (pc + 1) lv (.int (nI L) :: st)) : ZW p l e R s m args below meth c w nL hs n cells slots Q pc lv (.ref b :: st) := by
  intro H locs ls hP hS hl
  obtain ⟨x1, x2, x3, x4⟩ := hX
  exact va_slen C.1 C.2.1 x1 x2 (show ¬ wB w ≤ b by omega) hS d (K H locs ls hP hS hl)
def CSw (own : String) (ix na : Nat) (d : MD) (hh : HT) : Prop := Cond.methodLink own ix d.1 ∈ WA ∧ Cond.static d.1 ∈ WA ∧ Cond.initialized d.1.cls ∈ WA ∧ Cond.codeWith d.1 d.2.1 d.2.2.1 d.2.2.2.1 hh ∈ WA ∧ (d.1.cls ≠ "java/lang/invoke/MethodHandle" ∧ d.1.cls ≠ "java/lang/invoke/VarHandle" ∧ (parseMethodDescriptor d.1.desc).map (fun q => q.parameters.length) = some na)
theorem z_callSw (C : Ctx p s m args meth c R w own nm cc nL rt fr lo mc ms) (hN : NX s) {ix na c1 s1 : Nat} {d : MD} {hh : HT} {As rest : List Value} {hs9 : Hs} {n9 : Option Nat} {v : Value} (dd : decode cc pc = .ok (.invokestatic ix, 3)) (g : CSw own ix na d hh) (hC : Cw l w d hh c1 s1 As hs n hs9 n9 (some v)) (hst : st = As.reverse ++ rest) (hn : As.length = na) (hcat : (rest.map fun v => v.category).sum ≤ 8) (hR : RM d fr lo) (hf : cells + c1 ≤ mc ∧ slots + s1 ≤ ms) (K : ZW p l e R s m args below meth c w nL hs9 n9 (cells + c1) (slots + s1) Q (pc + 3) lv (v :: rest)) : ZW p l e R s m args below meth c w nL hs n cells slots Q pc lv st := by
  intro H locs ls hP hS hl
  obtain ⟨w1, w2, w4, w5, hd⟩ := g
  have hts := C.2.2.2.2.1
  have hRm := C.2.2.2.2.2.2.2.1
  have hws : ∀ x ∈ mwsH d hh, ∀ (a9 : Array Value) (U : State), s.WarmedH U.vm → x.before a9 U = true := by
    intro x hx a9 U hW
    have h9 : x ∈ WA := by
      rcases List.mem_cons.mp hx with h | h
      · rw [h]; exact w5
      · exact h
    exact word_at hW (good_of_word (wa_good x h9)) (hts x h9)
  have cw : vx_CSW R s args own ix d.1 d.2.1 d.2.2.1 d.2.2.2.1 hh (mwsH d hh) (mrm d c1 s1) c1 s1 na := ⟨⟨rfl, rfl, by rw [hRm.1]; exact hR.1, by rw [hRm.2.1]; exact hR.2, hws, List.mem_cons_self⟩, hts _ w5, hts _ w4, ⟨hd.1, hd.2.1⟩, fun sig h => by
    have h2 := hd.2.2
    rw [h] at h2
    exact (Option.some.inj h2).symm, hts _ w1, hts _ w2⟩
  have hr := vx_runSX (hh := hh) (p := p) (l := l) (e := e) (below := below) (meth := meth) (locs := locs) (cells := cells) (slots := slots) (g := F0 m pc ls st) ⟨C.1, C.2.1, C.2.2.1, C.2.2.2.1, C.2.2.2.2.1⟩ hC cw (pre10 C hN (av := As) hP hS) rfl hn hl.1 hst (lv_room hcat) dd ⟨by rw [hRm.2.2.1]; exact hf.1, by rw [hRm.2.2.2]; exact hf.2⟩
  intro T hT X
  rcases hr T hT X with ⟨v9, st9, t, T9, L, h0, X9, hL, e1, e2, ⟨hv, hP9, hz, hk⟩, step⟩ | ⟨q, st₀, t, T', L, E', ce, h9, X', hL, e1, e2, hq, -⟩
  · cases hv
    rw [h0] at hz hk
    rw [← e1] at hP9
    obtain ⟨t2, a1, b1⟩ := K T9.heap (locs ++ L) ls hP9 ⟨Nat.le_trans hS.1 (by rw [e1]; exact hz), fun q h1 h2 => by rw [e1, hk q (Nat.lt_of_lt_of_le h1 hS.1) h2]; exact hS.2.1 q h1 h2, fun q hq => by
      rcases List.mem_append.mp hq with h | h
      · exact hS.2.2 q h
      · exact hL q h⟩ hl T9 rfl X9
    exact ⟨t2, step t2 a1, b1⟩
  · exact hq.elim
theorem z_topl {v : Int64} (K : ∀ y : Int64, y = v → ZW p l e R s m args below meth c w nL hs n cells slots Q pc lv (.long y :: st)) : ZW p l e R s m args below meth c w nL hs n cells slots Q pc lv (.long v :: st) := K v rfl
end
theorem li_m {w : Wt} {k : Nat} {g : Nat → Int64} {u : Nat → Int32} {A : Nat → Nat → Int32} {hs : Hs} (h : LI w k g u A hs) : hs (k + 137) = some (.inr (6, [.int (u 0), .ref (wB w + (k + 137 + 1)), .ref (wB w + (k + 137 + 2)), .ref (wB w + (k + 137 + 3)), .ref (wB w + (k + 137 + 4)), .int (u 1), .ref (wB w + (k + 137 + 5)), .ref (wB w + (k + 137 + 6)), .ref (wB w + (k + 137 + 7)), .int (u 2), .int (u 3), .int (u 4), .int (u 5)])) := by
  obtain ⟨len, a9, ct, sg, d9, z, C, b9, F, X, Z, bs, Fs, Xs, Zs, I, rfl⟩ := h
  exact lh_m
theorem li_x {w : Wt} {k : Nat} {g : Nat → Int64} {u : Nat → Int32} {A : Nat → Nat → Int32} {hs : Hs} (h : LI w k g u A hs) : hs k = some (.inr (5, [.ref (wB w + (k + 1)), .ref (wB w + (k + 4)), .ref (wB w + (k + 11)), .ref (wB w + (k + 18)), .ref (wB w + (k + 120))])) := by
  obtain ⟨len, a9, ct, sg, d9, z, C, b9, F, X, Z, bs, Fs, Xs, Zs, I, rfl⟩ := h
  exact lh_x
theorem li_o {w : Wt} {k : Nat} {g : Nat → Int64} {u : Nat → Int32} {A : Nat → Nat → Int32} {hs : Hs} (h : LI w k g u A hs) : hs (k + 145) = some (.inl (wC w 2, 1, .inr (.inl g))) := by
  obtain ⟨len, a9, ct, sg, d9, z, C, b9, F, X, Z, bs, Fs, Xs, Zs, I, rfl⟩ := h
  exact lh_o
theorem li_t {l : Launch} {w : Wt} {k : Nat} {g : Nat → Int64} {u : Nat → Int32} {A : Nat → Nat → Int32} {hs : Hs} {n : Option Nat} (h : LI w k g u A hs) : Cn l w mX6_thrown 0 0 [.ref (wB w + (k + 137))] hs n hs n (some (.int (u 0))) := by
  obtain ⟨len, a9, ct, sg, d9, z, C, b9, F, X, Z, bs, Fs, Xs, Zs, I, rfl⟩ := h
  exact Cn.lM (as := [.ref (wB w + (k + 137))]) c_thrown
theorem csw_append : CSw RL 95 3 mL_append [(0, 9, 12, 13), (0, 9, 15, 15)] := ⟨wa_mem 299 (by decide +kernel) rfl, wa_mem 300 (by decide +kernel) rfl, wa_mem 0 (by decide +kernel) rfl, wa_mem 301 (by decide +kernel) rfl, ⟨by decide +kernel, by decide +kernel, by decide +kernel⟩⟩
theorem csw_load : CSw RL 112 2 mL_load [(0, 8, 11, 15)] := ⟨wa_mem 419 (by decide +kernel) rfl, wa_mem 420 (by decide +kernel) rfl, wa_mem 0 (by decide +kernel) rfl, wa_mem 421 (by decide +kernel) rfl, ⟨by decide +kernel, by decide +kernel, by decide +kernel⟩⟩
theorem csw_about : CSw RL 116 3 mL_about [(0, 9, 12, 13)] := ⟨wa_mem 534 (by decide +kernel) rfl, wa_mem 535 (by decide +kernel) rfl, wa_mem 0 (by decide +kernel) rfl, wa_mem 536 (by decide +kernel) rfl, ⟨by decide +kernel, by decide +kernel, by decide +kernel⟩⟩
theorem csw_gutterOf : CSw RL 119 4 mL_gutterOf [(0, 10, 13, 28), (0, 10, 17, 13)] := ⟨wa_mem 549 (by decide +kernel) rfl, wa_mem 550 (by decide +kernel) rfl, wa_mem 0 (by decide +kernel) rfl, wa_mem 551 (by decide +kernel) rfl, ⟨by decide +kernel, by decide +kernel, by decide +kernel⟩⟩
theorem csw_boatOf : CSw RL 123 4 mL_boatOf [(0, 10, 13, 28), (0, 10, 17, 13)] := ⟨wa_mem 570 (by decide +kernel) rfl, wa_mem 571 (by decide +kernel) rfl, wa_mem 0 (by decide +kernel) rfl, wa_mem 572 (by decide +kernel) rfl, ⟨by decide +kernel, by decide +kernel, by decide +kernel⟩⟩
theorem csw_ownerOf : CSw RL 126 4 mL_ownerOf [(0, 10, 13, 28), (0, 10, 17, 13)] := ⟨wa_mem 579 (by decide +kernel) rfl, wa_mem 580 (by decide +kernel) rfl, wa_mem 0 (by decide +kernel) rfl, wa_mem 581 (by decide +kernel) rfl, ⟨by decide +kernel, by decide +kernel, by decide +kernel⟩⟩
theorem csw_way : CSw RL 129 5 mL_way [(0, 12, 15, 28), (0, 12, 19, 13)] := ⟨wa_mem 595 (by decide +kernel) rfl, wa_mem 596 (by decide +kernel) rfl, wa_mem 0 (by decide +kernel) rfl, wa_mem 597 (by decide +kernel) rfl, ⟨by decide +kernel, by decide +kernel, by decide +kernel⟩⟩
theorem csw_setting : CSw RL 133 3 mL_setting [(0, 9, 12, 13)] := ⟨wa_mem 608 (by decide +kernel) rfl, wa_mem 609 (by decide +kernel) rfl, wa_mem 0 (by decide +kernel) rfl, wa_mem 610 (by decide +kernel) rfl, ⟨by decide +kernel, by decide +kernel, by decide +kernel⟩⟩
theorem csw_gutter : CSw RL 136 6 mL_gutter [(0, 14, 17, 28), (0, 14, 21, 13), (0, 14, 25, 15)] := ⟨wa_mem 616 (by decide +kernel) rfl, wa_mem 617 (by decide +kernel) rfl, wa_mem 0 (by decide +kernel) rfl, wa_mem 618 (by decide +kernel) rfl, ⟨by decide +kernel, by decide +kernel, by decide +kernel⟩⟩
theorem csw_boat : CSw RL 140 5 mL_boat [(0, 12, 15, 28), (0, 12, 19, 13), (0, 12, 23, 15)] := ⟨wa_mem 639 (by decide +kernel) rfl, wa_mem 640 (by decide +kernel) rfl, wa_mem 0 (by decide +kernel) rfl, wa_mem 641 (by decide +kernel) rfl, ⟨by decide +kernel, by decide +kernel, by decide +kernel⟩⟩
theorem csw_launch : CSw RL 143 4 mL_launch [(0, 10, 13, 28), (0, 10, 17, 15)] := ⟨wa_mem 648 (by decide +kernel) rfl, wa_mem 649 (by decide +kernel) rfl, wa_mem 0 (by decide +kernel) rfl, wa_mem 650 (by decide +kernel) rfl, ⟨by decide +kernel, by decide +kernel, by decide +kernel⟩⟩
theorem csw_hook : CSw RL 146 5 mL_hook [(0, 12, 15, 28)] := ⟨wa_mem 657 (by decide +kernel) rfl, wa_mem 658 (by decide +kernel) rfl, wa_mem 0 (by decide +kernel) rfl, wa_mem 659 (by decide +kernel) rfl, ⟨by decide +kernel, by decide +kernel, by decide +kernel⟩⟩
theorem csw_claim : CSw RL 149 4 mL_claim [(0, 10, 13, 28)] := ⟨wa_mem 667 (by decide +kernel) rfl, wa_mem 668 (by decide +kernel) rfl, wa_mem 0 (by decide +kernel) rfl, wa_mem 669 (by decide +kernel) rfl, ⟨by decide +kernel, by decide +kernel, by decide +kernel⟩⟩
theorem csw_minutes : CSw RL 152 3 mL_minutes [(0, 9, 12, 13)] := ⟨wa_mem 677 (by decide +kernel) rfl, wa_mem 678 (by decide +kernel) rfl, wa_mem 0 (by decide +kernel) rfl, wa_mem 679 (by decide +kernel) rfl, ⟨by decide +kernel, by decide +kernel, by decide +kernel⟩⟩
theorem csw_set : CSw RL 155 4 mL_set [(0, 10, 13, 13)] := ⟨wa_mem 686 (by decide +kernel) rfl, wa_mem 687 (by decide +kernel) rfl, wa_mem 0 (by decide +kernel) rfl, wa_mem 688 (by decide +kernel) rfl, ⟨by decide +kernel, by decide +kernel, by decide +kernel⟩⟩
theorem csw_undo : CSw RL 158 2 mL_undo [(0, 8, 11, 15)] := ⟨wa_mem 695 (by decide +kernel) rfl, wa_mem 696 (by decide +kernel) rfl, wa_mem 0 (by decide +kernel) rfl, wa_mem 697 (by decide +kernel) rfl, ⟨by decide +kernel, by decide +kernel, by decide +kernel⟩⟩
theorem csw_why : CSw RL 161 4 mL_why [(0, 10, 13, 28)] := ⟨wa_mem 710 (by decide +kernel) rfl, wa_mem 711 (by decide +kernel) rfl, wa_mem 0 (by decide +kernel) rfl, wa_mem 712 (by decide +kernel) rfl, ⟨by decide +kernel, by decide +kernel, by decide +kernel⟩⟩
theorem csw_endsIn : CSw RL 164 4 mL_endsIn [(0, 10, 13, 28), (0, 10, 17, 13), (0, 10, 21, 15)] := ⟨wa_mem 717 (by decide +kernel) rfl, wa_mem 718 (by decide +kernel) rfl, wa_mem 0 (by decide +kernel) rfl, wa_mem 719 (by decide +kernel) rfl, ⟨by decide +kernel, by decide +kernel, by decide +kernel⟩⟩
theorem csw_leastFolds : CSw RL 171 4 mL_leastFolds [(0, 10, 13, 28), (0, 10, 17, 13)] := ⟨wa_mem 728 (by decide +kernel) rfl, wa_mem 729 (by decide +kernel) rfl, wa_mem 0 (by decide +kernel) rfl, wa_mem 730 (by decide +kernel) rfl, ⟨by decide +kernel, by decide +kernel, by decide +kernel⟩⟩
theorem csw_runScript : CSw RL 176 4 mL_runScript [(0, 11, 14, 13)] := ⟨wa_mem 735 (by decide +kernel) rfl, wa_mem 736 (by decide +kernel) rfl, wa_mem 0 (by decide +kernel) rfl, wa_mem 737 (by decide +kernel) rfl, ⟨by decide +kernel, by decide +kernel, by decide +kernel⟩⟩
theorem csw_simulate : CSw RL 180 4 mL_simulate [(0, 11, 14, 13)] := ⟨wa_mem 751 (by decide +kernel) rfl, wa_mem 752 (by decide +kernel) rfl, wa_mem 0 (by decide +kernel) rfl, wa_mem 753 (by decide +kernel) rfl, ⟨by decide +kernel, by decide +kernel, by decide +kernel⟩⟩
theorem csw_save : CSw RL 184 3 mL_save [(0, 9, 12, 28)] := ⟨wa_mem 766 (by decide +kernel) rfl, wa_mem 767 (by decide +kernel) rfl, wa_mem 0 (by decide +kernel) rfl, wa_mem 768 (by decide +kernel) rfl, ⟨by decide +kernel, by decide +kernel, by decide +kernel⟩⟩
theorem csw_restore : CSw RL 187 3 mL_restore [(0, 9, 12, 28), (0, 9, 15, 15)] := ⟨wa_mem 774 (by decide +kernel) rfl, wa_mem 775 (by decide +kernel) rfl, wa_mem 0 (by decide +kernel) rfl, wa_mem 776 (by decide +kernel) rfl, ⟨by decide +kernel, by decide +kernel, by decide +kernel⟩⟩
section
variable {p : Program} {l : Launch} {e : Env} {R : Room} {s : State} {m : MethodId} {args : Array Value} {below : List Frame} {meth : Method} {c : Code} {w : Wt} {nm : String} {hs : Hs} {Q : State → Prop} {b L k i n1 n2 : Nat} {xs : Nat → Int32} {g : Nat → Int64}
set_option maxHeartbeats 4000000 in
set_option maxRecDepth 100000 in
theorem lc_append (C : Ctx p s m args meth c R w RL nm cL_law 7 (some .boolean) 13 488 601024 7293033) (hN : NX s) (hX : SX b L xs w s) (hi : 5 * i + 5 ≤ L) (q1 : n1 ≤ 600000) (q2 : n2 ≤ 7000000) (h : ST l w k mL_append [(0, 9, 12, 13), (0, 9, 15, 15)] mX6_append [.int (xs (5 * i + 1))] hs) (TL : ∀ (hs2 : Hs) (u2 : Nat → Int32) (A2 : Nat → Nat → Int32) (g2 : Nat → Int64) (lv : List (Nat × Value)), LI w k g2 u2 A2 hs2 → subL [(0, .ref b), (1, .ref (wB w + k)), (2, .ref (wB w + (k + 137))), (3, .ref (wB w + (k + 145))), (4, .int (nI (5 * i)))] lv → ZW p l e R s m args below meth c w 7 hs2 none (n1 + 1) (n2 + 6) Q 1763 lv []) : ZW p l e R s m args below meth c w 7 hs none n1 n2 Q 156 [(0, .ref b), (1, .ref (wB w + k)), (2, .ref (wB w + (k + 137))), (3, .ref (wB w + (k + 145))), (4, .int (nI (5 * i)))] [] := by
  refine z_aload_n C 1 dL_law_156 rfl rfl ?_
  refine z_aload_n C 0 dL_law_157 rfl rfl ?_
  refine z_iload C dL_law_158 rfl ?_
  refine z_iconst C (v := 1) dL_law_160 (by decide) ?_
  refine z_iadd C dL_law_161 ?_
  refine z_sl C hX (j := ((5 * i) + 1)) dL_law_162 (ix_add rfl rfl) (by omega) ?_
  refine z_aload_n C 3 dL_law_163 rfl rfl ?_
  obtain ⟨hs1, hs2, u2, A2, g2, fs, r, v, hW, hm1, hM, hI, h0, hr⟩ := h
  refine z_callSw C hN dL_law_164 csw_append hW rfl rfl (Nat.le_of_ble_eq_true rfl) ⟨Nat.le_of_ble_eq_true rfl, Nat.le_of_ble_eq_true rfl⟩ ⟨by omega, by omega⟩ ?_
  refine z_istore C dL_law_167 (by decide) ?_
  refine z_aload_n C 2 dL_law_169 rfl rfl ?_
  refine z_aload_n C 0 dL_law_170 rfl rfl ?_
  refine z_iload C dL_law_171 rfl ?_
  refine z_iconst C (v := 1) dL_law_173 (by decide) ?_
  refine z_iadd C dL_law_174 ?_
  refine z_sl C hX (j := ((5 * i) + 1)) dL_law_175 (ix_add rfl rfl) (by omega) ?_
  refine z_callV1 C dL_law_176 cv_L_100 hM hm1 rfl rfl (Nat.le_of_ble_eq_true rfl) ⟨Nat.le_of_ble_eq_true rfl, Nat.le_of_ble_eq_true rfl⟩ ⟨by omega, by omega⟩ ?_
  refine z_istore C dL_law_179 (by decide) ?_
  refine z_aload_n C 2 dL_law_181 rfl rfl ?_
  refine z_callV1 C dL_law_182 cv_L_101 (li_t hI) (li_m hI) rfl rfl (Nat.le_of_ble_eq_true rfl) ⟨Nat.le_of_ble_eq_true rfl, Nat.le_of_ble_eq_true rfl⟩ ⟨by omega, by omega⟩ ?_
  refine z_iload C dL_law_185 rfl ?_
  refine z_icmp_eq C 192 dL_law_187 (by decide) (fun _ => ?_) (fun q9 => absurd h0 q9)
  refine z_iload C dL_law_192 rfl ?_
  refine z_if_ne C 209 dL_law_194 (by decide) (fun c_194 => ?_) (fun c_194 => ?_)
  · skip
    refine z_goto C 1763 dL_law_209 (by decide) ?_
    exact TL hs2 u2 A2 g2 _ hI ⟨rfl, rfl, rfl, rfl, rfl, trivial⟩
  · skip
    refine z_aload_n C 3 dL_law_197 rfl rfl ?_
    refine z_iconst C (v := 0) dL_law_198 (by decide) ?_
    refine z_lald C (v := g2 0) dL_law_199 (li_o hI) vp_in_0 rfl ?_
    refine z_iload C dL_law_200 rfl ?_
    refine z_i2l C dL_law_202 rfl ?_
    refine z_lcmp C dL_law_203 ?_
    refine z_if_eq C 209 dL_law_204 (by decide) (fun _ => ?_) (fun q9 => absurd ((lg_cmp_eq _ _).mpr (hr c_194)) q9)
    refine z_goto C 1763 dL_law_209 (by decide) ?_
    exact TL hs2 u2 A2 g2 _ hI ⟨rfl, rfl, rfl, rfl, rfl, trivial⟩
set_option maxHeartbeats 4000000 in
set_option maxRecDepth 100000 in
theorem lc_clearText (C : Ctx p s m args meth c R w RL nm cL_law 7 (some .boolean) 13 488 601024 7293033) (hX : SX b L xs w s) (hi : 5 * i + 5 ≤ L) (q1 : n1 ≤ 600000) (q2 : n2 ≤ 7000000) (h : SN l w k mX5_clearText mX6_clearText g hs) (hx : ∃ fs, hs k = some (.inr (5, fs))) (TL : ∀ (hs2 : Hs) (u2 : Nat → Int32) (A2 : Nat → Nat → Int32) (g2 : Nat → Int64) (lv : List (Nat × Value)), LI w k g2 u2 A2 hs2 → subL [(0, .ref b), (1, .ref (wB w + k)), (2, .ref (wB w + (k + 137))), (3, .ref (wB w + (k + 145))), (4, .int (nI (5 * i)))] lv → ZW p l e R s m args below meth c w 7 hs2 none (n1 + 1) (n2 + 6) Q 1763 lv []) : ZW p l e R s m args below meth c w 7 hs none n1 n2 Q 212 [(0, .ref b), (1, .ref (wB w + k)), (2, .ref (wB w + (k + 137))), (3, .ref (wB w + (k + 145))), (4, .int (nI (5 * i)))] [] := by
  obtain ⟨hs1, hs2, u2, A2, fs, v, hC, hm1, hM, hI⟩ := h
  obtain ⟨fx, hx⟩ := hx
  refine z_aload_n C 1 dL_law_212 rfl rfl ?_
  refine z_callV1 C dL_law_213 cv_L_104 hC hx rfl rfl (Nat.le_of_ble_eq_true rfl) ⟨Nat.le_of_ble_eq_true rfl, Nat.le_of_ble_eq_true rfl⟩ ⟨by omega, by omega⟩ ?_
  refine z_aload_n C 2 dL_law_216 rfl rfl ?_
  refine z_callV1 C dL_law_217 cv_L_107 hM hm1 rfl rfl (Nat.le_of_ble_eq_true rfl) ⟨Nat.le_of_ble_eq_true rfl, Nat.le_of_ble_eq_true rfl⟩ ⟨by omega, by omega⟩ ?_
  refine z_icmp_eq C 1763 dL_law_220 (by decide) (fun _ => ?_) (fun q9 => absurd rfl q9)
  refine z_widen (k9 := n1 + 1) (n9 := n2 + 6) (by omega) (by omega) ?_
  exact TL hs2 u2 A2 g _ hI ⟨rfl, rfl, rfl, rfl, rfl, trivial⟩
set_option maxHeartbeats 4000000 in
set_option maxRecDepth 100000 in
theorem lc_errorPosition (C : Ctx p s m args meth c R w RL nm cL_law 7 (some .boolean) 13 488 601024 7293033) (hX : SX b L xs w s) (hi : 5 * i + 5 ≤ L) (q1 : n1 ≤ 600000) (q2 : n2 ≤ 7000000) (h : SN l w k mX5_errorPosition mX6_errorPosition g hs) (hx : ∃ fs, hs k = some (.inr (5, fs))) (TL : ∀ (hs2 : Hs) (u2 : Nat → Int32) (A2 : Nat → Nat → Int32) (g2 : Nat → Int64) (lv : List (Nat × Value)), LI w k g2 u2 A2 hs2 → subL [(0, .ref b), (1, .ref (wB w + k)), (2, .ref (wB w + (k + 137))), (3, .ref (wB w + (k + 145))), (4, .int (nI (5 * i)))] lv → ZW p l e R s m args below meth c w 7 hs2 none (n1 + 1) (n2 + 6) Q 1763 lv []) : ZW p l e R s m args below meth c w 7 hs none n1 n2 Q 225 [(0, .ref b), (1, .ref (wB w + k)), (2, .ref (wB w + (k + 137))), (3, .ref (wB w + (k + 145))), (4, .int (nI (5 * i)))] [] := by
  obtain ⟨hs1, hs2, u2, A2, fs, v, hC, hm1, hM, hI⟩ := h
  obtain ⟨fx, hx⟩ := hx
  refine z_aload_n C 1 dL_law_225 rfl rfl ?_
  refine z_callV1 C dL_law_226 cv_L_108 hC hx rfl rfl (Nat.le_of_ble_eq_true rfl) ⟨Nat.le_of_ble_eq_true rfl, Nat.le_of_ble_eq_true rfl⟩ ⟨by omega, by omega⟩ ?_
  refine z_aload_n C 2 dL_law_229 rfl rfl ?_
  refine z_callV1 C dL_law_230 cv_L_111 hM hm1 rfl rfl (Nat.le_of_ble_eq_true rfl) ⟨Nat.le_of_ble_eq_true rfl, Nat.le_of_ble_eq_true rfl⟩ ⟨by omega, by omega⟩ ?_
  refine z_icmp_eq C 1763 dL_law_233 (by decide) (fun _ => ?_) (fun q9 => absurd rfl q9)
  refine z_widen (k9 := n1 + 1) (n9 := n2 + 6) (by omega) (by omega) ?_
  exact TL hs2 u2 A2 g _ hI ⟨rfl, rfl, rfl, rfl, rfl, trivial⟩
set_option maxHeartbeats 4000000 in
set_option maxRecDepth 100000 in
theorem lc_load (C : Ctx p s m args meth c R w RL nm cL_law 7 (some .boolean) 13 488 601024 7293033) (hN : NX s) (hX : SX b L xs w s) (hi : 5 * i + 5 ≤ L) (q1 : n1 ≤ 600000) (q2 : n2 ≤ 7000000) (h : ST l w k mL_load [(0, 8, 11, 15)] mX6_load [] hs) (TL : ∀ (hs2 : Hs) (u2 : Nat → Int32) (A2 : Nat → Nat → Int32) (g2 : Nat → Int64) (lv : List (Nat × Value)), LI w k g2 u2 A2 hs2 → subL [(0, .ref b), (1, .ref (wB w + k)), (2, .ref (wB w + (k + 137))), (3, .ref (wB w + (k + 145))), (4, .int (nI (5 * i)))] lv → ZW p l e R s m args below meth c w 7 hs2 none (n1 + 1) (n2 + 6) Q 1763 lv []) : ZW p l e R s m args below meth c w 7 hs none n1 n2 Q 238 [(0, .ref b), (1, .ref (wB w + k)), (2, .ref (wB w + (k + 137))), (3, .ref (wB w + (k + 145))), (4, .int (nI (5 * i)))] [] := by
  refine z_aload_n C 1 dL_law_238 rfl rfl ?_
  refine z_aload_n C 3 dL_law_239 rfl rfl ?_
  obtain ⟨hs1, hs2, u2, A2, g2, fs, r, v, hW, hm1, hM, hI, h0, hr⟩ := h
  refine z_callSw C hN dL_law_240 csw_load hW rfl rfl (Nat.le_of_ble_eq_true rfl) ⟨Nat.le_of_ble_eq_true rfl, Nat.le_of_ble_eq_true rfl⟩ ⟨by omega, by omega⟩ ?_
  refine z_istore C dL_law_243 (by decide) ?_
  refine z_aload_n C 2 dL_law_245 rfl rfl ?_
  refine z_callV1 C dL_law_246 cv_L_115 hM hm1 rfl rfl (Nat.le_of_ble_eq_true rfl) ⟨Nat.le_of_ble_eq_true rfl, Nat.le_of_ble_eq_true rfl⟩ ⟨by omega, by omega⟩ ?_
  refine z_istore C dL_law_249 (by decide) ?_
  refine z_aload_n C 2 dL_law_251 rfl rfl ?_
  refine z_callV1 C dL_law_252 cv_L_101 (li_t hI) (li_m hI) rfl rfl (Nat.le_of_ble_eq_true rfl) ⟨Nat.le_of_ble_eq_true rfl, Nat.le_of_ble_eq_true rfl⟩ ⟨by omega, by omega⟩ ?_
  refine z_iload C dL_law_255 rfl ?_
  refine z_icmp_eq C 262 dL_law_257 (by decide) (fun _ => ?_) (fun q9 => absurd h0 q9)
  refine z_iload C dL_law_262 rfl ?_
  refine z_if_ne C 279 dL_law_264 (by decide) (fun c_264 => ?_) (fun c_264 => ?_)
  · skip
    refine z_goto C 1763 dL_law_279 (by decide) ?_
    exact TL hs2 u2 A2 g2 _ hI ⟨rfl, rfl, rfl, rfl, rfl, trivial⟩
  · skip
    refine z_aload_n C 3 dL_law_267 rfl rfl ?_
    refine z_iconst C (v := 0) dL_law_268 (by decide) ?_
    refine z_lald C (v := g2 0) dL_law_269 (li_o hI) vp_in_0 rfl ?_
    refine z_iload C dL_law_270 rfl ?_
    refine z_i2l C dL_law_272 rfl ?_
    refine z_lcmp C dL_law_273 ?_
    refine z_if_eq C 279 dL_law_274 (by decide) (fun _ => ?_) (fun q9 => absurd ((lg_cmp_eq _ _).mpr (hr c_264)) q9)
    refine z_goto C 1763 dL_law_279 (by decide) ?_
    exact TL hs2 u2 A2 g2 _ hI ⟨rfl, rfl, rfl, rfl, rfl, trivial⟩
set_option maxHeartbeats 4000000 in
set_option maxRecDepth 100000 in
theorem lc_about (C : Ctx p s m args meth c R w RL nm cL_law 7 (some .boolean) 13 488 601024 7293033) (hN : NX s) (hX : SX b L xs w s) (hi : 5 * i + 5 ≤ L) (q1 : n1 ≤ 600000) (q2 : n2 ≤ 7000000) (h : ST l w k mL_about [(0, 9, 12, 13)] mX6_about [.int (xs (5 * i + 1))] hs) (TL : ∀ (hs2 : Hs) (u2 : Nat → Int32) (A2 : Nat → Nat → Int32) (g2 : Nat → Int64) (lv : List (Nat × Value)), LI w k g2 u2 A2 hs2 → subL [(0, .ref b), (1, .ref (wB w + k)), (2, .ref (wB w + (k + 137))), (3, .ref (wB w + (k + 145))), (4, .int (nI (5 * i)))] lv → ZW p l e R s m args below meth c w 7 hs2 none (n1 + 1) (n2 + 6) Q 1763 lv []) : ZW p l e R s m args below meth c w 7 hs none n1 n2 Q 282 [(0, .ref b), (1, .ref (wB w + k)), (2, .ref (wB w + (k + 137))), (3, .ref (wB w + (k + 145))), (4, .int (nI (5 * i)))] [] := by
  refine z_aload_n C 1 dL_law_282 rfl rfl ?_
  refine z_aload_n C 0 dL_law_283 rfl rfl ?_
  refine z_iload C dL_law_284 rfl ?_
  refine z_iconst C (v := 1) dL_law_286 (by decide) ?_
  refine z_iadd C dL_law_287 ?_
  refine z_sl C hX (j := ((5 * i) + 1)) dL_law_288 (ix_add rfl rfl) (by omega) ?_
  refine z_aload_n C 3 dL_law_289 rfl rfl ?_
  obtain ⟨hs1, hs2, u2, A2, g2, fs, r, v, hW, hm1, hM, hI, h0, hr⟩ := h
  refine z_callSw C hN dL_law_290 csw_about hW rfl rfl (Nat.le_of_ble_eq_true rfl) ⟨Nat.le_of_ble_eq_true rfl, Nat.le_of_ble_eq_true rfl⟩ ⟨by omega, by omega⟩ ?_
  refine z_istore C dL_law_293 (by decide) ?_
  refine z_aload_n C 2 dL_law_295 rfl rfl ?_
  refine z_aload_n C 0 dL_law_296 rfl rfl ?_
  refine z_iload C dL_law_297 rfl ?_
  refine z_iconst C (v := 1) dL_law_299 (by decide) ?_
  refine z_iadd C dL_law_300 ?_
  refine z_sl C hX (j := ((5 * i) + 1)) dL_law_301 (ix_add rfl rfl) (by omega) ?_
  refine z_callV1 C dL_law_302 cv_L_118 hM hm1 rfl rfl (Nat.le_of_ble_eq_true rfl) ⟨Nat.le_of_ble_eq_true rfl, Nat.le_of_ble_eq_true rfl⟩ ⟨by omega, by omega⟩ ?_
  refine z_istore C dL_law_305 (by decide) ?_
  refine z_aload_n C 2 dL_law_307 rfl rfl ?_
  refine z_callV1 C dL_law_308 cv_L_101 (li_t hI) (li_m hI) rfl rfl (Nat.le_of_ble_eq_true rfl) ⟨Nat.le_of_ble_eq_true rfl, Nat.le_of_ble_eq_true rfl⟩ ⟨by omega, by omega⟩ ?_
  refine z_iload C dL_law_311 rfl ?_
  refine z_icmp_eq C 318 dL_law_313 (by decide) (fun _ => ?_) (fun q9 => absurd h0 q9)
  refine z_iload C dL_law_318 rfl ?_
  refine z_if_ne C 335 dL_law_320 (by decide) (fun c_320 => ?_) (fun c_320 => ?_)
  · skip
    refine z_goto C 1763 dL_law_335 (by decide) ?_
    exact TL hs2 u2 A2 g2 _ hI ⟨rfl, rfl, rfl, rfl, rfl, trivial⟩
  · skip
    refine z_aload_n C 3 dL_law_323 rfl rfl ?_
    refine z_iconst C (v := 0) dL_law_324 (by decide) ?_
    refine z_lald C (v := g2 0) dL_law_325 (li_o hI) vp_in_0 rfl ?_
    refine z_iload C dL_law_326 rfl ?_
    refine z_i2l C dL_law_328 rfl ?_
    refine z_lcmp C dL_law_329 ?_
    refine z_if_eq C 335 dL_law_330 (by decide) (fun _ => ?_) (fun q9 => absurd ((lg_cmp_eq _ _).mpr (hr c_320)) q9)
    refine z_goto C 1763 dL_law_335 (by decide) ?_
    exact TL hs2 u2 A2 g2 _ hI ⟨rfl, rfl, rfl, rfl, rfl, trivial⟩
set_option maxHeartbeats 4000000 in
set_option maxRecDepth 100000 in
theorem lc_gutterOf (C : Ctx p s m args meth c R w RL nm cL_law 7 (some .boolean) 13 488 601024 7293033) (hN : NX s) (hX : SX b L xs w s) (hi : 5 * i + 5 ≤ L) (q1 : n1 ≤ 600000) (q2 : n2 ≤ 7000000) (h : ST l w k mL_gutterOf [(0, 10, 13, 28), (0, 10, 17, 13)] mX6_gutterOf [.int (xs (5 * i + 1)), .int (xs (5 * i + 2))] hs) (TL : ∀ (hs2 : Hs) (u2 : Nat → Int32) (A2 : Nat → Nat → Int32) (g2 : Nat → Int64) (lv : List (Nat × Value)), LI w k g2 u2 A2 hs2 → subL [(0, .ref b), (1, .ref (wB w + k)), (2, .ref (wB w + (k + 137))), (3, .ref (wB w + (k + 145))), (4, .int (nI (5 * i)))] lv → ZW p l e R s m args below meth c w 7 hs2 none (n1 + 1) (n2 + 6) Q 1763 lv []) : ZW p l e R s m args below meth c w 7 hs none n1 n2 Q 338 [(0, .ref b), (1, .ref (wB w + k)), (2, .ref (wB w + (k + 137))), (3, .ref (wB w + (k + 145))), (4, .int (nI (5 * i)))] [] := by
  refine z_aload_n C 1 dL_law_338 rfl rfl ?_
  refine z_aload_n C 0 dL_law_339 rfl rfl ?_
  refine z_iload C dL_law_340 rfl ?_
  refine z_iconst C (v := 1) dL_law_342 (by decide) ?_
  refine z_iadd C dL_law_343 ?_
  refine z_sl C hX (j := ((5 * i) + 1)) dL_law_344 (ix_add rfl rfl) (by omega) ?_
  refine z_aload_n C 0 dL_law_345 rfl rfl ?_
  refine z_iload C dL_law_346 rfl ?_
  refine z_iconst C (v := 2) dL_law_348 (by decide) ?_
  refine z_iadd C dL_law_349 ?_
  refine z_sl C hX (j := ((5 * i) + 2)) dL_law_350 (ix_add rfl rfl) (by omega) ?_
  refine z_aload_n C 3 dL_law_351 rfl rfl ?_
  obtain ⟨hs1, hs2, u2, A2, g2, fs, r, v, hW, hm1, hM, hI, h0, hr⟩ := h
  refine z_callSw C hN dL_law_352 csw_gutterOf hW rfl rfl (Nat.le_of_ble_eq_true rfl) ⟨Nat.le_of_ble_eq_true rfl, Nat.le_of_ble_eq_true rfl⟩ ⟨by omega, by omega⟩ ?_
  refine z_istore C dL_law_355 (by decide) ?_
  refine z_aload_n C 2 dL_law_357 rfl rfl ?_
  refine z_aload_n C 0 dL_law_358 rfl rfl ?_
  refine z_iload C dL_law_359 rfl ?_
  refine z_iconst C (v := 1) dL_law_361 (by decide) ?_
  refine z_iadd C dL_law_362 ?_
  refine z_sl C hX (j := ((5 * i) + 1)) dL_law_363 (ix_add rfl rfl) (by omega) ?_
  refine z_aload_n C 0 dL_law_364 rfl rfl ?_
  refine z_iload C dL_law_365 rfl ?_
  refine z_iconst C (v := 2) dL_law_367 (by decide) ?_
  refine z_iadd C dL_law_368 ?_
  refine z_sl C hX (j := ((5 * i) + 2)) dL_law_369 (ix_add rfl rfl) (by omega) ?_
  refine z_callV1 C dL_law_370 cv_L_122 hM hm1 rfl rfl (Nat.le_of_ble_eq_true rfl) ⟨Nat.le_of_ble_eq_true rfl, Nat.le_of_ble_eq_true rfl⟩ ⟨by omega, by omega⟩ ?_
  refine z_istore C dL_law_373 (by decide) ?_
  refine z_aload_n C 2 dL_law_375 rfl rfl ?_
  refine z_callV1 C dL_law_376 cv_L_101 (li_t hI) (li_m hI) rfl rfl (Nat.le_of_ble_eq_true rfl) ⟨Nat.le_of_ble_eq_true rfl, Nat.le_of_ble_eq_true rfl⟩ ⟨by omega, by omega⟩ ?_
  refine z_iload C dL_law_379 rfl ?_
  refine z_icmp_eq C 386 dL_law_381 (by decide) (fun _ => ?_) (fun q9 => absurd h0 q9)
  refine z_iload C dL_law_386 rfl ?_
  refine z_if_ne C 403 dL_law_388 (by decide) (fun c_388 => ?_) (fun c_388 => ?_)
  · skip
    refine z_goto C 1763 dL_law_403 (by decide) ?_
    exact TL hs2 u2 A2 g2 _ hI ⟨rfl, rfl, rfl, rfl, rfl, trivial⟩
  · skip
    refine z_aload_n C 3 dL_law_391 rfl rfl ?_
    refine z_iconst C (v := 0) dL_law_392 (by decide) ?_
    refine z_lald C (v := g2 0) dL_law_393 (li_o hI) vp_in_0 rfl ?_
    refine z_iload C dL_law_394 rfl ?_
    refine z_i2l C dL_law_396 rfl ?_
    refine z_lcmp C dL_law_397 ?_
    refine z_if_eq C 403 dL_law_398 (by decide) (fun _ => ?_) (fun q9 => absurd ((lg_cmp_eq _ _).mpr (hr c_388)) q9)
    refine z_goto C 1763 dL_law_403 (by decide) ?_
    exact TL hs2 u2 A2 g2 _ hI ⟨rfl, rfl, rfl, rfl, rfl, trivial⟩
set_option maxHeartbeats 4000000 in
set_option maxRecDepth 100000 in
theorem lc_boatOf (C : Ctx p s m args meth c R w RL nm cL_law 7 (some .boolean) 13 488 601024 7293033) (hN : NX s) (hX : SX b L xs w s) (hi : 5 * i + 5 ≤ L) (q1 : n1 ≤ 600000) (q2 : n2 ≤ 7000000) (h : ST l w k mL_boatOf [(0, 10, 13, 28), (0, 10, 17, 13)] mX6_boatOf [.int (xs (5 * i + 1)), .int (xs (5 * i + 2))] hs) (TL : ∀ (hs2 : Hs) (u2 : Nat → Int32) (A2 : Nat → Nat → Int32) (g2 : Nat → Int64) (lv : List (Nat × Value)), LI w k g2 u2 A2 hs2 → subL [(0, .ref b), (1, .ref (wB w + k)), (2, .ref (wB w + (k + 137))), (3, .ref (wB w + (k + 145))), (4, .int (nI (5 * i)))] lv → ZW p l e R s m args below meth c w 7 hs2 none (n1 + 1) (n2 + 6) Q 1763 lv []) : ZW p l e R s m args below meth c w 7 hs none n1 n2 Q 406 [(0, .ref b), (1, .ref (wB w + k)), (2, .ref (wB w + (k + 137))), (3, .ref (wB w + (k + 145))), (4, .int (nI (5 * i)))] [] := by
  refine z_aload_n C 1 dL_law_406 rfl rfl ?_
  refine z_aload_n C 0 dL_law_407 rfl rfl ?_
  refine z_iload C dL_law_408 rfl ?_
  refine z_iconst C (v := 1) dL_law_410 (by decide) ?_
  refine z_iadd C dL_law_411 ?_
  refine z_sl C hX (j := ((5 * i) + 1)) dL_law_412 (ix_add rfl rfl) (by omega) ?_
  refine z_aload_n C 0 dL_law_413 rfl rfl ?_
  refine z_iload C dL_law_414 rfl ?_
  refine z_iconst C (v := 2) dL_law_416 (by decide) ?_
  refine z_iadd C dL_law_417 ?_
  refine z_sl C hX (j := ((5 * i) + 2)) dL_law_418 (ix_add rfl rfl) (by omega) ?_
  refine z_aload_n C 3 dL_law_419 rfl rfl ?_
  obtain ⟨hs1, hs2, u2, A2, g2, fs, r, v, hW, hm1, hM, hI, h0, hr⟩ := h
  refine z_callSw C hN dL_law_420 csw_boatOf hW rfl rfl (Nat.le_of_ble_eq_true rfl) ⟨Nat.le_of_ble_eq_true rfl, Nat.le_of_ble_eq_true rfl⟩ ⟨by omega, by omega⟩ ?_
  refine z_istore C dL_law_423 (by decide) ?_
  refine z_aload_n C 2 dL_law_425 rfl rfl ?_
  refine z_aload_n C 0 dL_law_426 rfl rfl ?_
  refine z_iload C dL_law_427 rfl ?_
  refine z_iconst C (v := 1) dL_law_429 (by decide) ?_
  refine z_iadd C dL_law_430 ?_
  refine z_sl C hX (j := ((5 * i) + 1)) dL_law_431 (ix_add rfl rfl) (by omega) ?_
  refine z_aload_n C 0 dL_law_432 rfl rfl ?_
  refine z_iload C dL_law_433 rfl ?_
  refine z_iconst C (v := 2) dL_law_435 (by decide) ?_
  refine z_iadd C dL_law_436 ?_
  refine z_sl C hX (j := ((5 * i) + 2)) dL_law_437 (ix_add rfl rfl) (by omega) ?_
  refine z_callV1 C dL_law_438 cv_L_125 hM hm1 rfl rfl (Nat.le_of_ble_eq_true rfl) ⟨Nat.le_of_ble_eq_true rfl, Nat.le_of_ble_eq_true rfl⟩ ⟨by omega, by omega⟩ ?_
  refine z_istore C dL_law_441 (by decide) ?_
  refine z_aload_n C 2 dL_law_443 rfl rfl ?_
  refine z_callV1 C dL_law_444 cv_L_101 (li_t hI) (li_m hI) rfl rfl (Nat.le_of_ble_eq_true rfl) ⟨Nat.le_of_ble_eq_true rfl, Nat.le_of_ble_eq_true rfl⟩ ⟨by omega, by omega⟩ ?_
  refine z_iload C dL_law_447 rfl ?_
  refine z_icmp_eq C 454 dL_law_449 (by decide) (fun _ => ?_) (fun q9 => absurd h0 q9)
  refine z_iload C dL_law_454 rfl ?_
  refine z_if_ne C 471 dL_law_456 (by decide) (fun c_456 => ?_) (fun c_456 => ?_)
  · skip
    refine z_goto C 1763 dL_law_471 (by decide) ?_
    exact TL hs2 u2 A2 g2 _ hI ⟨rfl, rfl, rfl, rfl, rfl, trivial⟩
  · skip
    refine z_aload_n C 3 dL_law_459 rfl rfl ?_
    refine z_iconst C (v := 0) dL_law_460 (by decide) ?_
    refine z_lald C (v := g2 0) dL_law_461 (li_o hI) vp_in_0 rfl ?_
    refine z_iload C dL_law_462 rfl ?_
    refine z_i2l C dL_law_464 rfl ?_
    refine z_lcmp C dL_law_465 ?_
    refine z_if_eq C 471 dL_law_466 (by decide) (fun _ => ?_) (fun q9 => absurd ((lg_cmp_eq _ _).mpr (hr c_456)) q9)
    refine z_goto C 1763 dL_law_471 (by decide) ?_
    exact TL hs2 u2 A2 g2 _ hI ⟨rfl, rfl, rfl, rfl, rfl, trivial⟩
set_option maxHeartbeats 4000000 in
set_option maxRecDepth 100000 in
theorem lc_ownerOf (C : Ctx p s m args meth c R w RL nm cL_law 7 (some .boolean) 13 488 601024 7293033) (hN : NX s) (hX : SX b L xs w s) (hi : 5 * i + 5 ≤ L) (q1 : n1 ≤ 600000) (q2 : n2 ≤ 7000000) (h : ST l w k mL_ownerOf [(0, 10, 13, 28), (0, 10, 17, 13)] mX6_ownerOf [.int (xs (5 * i + 1)), .int (xs (5 * i + 2))] hs) (TL : ∀ (hs2 : Hs) (u2 : Nat → Int32) (A2 : Nat → Nat → Int32) (g2 : Nat → Int64) (lv : List (Nat × Value)), LI w k g2 u2 A2 hs2 → subL [(0, .ref b), (1, .ref (wB w + k)), (2, .ref (wB w + (k + 137))), (3, .ref (wB w + (k + 145))), (4, .int (nI (5 * i)))] lv → ZW p l e R s m args below meth c w 7 hs2 none (n1 + 1) (n2 + 6) Q 1763 lv []) : ZW p l e R s m args below meth c w 7 hs none n1 n2 Q 474 [(0, .ref b), (1, .ref (wB w + k)), (2, .ref (wB w + (k + 137))), (3, .ref (wB w + (k + 145))), (4, .int (nI (5 * i)))] [] := by
  refine z_aload_n C 1 dL_law_474 rfl rfl ?_
  refine z_aload_n C 0 dL_law_475 rfl rfl ?_
  refine z_iload C dL_law_476 rfl ?_
  refine z_iconst C (v := 1) dL_law_478 (by decide) ?_
  refine z_iadd C dL_law_479 ?_
  refine z_sl C hX (j := ((5 * i) + 1)) dL_law_480 (ix_add rfl rfl) (by omega) ?_
  refine z_aload_n C 0 dL_law_481 rfl rfl ?_
  refine z_iload C dL_law_482 rfl ?_
  refine z_iconst C (v := 2) dL_law_484 (by decide) ?_
  refine z_iadd C dL_law_485 ?_
  refine z_sl C hX (j := ((5 * i) + 2)) dL_law_486 (ix_add rfl rfl) (by omega) ?_
  refine z_aload_n C 3 dL_law_487 rfl rfl ?_
  obtain ⟨hs1, hs2, u2, A2, g2, fs, r, v, hW, hm1, hM, hI, h0, hr⟩ := h
  refine z_callSw C hN dL_law_488 csw_ownerOf hW rfl rfl (Nat.le_of_ble_eq_true rfl) ⟨Nat.le_of_ble_eq_true rfl, Nat.le_of_ble_eq_true rfl⟩ ⟨by omega, by omega⟩ ?_
  refine z_istore C dL_law_491 (by decide) ?_
  refine z_aload_n C 2 dL_law_493 rfl rfl ?_
  refine z_aload_n C 0 dL_law_494 rfl rfl ?_
  refine z_iload C dL_law_495 rfl ?_
  refine z_iconst C (v := 1) dL_law_497 (by decide) ?_
  refine z_iadd C dL_law_498 ?_
  refine z_sl C hX (j := ((5 * i) + 1)) dL_law_499 (ix_add rfl rfl) (by omega) ?_
  refine z_aload_n C 0 dL_law_500 rfl rfl ?_
  refine z_iload C dL_law_501 rfl ?_
  refine z_iconst C (v := 2) dL_law_503 (by decide) ?_
  refine z_iadd C dL_law_504 ?_
  refine z_sl C hX (j := ((5 * i) + 2)) dL_law_505 (ix_add rfl rfl) (by omega) ?_
  refine z_callV1 C dL_law_506 cv_L_128 hM hm1 rfl rfl (Nat.le_of_ble_eq_true rfl) ⟨Nat.le_of_ble_eq_true rfl, Nat.le_of_ble_eq_true rfl⟩ ⟨by omega, by omega⟩ ?_
  refine z_istore C dL_law_509 (by decide) ?_
  refine z_aload_n C 2 dL_law_511 rfl rfl ?_
  refine z_callV1 C dL_law_512 cv_L_101 (li_t hI) (li_m hI) rfl rfl (Nat.le_of_ble_eq_true rfl) ⟨Nat.le_of_ble_eq_true rfl, Nat.le_of_ble_eq_true rfl⟩ ⟨by omega, by omega⟩ ?_
  refine z_iload C dL_law_515 rfl ?_
  refine z_icmp_eq C 522 dL_law_517 (by decide) (fun _ => ?_) (fun q9 => absurd h0 q9)
  refine z_iload C dL_law_522 rfl ?_
  refine z_if_ne C 539 dL_law_524 (by decide) (fun c_524 => ?_) (fun c_524 => ?_)
  · skip
    refine z_goto C 1763 dL_law_539 (by decide) ?_
    exact TL hs2 u2 A2 g2 _ hI ⟨rfl, rfl, rfl, rfl, rfl, trivial⟩
  · skip
    refine z_aload_n C 3 dL_law_527 rfl rfl ?_
    refine z_iconst C (v := 0) dL_law_528 (by decide) ?_
    refine z_lald C (v := g2 0) dL_law_529 (li_o hI) vp_in_0 rfl ?_
    refine z_iload C dL_law_530 rfl ?_
    refine z_i2l C dL_law_532 rfl ?_
    refine z_lcmp C dL_law_533 ?_
    refine z_if_eq C 539 dL_law_534 (by decide) (fun _ => ?_) (fun q9 => absurd ((lg_cmp_eq _ _).mpr (hr c_524)) q9)
    refine z_goto C 1763 dL_law_539 (by decide) ?_
    exact TL hs2 u2 A2 g2 _ hI ⟨rfl, rfl, rfl, rfl, rfl, trivial⟩
set_option maxHeartbeats 4000000 in
set_option maxRecDepth 100000 in
theorem lc_way (C : Ctx p s m args meth c R w RL nm cL_law 7 (some .boolean) 13 488 601024 7293033) (hN : NX s) (hX : SX b L xs w s) (hi : 5 * i + 5 ≤ L) (q1 : n1 ≤ 600000) (q2 : n2 ≤ 7000000) (h : ST l w k mL_way [(0, 12, 15, 28), (0, 12, 19, 13)] mX6_way [.int (xs (5 * i + 1)), .int (xs (5 * i + 2)), .int (xs (5 * i + 3))] hs) (TL : ∀ (hs2 : Hs) (u2 : Nat → Int32) (A2 : Nat → Nat → Int32) (g2 : Nat → Int64) (lv : List (Nat × Value)), LI w k g2 u2 A2 hs2 → subL [(0, .ref b), (1, .ref (wB w + k)), (2, .ref (wB w + (k + 137))), (3, .ref (wB w + (k + 145))), (4, .int (nI (5 * i)))] lv → ZW p l e R s m args below meth c w 7 hs2 none (n1 + 1) (n2 + 6) Q 1763 lv []) : ZW p l e R s m args below meth c w 7 hs none n1 n2 Q 542 [(0, .ref b), (1, .ref (wB w + k)), (2, .ref (wB w + (k + 137))), (3, .ref (wB w + (k + 145))), (4, .int (nI (5 * i)))] [] := by
  refine z_aload_n C 1 dL_law_542 rfl rfl ?_
  refine z_aload_n C 0 dL_law_543 rfl rfl ?_
  refine z_iload C dL_law_544 rfl ?_
  refine z_iconst C (v := 1) dL_law_546 (by decide) ?_
  refine z_iadd C dL_law_547 ?_
  refine z_sl C hX (j := ((5 * i) + 1)) dL_law_548 (ix_add rfl rfl) (by omega) ?_
  refine z_aload_n C 0 dL_law_549 rfl rfl ?_
  refine z_iload C dL_law_550 rfl ?_
  refine z_iconst C (v := 2) dL_law_552 (by decide) ?_
  refine z_iadd C dL_law_553 ?_
  refine z_sl C hX (j := ((5 * i) + 2)) dL_law_554 (ix_add rfl rfl) (by omega) ?_
  refine z_aload_n C 0 dL_law_555 rfl rfl ?_
  refine z_iload C dL_law_556 rfl ?_
  refine z_iconst C (v := 3) dL_law_558 (by decide) ?_
  refine z_iadd C dL_law_559 ?_
  refine z_sl C hX (j := ((5 * i) + 3)) dL_law_560 (ix_add rfl rfl) (by omega) ?_
  refine z_aload_n C 3 dL_law_561 rfl rfl ?_
  obtain ⟨hs1, hs2, u2, A2, g2, fs, r, v, hW, hm1, hM, hI, h0, hr⟩ := h
  refine z_callSw C hN dL_law_562 csw_way hW rfl rfl (Nat.le_of_ble_eq_true rfl) ⟨Nat.le_of_ble_eq_true rfl, Nat.le_of_ble_eq_true rfl⟩ ⟨by omega, by omega⟩ ?_
  refine z_istore C dL_law_565 (by decide) ?_
  refine z_aload_n C 2 dL_law_567 rfl rfl ?_
  refine z_aload_n C 0 dL_law_568 rfl rfl ?_
  refine z_iload C dL_law_569 rfl ?_
  refine z_iconst C (v := 1) dL_law_571 (by decide) ?_
  refine z_iadd C dL_law_572 ?_
  refine z_sl C hX (j := ((5 * i) + 1)) dL_law_573 (ix_add rfl rfl) (by omega) ?_
  refine z_aload_n C 0 dL_law_574 rfl rfl ?_
  refine z_iload C dL_law_575 rfl ?_
  refine z_iconst C (v := 2) dL_law_577 (by decide) ?_
  refine z_iadd C dL_law_578 ?_
  refine z_sl C hX (j := ((5 * i) + 2)) dL_law_579 (ix_add rfl rfl) (by omega) ?_
  refine z_aload_n C 0 dL_law_580 rfl rfl ?_
  refine z_iload C dL_law_581 rfl ?_
  refine z_iconst C (v := 3) dL_law_583 (by decide) ?_
  refine z_iadd C dL_law_584 ?_
  refine z_sl C hX (j := ((5 * i) + 3)) dL_law_585 (ix_add rfl rfl) (by omega) ?_
  refine z_callV1 C dL_law_586 cv_L_132 hM hm1 rfl rfl (Nat.le_of_ble_eq_true rfl) ⟨Nat.le_of_ble_eq_true rfl, Nat.le_of_ble_eq_true rfl⟩ ⟨by omega, by omega⟩ ?_
  refine z_istore C dL_law_589 (by decide) ?_
  refine z_aload_n C 2 dL_law_591 rfl rfl ?_
  refine z_callV1 C dL_law_592 cv_L_101 (li_t hI) (li_m hI) rfl rfl (Nat.le_of_ble_eq_true rfl) ⟨Nat.le_of_ble_eq_true rfl, Nat.le_of_ble_eq_true rfl⟩ ⟨by omega, by omega⟩ ?_
  refine z_iload C dL_law_595 rfl ?_
  refine z_icmp_eq C 602 dL_law_597 (by decide) (fun _ => ?_) (fun q9 => absurd h0 q9)
  refine z_iload C dL_law_602 rfl ?_
  refine z_if_ne C 619 dL_law_604 (by decide) (fun c_604 => ?_) (fun c_604 => ?_)
  · skip
    refine z_goto C 1763 dL_law_619 (by decide) ?_
    exact TL hs2 u2 A2 g2 _ hI ⟨rfl, rfl, rfl, rfl, rfl, trivial⟩
  · skip
    refine z_aload_n C 3 dL_law_607 rfl rfl ?_
    refine z_iconst C (v := 0) dL_law_608 (by decide) ?_
    refine z_lald C (v := g2 0) dL_law_609 (li_o hI) vp_in_0 rfl ?_
    refine z_iload C dL_law_610 rfl ?_
    refine z_i2l C dL_law_612 rfl ?_
    refine z_lcmp C dL_law_613 ?_
    refine z_if_eq C 619 dL_law_614 (by decide) (fun _ => ?_) (fun q9 => absurd ((lg_cmp_eq _ _).mpr (hr c_604)) q9)
    refine z_goto C 1763 dL_law_619 (by decide) ?_
    exact TL hs2 u2 A2 g2 _ hI ⟨rfl, rfl, rfl, rfl, rfl, trivial⟩
set_option maxHeartbeats 4000000 in
set_option maxRecDepth 100000 in
theorem lc_setting (C : Ctx p s m args meth c R w RL nm cL_law 7 (some .boolean) 13 488 601024 7293033) (hN : NX s) (hX : SX b L xs w s) (hi : 5 * i + 5 ≤ L) (q1 : n1 ≤ 600000) (q2 : n2 ≤ 7000000) (h : ST l w k mL_setting [(0, 9, 12, 13)] mX6_setting [.int (xs (5 * i + 1))] hs) (TL : ∀ (hs2 : Hs) (u2 : Nat → Int32) (A2 : Nat → Nat → Int32) (g2 : Nat → Int64) (lv : List (Nat × Value)), LI w k g2 u2 A2 hs2 → subL [(0, .ref b), (1, .ref (wB w + k)), (2, .ref (wB w + (k + 137))), (3, .ref (wB w + (k + 145))), (4, .int (nI (5 * i)))] lv → ZW p l e R s m args below meth c w 7 hs2 none (n1 + 1) (n2 + 6) Q 1763 lv []) : ZW p l e R s m args below meth c w 7 hs none n1 n2 Q 622 [(0, .ref b), (1, .ref (wB w + k)), (2, .ref (wB w + (k + 137))), (3, .ref (wB w + (k + 145))), (4, .int (nI (5 * i)))] [] := by
  refine z_aload_n C 1 dL_law_622 rfl rfl ?_
  refine z_aload_n C 0 dL_law_623 rfl rfl ?_
  refine z_iload C dL_law_624 rfl ?_
  refine z_iconst C (v := 1) dL_law_626 (by decide) ?_
  refine z_iadd C dL_law_627 ?_
  refine z_sl C hX (j := ((5 * i) + 1)) dL_law_628 (ix_add rfl rfl) (by omega) ?_
  refine z_aload_n C 3 dL_law_629 rfl rfl ?_
  obtain ⟨hs1, hs2, u2, A2, g2, fs, r, v, hW, hm1, hM, hI, h0, hr⟩ := h
  refine z_callSw C hN dL_law_630 csw_setting hW rfl rfl (Nat.le_of_ble_eq_true rfl) ⟨Nat.le_of_ble_eq_true rfl, Nat.le_of_ble_eq_true rfl⟩ ⟨by omega, by omega⟩ ?_
  refine z_istore C dL_law_633 (by decide) ?_
  refine z_aload_n C 2 dL_law_635 rfl rfl ?_
  refine z_aload_n C 0 dL_law_636 rfl rfl ?_
  refine z_iload C dL_law_637 rfl ?_
  refine z_iconst C (v := 1) dL_law_639 (by decide) ?_
  refine z_iadd C dL_law_640 ?_
  refine z_sl C hX (j := ((5 * i) + 1)) dL_law_641 (ix_add rfl rfl) (by omega) ?_
  refine z_callV1 C dL_law_642 cv_L_135 hM hm1 rfl rfl (Nat.le_of_ble_eq_true rfl) ⟨Nat.le_of_ble_eq_true rfl, Nat.le_of_ble_eq_true rfl⟩ ⟨by omega, by omega⟩ ?_
  refine z_istore C dL_law_645 (by decide) ?_
  refine z_aload_n C 2 dL_law_647 rfl rfl ?_
  refine z_callV1 C dL_law_648 cv_L_101 (li_t hI) (li_m hI) rfl rfl (Nat.le_of_ble_eq_true rfl) ⟨Nat.le_of_ble_eq_true rfl, Nat.le_of_ble_eq_true rfl⟩ ⟨by omega, by omega⟩ ?_
  refine z_iload C dL_law_651 rfl ?_
  refine z_icmp_eq C 658 dL_law_653 (by decide) (fun _ => ?_) (fun q9 => absurd h0 q9)
  refine z_iload C dL_law_658 rfl ?_
  refine z_if_ne C 675 dL_law_660 (by decide) (fun c_660 => ?_) (fun c_660 => ?_)
  · skip
    refine z_goto C 1763 dL_law_675 (by decide) ?_
    exact TL hs2 u2 A2 g2 _ hI ⟨rfl, rfl, rfl, rfl, rfl, trivial⟩
  · skip
    refine z_aload_n C 3 dL_law_663 rfl rfl ?_
    refine z_iconst C (v := 0) dL_law_664 (by decide) ?_
    refine z_lald C (v := g2 0) dL_law_665 (li_o hI) vp_in_0 rfl ?_
    refine z_iload C dL_law_666 rfl ?_
    refine z_i2l C dL_law_668 rfl ?_
    refine z_lcmp C dL_law_669 ?_
    refine z_if_eq C 675 dL_law_670 (by decide) (fun _ => ?_) (fun q9 => absurd ((lg_cmp_eq _ _).mpr (hr c_660)) q9)
    refine z_goto C 1763 dL_law_675 (by decide) ?_
    exact TL hs2 u2 A2 g2 _ hI ⟨rfl, rfl, rfl, rfl, rfl, trivial⟩
set_option maxHeartbeats 4000000 in
set_option maxRecDepth 100000 in
theorem lc_gutter (C : Ctx p s m args meth c R w RL nm cL_law 7 (some .boolean) 13 488 601024 7293033) (hN : NX s) (hX : SX b L xs w s) (hi : 5 * i + 5 ≤ L) (q1 : n1 ≤ 600000) (q2 : n2 ≤ 7000000) (h : ST l w k mL_gutter [(0, 14, 17, 28), (0, 14, 21, 13), (0, 14, 25, 15)] mX6_gutter [.int (xs (5 * i + 1)), .int (xs (5 * i + 2)), .int (xs (5 * i + 3)), .int (xs (5 * i + 4))] hs) (TL : ∀ (hs2 : Hs) (u2 : Nat → Int32) (A2 : Nat → Nat → Int32) (g2 : Nat → Int64) (lv : List (Nat × Value)), LI w k g2 u2 A2 hs2 → subL [(0, .ref b), (1, .ref (wB w + k)), (2, .ref (wB w + (k + 137))), (3, .ref (wB w + (k + 145))), (4, .int (nI (5 * i)))] lv → ZW p l e R s m args below meth c w 7 hs2 none (n1 + 1) (n2 + 6) Q 1763 lv []) : ZW p l e R s m args below meth c w 7 hs none n1 n2 Q 678 [(0, .ref b), (1, .ref (wB w + k)), (2, .ref (wB w + (k + 137))), (3, .ref (wB w + (k + 145))), (4, .int (nI (5 * i)))] [] := by
  refine z_aload_n C 1 dL_law_678 rfl rfl ?_
  refine z_aload_n C 0 dL_law_679 rfl rfl ?_
  refine z_iload C dL_law_680 rfl ?_
  refine z_iconst C (v := 1) dL_law_682 (by decide) ?_
  refine z_iadd C dL_law_683 ?_
  refine z_sl C hX (j := ((5 * i) + 1)) dL_law_684 (ix_add rfl rfl) (by omega) ?_
  refine z_aload_n C 0 dL_law_685 rfl rfl ?_
  refine z_iload C dL_law_686 rfl ?_
  refine z_iconst C (v := 2) dL_law_688 (by decide) ?_
  refine z_iadd C dL_law_689 ?_
  refine z_sl C hX (j := ((5 * i) + 2)) dL_law_690 (ix_add rfl rfl) (by omega) ?_
  refine z_aload_n C 0 dL_law_691 rfl rfl ?_
  refine z_iload C dL_law_692 rfl ?_
  refine z_iconst C (v := 3) dL_law_694 (by decide) ?_
  refine z_iadd C dL_law_695 ?_
  refine z_sl C hX (j := ((5 * i) + 3)) dL_law_696 (ix_add rfl rfl) (by omega) ?_
  refine z_aload_n C 0 dL_law_697 rfl rfl ?_
  refine z_iload C dL_law_698 rfl ?_
  refine z_iconst C (v := 4) dL_law_700 (by decide) ?_
  refine z_iadd C dL_law_701 ?_
  refine z_sl C hX (j := ((5 * i) + 4)) dL_law_702 (ix_add rfl rfl) (by omega) ?_
  refine z_aload_n C 3 dL_law_703 rfl rfl ?_
  obtain ⟨hs1, hs2, u2, A2, g2, fs, r, v, hW, hm1, hM, hI, h0, hr⟩ := h
  refine z_callSw C hN dL_law_704 csw_gutter hW rfl rfl (Nat.le_of_ble_eq_true rfl) ⟨Nat.le_of_ble_eq_true rfl, Nat.le_of_ble_eq_true rfl⟩ ⟨by omega, by omega⟩ ?_
  refine z_istore C dL_law_707 (by decide) ?_
  refine z_aload_n C 2 dL_law_709 rfl rfl ?_
  refine z_aload_n C 0 dL_law_710 rfl rfl ?_
  refine z_iload C dL_law_711 rfl ?_
  refine z_iconst C (v := 1) dL_law_713 (by decide) ?_
  refine z_iadd C dL_law_714 ?_
  refine z_sl C hX (j := ((5 * i) + 1)) dL_law_715 (ix_add rfl rfl) (by omega) ?_
  refine z_aload_n C 0 dL_law_716 rfl rfl ?_
  refine z_iload C dL_law_717 rfl ?_
  refine z_iconst C (v := 2) dL_law_719 (by decide) ?_
  refine z_iadd C dL_law_720 ?_
  refine z_sl C hX (j := ((5 * i) + 2)) dL_law_721 (ix_add rfl rfl) (by omega) ?_
  refine z_aload_n C 0 dL_law_722 rfl rfl ?_
  refine z_iload C dL_law_723 rfl ?_
  refine z_iconst C (v := 3) dL_law_725 (by decide) ?_
  refine z_iadd C dL_law_726 ?_
  refine z_sl C hX (j := ((5 * i) + 3)) dL_law_727 (ix_add rfl rfl) (by omega) ?_
  refine z_aload_n C 0 dL_law_728 rfl rfl ?_
  refine z_iload C dL_law_729 rfl ?_
  refine z_iconst C (v := 4) dL_law_731 (by decide) ?_
  refine z_iadd C dL_law_732 ?_
  refine z_sl C hX (j := ((5 * i) + 4)) dL_law_733 (ix_add rfl rfl) (by omega) ?_
  refine z_callV1 C dL_law_734 cv_L_139 hM hm1 rfl rfl (Nat.le_of_ble_eq_true rfl) ⟨Nat.le_of_ble_eq_true rfl, Nat.le_of_ble_eq_true rfl⟩ ⟨by omega, by omega⟩ ?_
  refine z_istore C dL_law_737 (by decide) ?_
  refine z_aload_n C 2 dL_law_739 rfl rfl ?_
  refine z_callV1 C dL_law_740 cv_L_101 (li_t hI) (li_m hI) rfl rfl (Nat.le_of_ble_eq_true rfl) ⟨Nat.le_of_ble_eq_true rfl, Nat.le_of_ble_eq_true rfl⟩ ⟨by omega, by omega⟩ ?_
  refine z_iload C dL_law_743 rfl ?_
  refine z_icmp_eq C 750 dL_law_745 (by decide) (fun _ => ?_) (fun q9 => absurd h0 q9)
  refine z_iload C dL_law_750 rfl ?_
  refine z_if_ne C 767 dL_law_752 (by decide) (fun c_752 => ?_) (fun c_752 => ?_)
  · skip
    refine z_goto C 1763 dL_law_767 (by decide) ?_
    exact TL hs2 u2 A2 g2 _ hI ⟨rfl, rfl, rfl, rfl, rfl, trivial⟩
  · skip
    refine z_aload_n C 3 dL_law_755 rfl rfl ?_
    refine z_iconst C (v := 0) dL_law_756 (by decide) ?_
    refine z_lald C (v := g2 0) dL_law_757 (li_o hI) vp_in_0 rfl ?_
    refine z_iload C dL_law_758 rfl ?_
    refine z_i2l C dL_law_760 rfl ?_
    refine z_lcmp C dL_law_761 ?_
    refine z_if_eq C 767 dL_law_762 (by decide) (fun _ => ?_) (fun q9 => absurd ((lg_cmp_eq _ _).mpr (hr c_752)) q9)
    refine z_goto C 1763 dL_law_767 (by decide) ?_
    exact TL hs2 u2 A2 g2 _ hI ⟨rfl, rfl, rfl, rfl, rfl, trivial⟩
set_option maxHeartbeats 4000000 in
set_option maxRecDepth 100000 in
theorem lc_boat (C : Ctx p s m args meth c R w RL nm cL_law 7 (some .boolean) 13 488 601024 7293033) (hN : NX s) (hX : SX b L xs w s) (hi : 5 * i + 5 ≤ L) (q1 : n1 ≤ 600000) (q2 : n2 ≤ 7000000) (h : ST l w k mL_boat [(0, 12, 15, 28), (0, 12, 19, 13), (0, 12, 23, 15)] mX6_boat [.int (xs (5 * i + 1)), .int (xs (5 * i + 2)), .int (xs (5 * i + 3))] hs) (TL : ∀ (hs2 : Hs) (u2 : Nat → Int32) (A2 : Nat → Nat → Int32) (g2 : Nat → Int64) (lv : List (Nat × Value)), LI w k g2 u2 A2 hs2 → subL [(0, .ref b), (1, .ref (wB w + k)), (2, .ref (wB w + (k + 137))), (3, .ref (wB w + (k + 145))), (4, .int (nI (5 * i)))] lv → ZW p l e R s m args below meth c w 7 hs2 none (n1 + 1) (n2 + 6) Q 1763 lv []) : ZW p l e R s m args below meth c w 7 hs none n1 n2 Q 770 [(0, .ref b), (1, .ref (wB w + k)), (2, .ref (wB w + (k + 137))), (3, .ref (wB w + (k + 145))), (4, .int (nI (5 * i)))] [] := by
  refine z_aload_n C 1 dL_law_770 rfl rfl ?_
  refine z_aload_n C 0 dL_law_771 rfl rfl ?_
  refine z_iload C dL_law_772 rfl ?_
  refine z_iconst C (v := 1) dL_law_774 (by decide) ?_
  refine z_iadd C dL_law_775 ?_
  refine z_sl C hX (j := ((5 * i) + 1)) dL_law_776 (ix_add rfl rfl) (by omega) ?_
  refine z_aload_n C 0 dL_law_777 rfl rfl ?_
  refine z_iload C dL_law_778 rfl ?_
  refine z_iconst C (v := 2) dL_law_780 (by decide) ?_
  refine z_iadd C dL_law_781 ?_
  refine z_sl C hX (j := ((5 * i) + 2)) dL_law_782 (ix_add rfl rfl) (by omega) ?_
  refine z_aload_n C 0 dL_law_783 rfl rfl ?_
  refine z_iload C dL_law_784 rfl ?_
  refine z_iconst C (v := 3) dL_law_786 (by decide) ?_
  refine z_iadd C dL_law_787 ?_
  refine z_sl C hX (j := ((5 * i) + 3)) dL_law_788 (ix_add rfl rfl) (by omega) ?_
  refine z_aload_n C 3 dL_law_789 rfl rfl ?_
  obtain ⟨hs1, hs2, u2, A2, g2, fs, r, v, hW, hm1, hM, hI, h0, hr⟩ := h
  refine z_callSw C hN dL_law_790 csw_boat hW rfl rfl (Nat.le_of_ble_eq_true rfl) ⟨Nat.le_of_ble_eq_true rfl, Nat.le_of_ble_eq_true rfl⟩ ⟨by omega, by omega⟩ ?_
  refine z_istore C dL_law_793 (by decide) ?_
  refine z_aload_n C 2 dL_law_795 rfl rfl ?_
  refine z_aload_n C 0 dL_law_796 rfl rfl ?_
  refine z_iload C dL_law_797 rfl ?_
  refine z_iconst C (v := 1) dL_law_799 (by decide) ?_
  refine z_iadd C dL_law_800 ?_
  refine z_sl C hX (j := ((5 * i) + 1)) dL_law_801 (ix_add rfl rfl) (by omega) ?_
  refine z_aload_n C 0 dL_law_802 rfl rfl ?_
  refine z_iload C dL_law_803 rfl ?_
  refine z_iconst C (v := 2) dL_law_805 (by decide) ?_
  refine z_iadd C dL_law_806 ?_
  refine z_sl C hX (j := ((5 * i) + 2)) dL_law_807 (ix_add rfl rfl) (by omega) ?_
  refine z_aload_n C 0 dL_law_808 rfl rfl ?_
  refine z_iload C dL_law_809 rfl ?_
  refine z_iconst C (v := 3) dL_law_811 (by decide) ?_
  refine z_iadd C dL_law_812 ?_
  refine z_sl C hX (j := ((5 * i) + 3)) dL_law_813 (ix_add rfl rfl) (by omega) ?_
  refine z_callV1 C dL_law_814 cv_L_142 hM hm1 rfl rfl (Nat.le_of_ble_eq_true rfl) ⟨Nat.le_of_ble_eq_true rfl, Nat.le_of_ble_eq_true rfl⟩ ⟨by omega, by omega⟩ ?_
  refine z_istore C dL_law_817 (by decide) ?_
  refine z_aload_n C 2 dL_law_819 rfl rfl ?_
  refine z_callV1 C dL_law_820 cv_L_101 (li_t hI) (li_m hI) rfl rfl (Nat.le_of_ble_eq_true rfl) ⟨Nat.le_of_ble_eq_true rfl, Nat.le_of_ble_eq_true rfl⟩ ⟨by omega, by omega⟩ ?_
  refine z_iload C dL_law_823 rfl ?_
  refine z_icmp_eq C 830 dL_law_825 (by decide) (fun _ => ?_) (fun q9 => absurd h0 q9)
  refine z_iload C dL_law_830 rfl ?_
  refine z_if_ne C 847 dL_law_832 (by decide) (fun c_832 => ?_) (fun c_832 => ?_)
  · skip
    refine z_goto C 1763 dL_law_847 (by decide) ?_
    exact TL hs2 u2 A2 g2 _ hI ⟨rfl, rfl, rfl, rfl, rfl, trivial⟩
  · skip
    refine z_aload_n C 3 dL_law_835 rfl rfl ?_
    refine z_iconst C (v := 0) dL_law_836 (by decide) ?_
    refine z_lald C (v := g2 0) dL_law_837 (li_o hI) vp_in_0 rfl ?_
    refine z_iload C dL_law_838 rfl ?_
    refine z_i2l C dL_law_840 rfl ?_
    refine z_lcmp C dL_law_841 ?_
    refine z_if_eq C 847 dL_law_842 (by decide) (fun _ => ?_) (fun q9 => absurd ((lg_cmp_eq _ _).mpr (hr c_832)) q9)
    refine z_goto C 1763 dL_law_847 (by decide) ?_
    exact TL hs2 u2 A2 g2 _ hI ⟨rfl, rfl, rfl, rfl, rfl, trivial⟩
set_option maxHeartbeats 4000000 in
set_option maxRecDepth 100000 in
theorem lc_launch (C : Ctx p s m args meth c R w RL nm cL_law 7 (some .boolean) 13 488 601024 7293033) (hN : NX s) (hX : SX b L xs w s) (hi : 5 * i + 5 ≤ L) (q1 : n1 ≤ 600000) (q2 : n2 ≤ 7000000) (h : ST l w k mL_launch [(0, 10, 13, 28), (0, 10, 17, 15)] mX6_launch [.int (xs (5 * i + 1)), .int (xs (5 * i + 2))] hs) (TL : ∀ (hs2 : Hs) (u2 : Nat → Int32) (A2 : Nat → Nat → Int32) (g2 : Nat → Int64) (lv : List (Nat × Value)), LI w k g2 u2 A2 hs2 → subL [(0, .ref b), (1, .ref (wB w + k)), (2, .ref (wB w + (k + 137))), (3, .ref (wB w + (k + 145))), (4, .int (nI (5 * i)))] lv → ZW p l e R s m args below meth c w 7 hs2 none (n1 + 1) (n2 + 6) Q 1763 lv []) : ZW p l e R s m args below meth c w 7 hs none n1 n2 Q 850 [(0, .ref b), (1, .ref (wB w + k)), (2, .ref (wB w + (k + 137))), (3, .ref (wB w + (k + 145))), (4, .int (nI (5 * i)))] [] := by
  refine z_aload_n C 1 dL_law_850 rfl rfl ?_
  refine z_aload_n C 0 dL_law_851 rfl rfl ?_
  refine z_iload C dL_law_852 rfl ?_
  refine z_iconst C (v := 1) dL_law_854 (by decide) ?_
  refine z_iadd C dL_law_855 ?_
  refine z_sl C hX (j := ((5 * i) + 1)) dL_law_856 (ix_add rfl rfl) (by omega) ?_
  refine z_aload_n C 0 dL_law_857 rfl rfl ?_
  refine z_iload C dL_law_858 rfl ?_
  refine z_iconst C (v := 2) dL_law_860 (by decide) ?_
  refine z_iadd C dL_law_861 ?_
  refine z_sl C hX (j := ((5 * i) + 2)) dL_law_862 (ix_add rfl rfl) (by omega) ?_
  refine z_aload_n C 3 dL_law_863 rfl rfl ?_
  obtain ⟨hs1, hs2, u2, A2, g2, fs, r, v, hW, hm1, hM, hI, h0, hr⟩ := h
  refine z_callSw C hN dL_law_864 csw_launch hW rfl rfl (Nat.le_of_ble_eq_true rfl) ⟨Nat.le_of_ble_eq_true rfl, Nat.le_of_ble_eq_true rfl⟩ ⟨by omega, by omega⟩ ?_
  refine z_istore C dL_law_867 (by decide) ?_
  refine z_aload_n C 2 dL_law_869 rfl rfl ?_
  refine z_aload_n C 0 dL_law_870 rfl rfl ?_
  refine z_iload C dL_law_871 rfl ?_
  refine z_iconst C (v := 1) dL_law_873 (by decide) ?_
  refine z_iadd C dL_law_874 ?_
  refine z_sl C hX (j := ((5 * i) + 1)) dL_law_875 (ix_add rfl rfl) (by omega) ?_
  refine z_aload_n C 0 dL_law_876 rfl rfl ?_
  refine z_iload C dL_law_877 rfl ?_
  refine z_iconst C (v := 2) dL_law_879 (by decide) ?_
  refine z_iadd C dL_law_880 ?_
  refine z_sl C hX (j := ((5 * i) + 2)) dL_law_881 (ix_add rfl rfl) (by omega) ?_
  refine z_callV1 C dL_law_882 cv_L_145 hM hm1 rfl rfl (Nat.le_of_ble_eq_true rfl) ⟨Nat.le_of_ble_eq_true rfl, Nat.le_of_ble_eq_true rfl⟩ ⟨by omega, by omega⟩ ?_
  refine z_istore C dL_law_885 (by decide) ?_
  refine z_aload_n C 2 dL_law_887 rfl rfl ?_
  refine z_callV1 C dL_law_888 cv_L_101 (li_t hI) (li_m hI) rfl rfl (Nat.le_of_ble_eq_true rfl) ⟨Nat.le_of_ble_eq_true rfl, Nat.le_of_ble_eq_true rfl⟩ ⟨by omega, by omega⟩ ?_
  refine z_iload C dL_law_891 rfl ?_
  refine z_icmp_eq C 898 dL_law_893 (by decide) (fun _ => ?_) (fun q9 => absurd h0 q9)
  refine z_iload C dL_law_898 rfl ?_
  refine z_if_ne C 915 dL_law_900 (by decide) (fun c_900 => ?_) (fun c_900 => ?_)
  · skip
    refine z_goto C 1763 dL_law_915 (by decide) ?_
    exact TL hs2 u2 A2 g2 _ hI ⟨rfl, rfl, rfl, rfl, rfl, trivial⟩
  · skip
    refine z_aload_n C 3 dL_law_903 rfl rfl ?_
    refine z_iconst C (v := 0) dL_law_904 (by decide) ?_
    refine z_lald C (v := g2 0) dL_law_905 (li_o hI) vp_in_0 rfl ?_
    refine z_iload C dL_law_906 rfl ?_
    refine z_i2l C dL_law_908 rfl ?_
    refine z_lcmp C dL_law_909 ?_
    refine z_if_eq C 915 dL_law_910 (by decide) (fun _ => ?_) (fun q9 => absurd ((lg_cmp_eq _ _).mpr (hr c_900)) q9)
    refine z_goto C 1763 dL_law_915 (by decide) ?_
    exact TL hs2 u2 A2 g2 _ hI ⟨rfl, rfl, rfl, rfl, rfl, trivial⟩
set_option maxHeartbeats 4000000 in
set_option maxRecDepth 100000 in
theorem lc_hook (C : Ctx p s m args meth c R w RL nm cL_law 7 (some .boolean) 13 488 601024 7293033) (hN : NX s) (hX : SX b L xs w s) (hi : 5 * i + 5 ≤ L) (q1 : n1 ≤ 600000) (q2 : n2 ≤ 7000000) (h : ST l w k mL_hook [(0, 12, 15, 28)] mX6_hook [.int (xs (5 * i + 1)), .int (xs (5 * i + 2)), .int (xs (5 * i + 3))] hs) (TL : ∀ (hs2 : Hs) (u2 : Nat → Int32) (A2 : Nat → Nat → Int32) (g2 : Nat → Int64) (lv : List (Nat × Value)), LI w k g2 u2 A2 hs2 → subL [(0, .ref b), (1, .ref (wB w + k)), (2, .ref (wB w + (k + 137))), (3, .ref (wB w + (k + 145))), (4, .int (nI (5 * i)))] lv → ZW p l e R s m args below meth c w 7 hs2 none (n1 + 1) (n2 + 6) Q 1763 lv []) : ZW p l e R s m args below meth c w 7 hs none n1 n2 Q 918 [(0, .ref b), (1, .ref (wB w + k)), (2, .ref (wB w + (k + 137))), (3, .ref (wB w + (k + 145))), (4, .int (nI (5 * i)))] [] := by
  refine z_aload_n C 1 dL_law_918 rfl rfl ?_
  refine z_aload_n C 0 dL_law_919 rfl rfl ?_
  refine z_iload C dL_law_920 rfl ?_
  refine z_iconst C (v := 1) dL_law_922 (by decide) ?_
  refine z_iadd C dL_law_923 ?_
  refine z_sl C hX (j := ((5 * i) + 1)) dL_law_924 (ix_add rfl rfl) (by omega) ?_
  refine z_aload_n C 0 dL_law_925 rfl rfl ?_
  refine z_iload C dL_law_926 rfl ?_
  refine z_iconst C (v := 2) dL_law_928 (by decide) ?_
  refine z_iadd C dL_law_929 ?_
  refine z_sl C hX (j := ((5 * i) + 2)) dL_law_930 (ix_add rfl rfl) (by omega) ?_
  refine z_aload_n C 0 dL_law_931 rfl rfl ?_
  refine z_iload C dL_law_932 rfl ?_
  refine z_iconst C (v := 3) dL_law_934 (by decide) ?_
  refine z_iadd C dL_law_935 ?_
  refine z_sl C hX (j := ((5 * i) + 3)) dL_law_936 (ix_add rfl rfl) (by omega) ?_
  refine z_aload_n C 3 dL_law_937 rfl rfl ?_
  obtain ⟨hs1, hs2, u2, A2, g2, fs, r, v, hW, hm1, hM, hI, h0, hr⟩ := h
  refine z_callSw C hN dL_law_938 csw_hook hW rfl rfl (Nat.le_of_ble_eq_true rfl) ⟨Nat.le_of_ble_eq_true rfl, Nat.le_of_ble_eq_true rfl⟩ ⟨by omega, by omega⟩ ?_
  refine z_istore C dL_law_941 (by decide) ?_
  refine z_aload_n C 2 dL_law_943 rfl rfl ?_
  refine z_aload_n C 0 dL_law_944 rfl rfl ?_
  refine z_iload C dL_law_945 rfl ?_
  refine z_iconst C (v := 1) dL_law_947 (by decide) ?_
  refine z_iadd C dL_law_948 ?_
  refine z_sl C hX (j := ((5 * i) + 1)) dL_law_949 (ix_add rfl rfl) (by omega) ?_
  refine z_aload_n C 0 dL_law_950 rfl rfl ?_
  refine z_iload C dL_law_951 rfl ?_
  refine z_iconst C (v := 2) dL_law_953 (by decide) ?_
  refine z_iadd C dL_law_954 ?_
  refine z_sl C hX (j := ((5 * i) + 2)) dL_law_955 (ix_add rfl rfl) (by omega) ?_
  refine z_aload_n C 0 dL_law_956 rfl rfl ?_
  refine z_iload C dL_law_957 rfl ?_
  refine z_iconst C (v := 3) dL_law_959 (by decide) ?_
  refine z_iadd C dL_law_960 ?_
  refine z_sl C hX (j := ((5 * i) + 3)) dL_law_961 (ix_add rfl rfl) (by omega) ?_
  refine z_callV1 C dL_law_962 cv_L_148 hM hm1 rfl rfl (Nat.le_of_ble_eq_true rfl) ⟨Nat.le_of_ble_eq_true rfl, Nat.le_of_ble_eq_true rfl⟩ ⟨by omega, by omega⟩ ?_
  refine z_istore C dL_law_965 (by decide) ?_
  refine z_aload_n C 2 dL_law_967 rfl rfl ?_
  refine z_callV1 C dL_law_968 cv_L_101 (li_t hI) (li_m hI) rfl rfl (Nat.le_of_ble_eq_true rfl) ⟨Nat.le_of_ble_eq_true rfl, Nat.le_of_ble_eq_true rfl⟩ ⟨by omega, by omega⟩ ?_
  refine z_iload C dL_law_971 rfl ?_
  refine z_icmp_eq C 978 dL_law_973 (by decide) (fun _ => ?_) (fun q9 => absurd h0 q9)
  refine z_iload C dL_law_978 rfl ?_
  refine z_if_ne C 995 dL_law_980 (by decide) (fun c_980 => ?_) (fun c_980 => ?_)
  · skip
    refine z_goto C 1763 dL_law_995 (by decide) ?_
    exact TL hs2 u2 A2 g2 _ hI ⟨rfl, rfl, rfl, rfl, rfl, trivial⟩
  · skip
    refine z_aload_n C 3 dL_law_983 rfl rfl ?_
    refine z_iconst C (v := 0) dL_law_984 (by decide) ?_
    refine z_lald C (v := g2 0) dL_law_985 (li_o hI) vp_in_0 rfl ?_
    refine z_iload C dL_law_986 rfl ?_
    refine z_i2l C dL_law_988 rfl ?_
    refine z_lcmp C dL_law_989 ?_
    refine z_if_eq C 995 dL_law_990 (by decide) (fun _ => ?_) (fun q9 => absurd ((lg_cmp_eq _ _).mpr (hr c_980)) q9)
    refine z_goto C 1763 dL_law_995 (by decide) ?_
    exact TL hs2 u2 A2 g2 _ hI ⟨rfl, rfl, rfl, rfl, rfl, trivial⟩
set_option maxHeartbeats 4000000 in
set_option maxRecDepth 100000 in
theorem lc_claim (C : Ctx p s m args meth c R w RL nm cL_law 7 (some .boolean) 13 488 601024 7293033) (hN : NX s) (hX : SX b L xs w s) (hi : 5 * i + 5 ≤ L) (q1 : n1 ≤ 600000) (q2 : n2 ≤ 7000000) (h : ST l w k mL_claim [(0, 10, 13, 28)] mX6_claim [.int (xs (5 * i + 1)), .int (xs (5 * i + 2))] hs) (TL : ∀ (hs2 : Hs) (u2 : Nat → Int32) (A2 : Nat → Nat → Int32) (g2 : Nat → Int64) (lv : List (Nat × Value)), LI w k g2 u2 A2 hs2 → subL [(0, .ref b), (1, .ref (wB w + k)), (2, .ref (wB w + (k + 137))), (3, .ref (wB w + (k + 145))), (4, .int (nI (5 * i)))] lv → ZW p l e R s m args below meth c w 7 hs2 none (n1 + 1) (n2 + 6) Q 1763 lv []) : ZW p l e R s m args below meth c w 7 hs none n1 n2 Q 998 [(0, .ref b), (1, .ref (wB w + k)), (2, .ref (wB w + (k + 137))), (3, .ref (wB w + (k + 145))), (4, .int (nI (5 * i)))] [] := by
  refine z_aload_n C 1 dL_law_998 rfl rfl ?_
  refine z_aload_n C 0 dL_law_999 rfl rfl ?_
  refine z_iload C dL_law_1000 rfl ?_
  refine z_iconst C (v := 1) dL_law_1002 (by decide) ?_
  refine z_iadd C dL_law_1003 ?_
  refine z_sl C hX (j := ((5 * i) + 1)) dL_law_1004 (ix_add rfl rfl) (by omega) ?_
  refine z_aload_n C 0 dL_law_1005 rfl rfl ?_
  refine z_iload C dL_law_1006 rfl ?_
  refine z_iconst C (v := 2) dL_law_1008 (by decide) ?_
  refine z_iadd C dL_law_1009 ?_
  refine z_sl C hX (j := ((5 * i) + 2)) dL_law_1010 (ix_add rfl rfl) (by omega) ?_
  refine z_aload_n C 3 dL_law_1011 rfl rfl ?_
  obtain ⟨hs1, hs2, u2, A2, g2, fs, r, v, hW, hm1, hM, hI, h0, hr⟩ := h
  refine z_callSw C hN dL_law_1012 csw_claim hW rfl rfl (Nat.le_of_ble_eq_true rfl) ⟨Nat.le_of_ble_eq_true rfl, Nat.le_of_ble_eq_true rfl⟩ ⟨by omega, by omega⟩ ?_
  refine z_istore C dL_law_1015 (by decide) ?_
  refine z_aload_n C 2 dL_law_1017 rfl rfl ?_
  refine z_aload_n C 0 dL_law_1018 rfl rfl ?_
  refine z_iload C dL_law_1019 rfl ?_
  refine z_iconst C (v := 1) dL_law_1021 (by decide) ?_
  refine z_iadd C dL_law_1022 ?_
  refine z_sl C hX (j := ((5 * i) + 1)) dL_law_1023 (ix_add rfl rfl) (by omega) ?_
  refine z_aload_n C 0 dL_law_1024 rfl rfl ?_
  refine z_iload C dL_law_1025 rfl ?_
  refine z_iconst C (v := 2) dL_law_1027 (by decide) ?_
  refine z_iadd C dL_law_1028 ?_
  refine z_sl C hX (j := ((5 * i) + 2)) dL_law_1029 (ix_add rfl rfl) (by omega) ?_
  refine z_callV1 C dL_law_1030 cv_L_151 hM hm1 rfl rfl (Nat.le_of_ble_eq_true rfl) ⟨Nat.le_of_ble_eq_true rfl, Nat.le_of_ble_eq_true rfl⟩ ⟨by omega, by omega⟩ ?_
  refine z_istore C dL_law_1033 (by decide) ?_
  refine z_aload_n C 2 dL_law_1035 rfl rfl ?_
  refine z_callV1 C dL_law_1036 cv_L_101 (li_t hI) (li_m hI) rfl rfl (Nat.le_of_ble_eq_true rfl) ⟨Nat.le_of_ble_eq_true rfl, Nat.le_of_ble_eq_true rfl⟩ ⟨by omega, by omega⟩ ?_
  refine z_iload C dL_law_1039 rfl ?_
  refine z_icmp_eq C 1046 dL_law_1041 (by decide) (fun _ => ?_) (fun q9 => absurd h0 q9)
  refine z_iload C dL_law_1046 rfl ?_
  refine z_if_ne C 1063 dL_law_1048 (by decide) (fun c_1048 => ?_) (fun c_1048 => ?_)
  · skip
    refine z_goto C 1763 dL_law_1063 (by decide) ?_
    exact TL hs2 u2 A2 g2 _ hI ⟨rfl, rfl, rfl, rfl, rfl, trivial⟩
  · skip
    refine z_aload_n C 3 dL_law_1051 rfl rfl ?_
    refine z_iconst C (v := 0) dL_law_1052 (by decide) ?_
    refine z_lald C (v := g2 0) dL_law_1053 (li_o hI) vp_in_0 rfl ?_
    refine z_iload C dL_law_1054 rfl ?_
    refine z_i2l C dL_law_1056 rfl ?_
    refine z_lcmp C dL_law_1057 ?_
    refine z_if_eq C 1063 dL_law_1058 (by decide) (fun _ => ?_) (fun q9 => absurd ((lg_cmp_eq _ _).mpr (hr c_1048)) q9)
    refine z_goto C 1763 dL_law_1063 (by decide) ?_
    exact TL hs2 u2 A2 g2 _ hI ⟨rfl, rfl, rfl, rfl, rfl, trivial⟩
set_option maxHeartbeats 4000000 in
set_option maxRecDepth 100000 in
theorem lc_minutes (C : Ctx p s m args meth c R w RL nm cL_law 7 (some .boolean) 13 488 601024 7293033) (hN : NX s) (hX : SX b L xs w s) (hi : 5 * i + 5 ≤ L) (q1 : n1 ≤ 600000) (q2 : n2 ≤ 7000000) (h : ST l w k mL_minutes [(0, 9, 12, 13)] mX6_minutes [.int (xs (5 * i + 1))] hs) (TL : ∀ (hs2 : Hs) (u2 : Nat → Int32) (A2 : Nat → Nat → Int32) (g2 : Nat → Int64) (lv : List (Nat × Value)), LI w k g2 u2 A2 hs2 → subL [(0, .ref b), (1, .ref (wB w + k)), (2, .ref (wB w + (k + 137))), (3, .ref (wB w + (k + 145))), (4, .int (nI (5 * i)))] lv → ZW p l e R s m args below meth c w 7 hs2 none (n1 + 1) (n2 + 6) Q 1763 lv []) : ZW p l e R s m args below meth c w 7 hs none n1 n2 Q 1066 [(0, .ref b), (1, .ref (wB w + k)), (2, .ref (wB w + (k + 137))), (3, .ref (wB w + (k + 145))), (4, .int (nI (5 * i)))] [] := by
  refine z_aload_n C 1 dL_law_1066 rfl rfl ?_
  refine z_aload_n C 0 dL_law_1067 rfl rfl ?_
  refine z_iload C dL_law_1068 rfl ?_
  refine z_iconst C (v := 1) dL_law_1070 (by decide) ?_
  refine z_iadd C dL_law_1071 ?_
  refine z_sl C hX (j := ((5 * i) + 1)) dL_law_1072 (ix_add rfl rfl) (by omega) ?_
  refine z_aload_n C 3 dL_law_1073 rfl rfl ?_
  obtain ⟨hs1, hs2, u2, A2, g2, fs, r, v, hW, hm1, hM, hI, h0, hr⟩ := h
  refine z_callSw C hN dL_law_1074 csw_minutes hW rfl rfl (Nat.le_of_ble_eq_true rfl) ⟨Nat.le_of_ble_eq_true rfl, Nat.le_of_ble_eq_true rfl⟩ ⟨by omega, by omega⟩ ?_
  refine z_istore C dL_law_1077 (by decide) ?_
  refine z_aload_n C 2 dL_law_1079 rfl rfl ?_
  refine z_aload_n C 0 dL_law_1080 rfl rfl ?_
  refine z_iload C dL_law_1081 rfl ?_
  refine z_iconst C (v := 1) dL_law_1083 (by decide) ?_
  refine z_iadd C dL_law_1084 ?_
  refine z_sl C hX (j := ((5 * i) + 1)) dL_law_1085 (ix_add rfl rfl) (by omega) ?_
  refine z_callV1 C dL_law_1086 cv_L_154 hM hm1 rfl rfl (Nat.le_of_ble_eq_true rfl) ⟨Nat.le_of_ble_eq_true rfl, Nat.le_of_ble_eq_true rfl⟩ ⟨by omega, by omega⟩ ?_
  refine z_istore C dL_law_1089 (by decide) ?_
  refine z_aload_n C 2 dL_law_1091 rfl rfl ?_
  refine z_callV1 C dL_law_1092 cv_L_101 (li_t hI) (li_m hI) rfl rfl (Nat.le_of_ble_eq_true rfl) ⟨Nat.le_of_ble_eq_true rfl, Nat.le_of_ble_eq_true rfl⟩ ⟨by omega, by omega⟩ ?_
  refine z_iload C dL_law_1095 rfl ?_
  refine z_icmp_eq C 1102 dL_law_1097 (by decide) (fun _ => ?_) (fun q9 => absurd h0 q9)
  refine z_iload C dL_law_1102 rfl ?_
  refine z_if_ne C 1119 dL_law_1104 (by decide) (fun c_1104 => ?_) (fun c_1104 => ?_)
  · skip
    refine z_goto C 1763 dL_law_1119 (by decide) ?_
    exact TL hs2 u2 A2 g2 _ hI ⟨rfl, rfl, rfl, rfl, rfl, trivial⟩
  · skip
    refine z_aload_n C 3 dL_law_1107 rfl rfl ?_
    refine z_iconst C (v := 0) dL_law_1108 (by decide) ?_
    refine z_lald C (v := g2 0) dL_law_1109 (li_o hI) vp_in_0 rfl ?_
    refine z_iload C dL_law_1110 rfl ?_
    refine z_i2l C dL_law_1112 rfl ?_
    refine z_lcmp C dL_law_1113 ?_
    refine z_if_eq C 1119 dL_law_1114 (by decide) (fun _ => ?_) (fun q9 => absurd ((lg_cmp_eq _ _).mpr (hr c_1104)) q9)
    refine z_goto C 1763 dL_law_1119 (by decide) ?_
    exact TL hs2 u2 A2 g2 _ hI ⟨rfl, rfl, rfl, rfl, rfl, trivial⟩
set_option maxHeartbeats 4000000 in
set_option maxRecDepth 100000 in
theorem lc_set (C : Ctx p s m args meth c R w RL nm cL_law 7 (some .boolean) 13 488 601024 7293033) (hN : NX s) (hX : SX b L xs w s) (hi : 5 * i + 5 ≤ L) (q1 : n1 ≤ 600000) (q2 : n2 ≤ 7000000) (h : ST l w k mL_set [(0, 10, 13, 13)] mX6_set [.int (xs (5 * i + 1)), .int (xs (5 * i + 2))] hs) (TL : ∀ (hs2 : Hs) (u2 : Nat → Int32) (A2 : Nat → Nat → Int32) (g2 : Nat → Int64) (lv : List (Nat × Value)), LI w k g2 u2 A2 hs2 → subL [(0, .ref b), (1, .ref (wB w + k)), (2, .ref (wB w + (k + 137))), (3, .ref (wB w + (k + 145))), (4, .int (nI (5 * i)))] lv → ZW p l e R s m args below meth c w 7 hs2 none (n1 + 1) (n2 + 6) Q 1763 lv []) : ZW p l e R s m args below meth c w 7 hs none n1 n2 Q 1122 [(0, .ref b), (1, .ref (wB w + k)), (2, .ref (wB w + (k + 137))), (3, .ref (wB w + (k + 145))), (4, .int (nI (5 * i)))] [] := by
  refine z_aload_n C 1 dL_law_1122 rfl rfl ?_
  refine z_aload_n C 0 dL_law_1123 rfl rfl ?_
  refine z_iload C dL_law_1124 rfl ?_
  refine z_iconst C (v := 1) dL_law_1126 (by decide) ?_
  refine z_iadd C dL_law_1127 ?_
  refine z_sl C hX (j := ((5 * i) + 1)) dL_law_1128 (ix_add rfl rfl) (by omega) ?_
  refine z_aload_n C 0 dL_law_1129 rfl rfl ?_
  refine z_iload C dL_law_1130 rfl ?_
  refine z_iconst C (v := 2) dL_law_1132 (by decide) ?_
  refine z_iadd C dL_law_1133 ?_
  refine z_sl C hX (j := ((5 * i) + 2)) dL_law_1134 (ix_add rfl rfl) (by omega) ?_
  refine z_aload_n C 3 dL_law_1135 rfl rfl ?_
  obtain ⟨hs1, hs2, u2, A2, g2, fs, r, v, hW, hm1, hM, hI, h0, hr⟩ := h
  refine z_callSw C hN dL_law_1136 csw_set hW rfl rfl (Nat.le_of_ble_eq_true rfl) ⟨Nat.le_of_ble_eq_true rfl, Nat.le_of_ble_eq_true rfl⟩ ⟨by omega, by omega⟩ ?_
  refine z_istore C dL_law_1139 (by decide) ?_
  refine z_aload_n C 2 dL_law_1141 rfl rfl ?_
  refine z_aload_n C 0 dL_law_1142 rfl rfl ?_
  refine z_iload C dL_law_1143 rfl ?_
  refine z_iconst C (v := 1) dL_law_1145 (by decide) ?_
  refine z_iadd C dL_law_1146 ?_
  refine z_sl C hX (j := ((5 * i) + 1)) dL_law_1147 (ix_add rfl rfl) (by omega) ?_
  refine z_aload_n C 0 dL_law_1148 rfl rfl ?_
  refine z_iload C dL_law_1149 rfl ?_
  refine z_iconst C (v := 2) dL_law_1151 (by decide) ?_
  refine z_iadd C dL_law_1152 ?_
  refine z_sl C hX (j := ((5 * i) + 2)) dL_law_1153 (ix_add rfl rfl) (by omega) ?_
  refine z_callV1 C dL_law_1154 cv_L_157 hM hm1 rfl rfl (Nat.le_of_ble_eq_true rfl) ⟨Nat.le_of_ble_eq_true rfl, Nat.le_of_ble_eq_true rfl⟩ ⟨by omega, by omega⟩ ?_
  refine z_istore C dL_law_1157 (by decide) ?_
  refine z_aload_n C 2 dL_law_1159 rfl rfl ?_
  refine z_callV1 C dL_law_1160 cv_L_101 (li_t hI) (li_m hI) rfl rfl (Nat.le_of_ble_eq_true rfl) ⟨Nat.le_of_ble_eq_true rfl, Nat.le_of_ble_eq_true rfl⟩ ⟨by omega, by omega⟩ ?_
  refine z_iload C dL_law_1163 rfl ?_
  refine z_icmp_eq C 1170 dL_law_1165 (by decide) (fun _ => ?_) (fun q9 => absurd h0 q9)
  refine z_iload C dL_law_1170 rfl ?_
  refine z_if_ne C 1187 dL_law_1172 (by decide) (fun c_1172 => ?_) (fun c_1172 => ?_)
  · skip
    refine z_goto C 1763 dL_law_1187 (by decide) ?_
    exact TL hs2 u2 A2 g2 _ hI ⟨rfl, rfl, rfl, rfl, rfl, trivial⟩
  · skip
    refine z_aload_n C 3 dL_law_1175 rfl rfl ?_
    refine z_iconst C (v := 0) dL_law_1176 (by decide) ?_
    refine z_lald C (v := g2 0) dL_law_1177 (li_o hI) vp_in_0 rfl ?_
    refine z_iload C dL_law_1178 rfl ?_
    refine z_i2l C dL_law_1180 rfl ?_
    refine z_lcmp C dL_law_1181 ?_
    refine z_if_eq C 1187 dL_law_1182 (by decide) (fun _ => ?_) (fun q9 => absurd ((lg_cmp_eq _ _).mpr (hr c_1172)) q9)
    refine z_goto C 1763 dL_law_1187 (by decide) ?_
    exact TL hs2 u2 A2 g2 _ hI ⟨rfl, rfl, rfl, rfl, rfl, trivial⟩
set_option maxHeartbeats 4000000 in
set_option maxRecDepth 100000 in
theorem lc_undo (C : Ctx p s m args meth c R w RL nm cL_law 7 (some .boolean) 13 488 601024 7293033) (hN : NX s) (hX : SX b L xs w s) (hi : 5 * i + 5 ≤ L) (q1 : n1 ≤ 600000) (q2 : n2 ≤ 7000000) (h : ST l w k mL_undo [(0, 8, 11, 15)] mX6_undo [] hs) (TL : ∀ (hs2 : Hs) (u2 : Nat → Int32) (A2 : Nat → Nat → Int32) (g2 : Nat → Int64) (lv : List (Nat × Value)), LI w k g2 u2 A2 hs2 → subL [(0, .ref b), (1, .ref (wB w + k)), (2, .ref (wB w + (k + 137))), (3, .ref (wB w + (k + 145))), (4, .int (nI (5 * i)))] lv → ZW p l e R s m args below meth c w 7 hs2 none (n1 + 1) (n2 + 6) Q 1763 lv []) : ZW p l e R s m args below meth c w 7 hs none n1 n2 Q 1190 [(0, .ref b), (1, .ref (wB w + k)), (2, .ref (wB w + (k + 137))), (3, .ref (wB w + (k + 145))), (4, .int (nI (5 * i)))] [] := by
  refine z_aload_n C 1 dL_law_1190 rfl rfl ?_
  refine z_aload_n C 3 dL_law_1191 rfl rfl ?_
  obtain ⟨hs1, hs2, u2, A2, g2, fs, r, v, hW, hm1, hM, hI, h0, hr⟩ := h
  refine z_callSw C hN dL_law_1192 csw_undo hW rfl rfl (Nat.le_of_ble_eq_true rfl) ⟨Nat.le_of_ble_eq_true rfl, Nat.le_of_ble_eq_true rfl⟩ ⟨by omega, by omega⟩ ?_
  refine z_istore C dL_law_1195 (by decide) ?_
  refine z_aload_n C 2 dL_law_1197 rfl rfl ?_
  refine z_callV1 C dL_law_1198 cv_L_160 hM hm1 rfl rfl (Nat.le_of_ble_eq_true rfl) ⟨Nat.le_of_ble_eq_true rfl, Nat.le_of_ble_eq_true rfl⟩ ⟨by omega, by omega⟩ ?_
  refine z_istore C dL_law_1201 (by decide) ?_
  refine z_aload_n C 2 dL_law_1203 rfl rfl ?_
  refine z_callV1 C dL_law_1204 cv_L_101 (li_t hI) (li_m hI) rfl rfl (Nat.le_of_ble_eq_true rfl) ⟨Nat.le_of_ble_eq_true rfl, Nat.le_of_ble_eq_true rfl⟩ ⟨by omega, by omega⟩ ?_
  refine z_iload C dL_law_1207 rfl ?_
  refine z_icmp_eq C 1214 dL_law_1209 (by decide) (fun _ => ?_) (fun q9 => absurd h0 q9)
  refine z_iload C dL_law_1214 rfl ?_
  refine z_if_ne C 1231 dL_law_1216 (by decide) (fun c_1216 => ?_) (fun c_1216 => ?_)
  · skip
    refine z_goto C 1763 dL_law_1231 (by decide) ?_
    exact TL hs2 u2 A2 g2 _ hI ⟨rfl, rfl, rfl, rfl, rfl, trivial⟩
  · skip
    refine z_aload_n C 3 dL_law_1219 rfl rfl ?_
    refine z_iconst C (v := 0) dL_law_1220 (by decide) ?_
    refine z_lald C (v := g2 0) dL_law_1221 (li_o hI) vp_in_0 rfl ?_
    refine z_iload C dL_law_1222 rfl ?_
    refine z_i2l C dL_law_1224 rfl ?_
    refine z_lcmp C dL_law_1225 ?_
    refine z_if_eq C 1231 dL_law_1226 (by decide) (fun _ => ?_) (fun q9 => absurd ((lg_cmp_eq _ _).mpr (hr c_1216)) q9)
    refine z_goto C 1763 dL_law_1231 (by decide) ?_
    exact TL hs2 u2 A2 g2 _ hI ⟨rfl, rfl, rfl, rfl, rfl, trivial⟩
set_option maxHeartbeats 4000000 in
set_option maxRecDepth 100000 in
theorem lc_why (C : Ctx p s m args meth c R w RL nm cL_law 7 (some .boolean) 13 488 601024 7293033) (hN : NX s) (hX : SX b L xs w s) (hi : 5 * i + 5 ≤ L) (q1 : n1 ≤ 600000) (q2 : n2 ≤ 7000000) (h : ST l w k mL_why [(0, 10, 13, 28)] mX6_why [.int (xs (5 * i + 1)), .int (xs (5 * i + 2))] hs) (TL : ∀ (hs2 : Hs) (u2 : Nat → Int32) (A2 : Nat → Nat → Int32) (g2 : Nat → Int64) (lv : List (Nat × Value)), LI w k g2 u2 A2 hs2 → subL [(0, .ref b), (1, .ref (wB w + k)), (2, .ref (wB w + (k + 137))), (3, .ref (wB w + (k + 145))), (4, .int (nI (5 * i)))] lv → ZW p l e R s m args below meth c w 7 hs2 none (n1 + 1) (n2 + 6) Q 1763 lv []) : ZW p l e R s m args below meth c w 7 hs none n1 n2 Q 1234 [(0, .ref b), (1, .ref (wB w + k)), (2, .ref (wB w + (k + 137))), (3, .ref (wB w + (k + 145))), (4, .int (nI (5 * i)))] [] := by
  refine z_aload_n C 1 dL_law_1234 rfl rfl ?_
  refine z_aload_n C 0 dL_law_1235 rfl rfl ?_
  refine z_iload C dL_law_1236 rfl ?_
  refine z_iconst C (v := 1) dL_law_1238 (by decide) ?_
  refine z_iadd C dL_law_1239 ?_
  refine z_sl C hX (j := ((5 * i) + 1)) dL_law_1240 (ix_add rfl rfl) (by omega) ?_
  refine z_aload_n C 0 dL_law_1241 rfl rfl ?_
  refine z_iload C dL_law_1242 rfl ?_
  refine z_iconst C (v := 2) dL_law_1244 (by decide) ?_
  refine z_iadd C dL_law_1245 ?_
  refine z_sl C hX (j := ((5 * i) + 2)) dL_law_1246 (ix_add rfl rfl) (by omega) ?_
  refine z_aload_n C 3 dL_law_1247 rfl rfl ?_
  obtain ⟨hs1, hs2, u2, A2, g2, fs, r, v, hW, hm1, hM, hI, h0, hr⟩ := h
  refine z_callSw C hN dL_law_1248 csw_why hW rfl rfl (Nat.le_of_ble_eq_true rfl) ⟨Nat.le_of_ble_eq_true rfl, Nat.le_of_ble_eq_true rfl⟩ ⟨by omega, by omega⟩ ?_
  refine z_istore C dL_law_1251 (by decide) ?_
  refine z_aload_n C 2 dL_law_1253 rfl rfl ?_
  refine z_aload_n C 0 dL_law_1254 rfl rfl ?_
  refine z_iload C dL_law_1255 rfl ?_
  refine z_iconst C (v := 1) dL_law_1257 (by decide) ?_
  refine z_iadd C dL_law_1258 ?_
  refine z_sl C hX (j := ((5 * i) + 1)) dL_law_1259 (ix_add rfl rfl) (by omega) ?_
  refine z_aload_n C 0 dL_law_1260 rfl rfl ?_
  refine z_iload C dL_law_1261 rfl ?_
  refine z_iconst C (v := 2) dL_law_1263 (by decide) ?_
  refine z_iadd C dL_law_1264 ?_
  refine z_sl C hX (j := ((5 * i) + 2)) dL_law_1265 (ix_add rfl rfl) (by omega) ?_
  refine z_callV1 C dL_law_1266 cv_L_163 hM hm1 rfl rfl (Nat.le_of_ble_eq_true rfl) ⟨Nat.le_of_ble_eq_true rfl, Nat.le_of_ble_eq_true rfl⟩ ⟨by omega, by omega⟩ ?_
  refine z_istore C dL_law_1269 (by decide) ?_
  refine z_aload_n C 2 dL_law_1271 rfl rfl ?_
  refine z_callV1 C dL_law_1272 cv_L_101 (li_t hI) (li_m hI) rfl rfl (Nat.le_of_ble_eq_true rfl) ⟨Nat.le_of_ble_eq_true rfl, Nat.le_of_ble_eq_true rfl⟩ ⟨by omega, by omega⟩ ?_
  refine z_iload C dL_law_1275 rfl ?_
  refine z_icmp_eq C 1282 dL_law_1277 (by decide) (fun _ => ?_) (fun q9 => absurd h0 q9)
  refine z_iload C dL_law_1282 rfl ?_
  refine z_if_ne C 1299 dL_law_1284 (by decide) (fun c_1284 => ?_) (fun c_1284 => ?_)
  · skip
    refine z_goto C 1763 dL_law_1299 (by decide) ?_
    exact TL hs2 u2 A2 g2 _ hI ⟨rfl, rfl, rfl, rfl, rfl, trivial⟩
  · skip
    refine z_aload_n C 3 dL_law_1287 rfl rfl ?_
    refine z_iconst C (v := 0) dL_law_1288 (by decide) ?_
    refine z_lald C (v := g2 0) dL_law_1289 (li_o hI) vp_in_0 rfl ?_
    refine z_iload C dL_law_1290 rfl ?_
    refine z_i2l C dL_law_1292 rfl ?_
    refine z_lcmp C dL_law_1293 ?_
    refine z_if_eq C 1299 dL_law_1294 (by decide) (fun _ => ?_) (fun q9 => absurd ((lg_cmp_eq _ _).mpr (hr c_1284)) q9)
    refine z_goto C 1763 dL_law_1299 (by decide) ?_
    exact TL hs2 u2 A2 g2 _ hI ⟨rfl, rfl, rfl, rfl, rfl, trivial⟩
set_option maxHeartbeats 4000000 in
set_option maxRecDepth 100000 in
theorem lc_endsIn (C : Ctx p s m args meth c R w RL nm cL_law 7 (some .boolean) 13 488 601024 7293033) (hN : NX s) (hX : SX b L xs w s) (hi : 5 * i + 5 ≤ L) (q1 : n1 ≤ 600000) (q2 : n2 ≤ 7000000) (h : ST l w k mL_endsIn [(0, 10, 13, 28), (0, 10, 17, 13), (0, 10, 21, 15)] mX6_endsIn [.int (xs (5 * i + 1)), .int (xs (5 * i + 2))] hs) (TL : ∀ (hs2 : Hs) (u2 : Nat → Int32) (A2 : Nat → Nat → Int32) (g2 : Nat → Int64) (lv : List (Nat × Value)), LI w k g2 u2 A2 hs2 → subL [(0, .ref b), (1, .ref (wB w + k)), (2, .ref (wB w + (k + 137))), (3, .ref (wB w + (k + 145))), (4, .int (nI (5 * i)))] lv → ZW p l e R s m args below meth c w 7 hs2 none (n1 + 1) (n2 + 6) Q 1763 lv []) : ZW p l e R s m args below meth c w 7 hs none n1 n2 Q 1302 [(0, .ref b), (1, .ref (wB w + k)), (2, .ref (wB w + (k + 137))), (3, .ref (wB w + (k + 145))), (4, .int (nI (5 * i)))] [] := by
  refine z_aload_n C 1 dL_law_1302 rfl rfl ?_
  refine z_aload_n C 0 dL_law_1303 rfl rfl ?_
  refine z_iload C dL_law_1304 rfl ?_
  refine z_iconst C (v := 1) dL_law_1306 (by decide) ?_
  refine z_iadd C dL_law_1307 ?_
  refine z_sl C hX (j := ((5 * i) + 1)) dL_law_1308 (ix_add rfl rfl) (by omega) ?_
  refine z_aload_n C 0 dL_law_1309 rfl rfl ?_
  refine z_iload C dL_law_1310 rfl ?_
  refine z_iconst C (v := 2) dL_law_1312 (by decide) ?_
  refine z_iadd C dL_law_1313 ?_
  refine z_sl C hX (j := ((5 * i) + 2)) dL_law_1314 (ix_add rfl rfl) (by omega) ?_
  refine z_aload_n C 3 dL_law_1315 rfl rfl ?_
  obtain ⟨hs1, hs2, u2, A2, g2, fs, r, v, hW, hm1, hM, hI, h0, hr⟩ := h
  refine z_callSw C hN dL_law_1316 csw_endsIn hW rfl rfl (Nat.le_of_ble_eq_true rfl) ⟨Nat.le_of_ble_eq_true rfl, Nat.le_of_ble_eq_true rfl⟩ ⟨by omega, by omega⟩ ?_
  refine z_istore C dL_law_1319 (by decide) ?_
  refine z_aload_n C 2 dL_law_1321 rfl rfl ?_
  refine z_aload_n C 0 dL_law_1322 rfl rfl ?_
  refine z_iload C dL_law_1323 rfl ?_
  refine z_iconst C (v := 1) dL_law_1325 (by decide) ?_
  refine z_iadd C dL_law_1326 ?_
  refine z_sl C hX (j := ((5 * i) + 1)) dL_law_1327 (ix_add rfl rfl) (by omega) ?_
  refine z_aload_n C 0 dL_law_1328 rfl rfl ?_
  refine z_iload C dL_law_1329 rfl ?_
  refine z_iconst C (v := 2) dL_law_1331 (by decide) ?_
  refine z_iadd C dL_law_1332 ?_
  refine z_sl C hX (j := ((5 * i) + 2)) dL_law_1333 (ix_add rfl rfl) (by omega) ?_
  refine z_callV1 C dL_law_1334 cv_L_166 hM hm1 rfl rfl (Nat.le_of_ble_eq_true rfl) ⟨Nat.le_of_ble_eq_true rfl, Nat.le_of_ble_eq_true rfl⟩ ⟨by omega, by omega⟩ ?_
  refine z_istore C dL_law_1337 (by decide) ?_
  refine z_aload_n C 2 dL_law_1339 rfl rfl ?_
  refine z_callV1 C dL_law_1340 cv_L_101 (li_t hI) (li_m hI) rfl rfl (Nat.le_of_ble_eq_true rfl) ⟨Nat.le_of_ble_eq_true rfl, Nat.le_of_ble_eq_true rfl⟩ ⟨by omega, by omega⟩ ?_
  refine z_iload C dL_law_1343 rfl ?_
  refine z_icmp_eq C 1350 dL_law_1345 (by decide) (fun _ => ?_) (fun q9 => absurd h0 q9)
  refine z_iload C dL_law_1350 rfl ?_
  refine z_if_ne C 1367 dL_law_1352 (by decide) (fun c_1352 => ?_) (fun c_1352 => ?_)
  · skip
    refine z_goto C 1763 dL_law_1367 (by decide) ?_
    exact TL hs2 u2 A2 g2 _ hI ⟨rfl, rfl, rfl, rfl, rfl, trivial⟩
  · skip
    refine z_aload_n C 3 dL_law_1355 rfl rfl ?_
    refine z_iconst C (v := 0) dL_law_1356 (by decide) ?_
    refine z_lald C (v := g2 0) dL_law_1357 (li_o hI) vp_in_0 rfl ?_
    refine z_iload C dL_law_1358 rfl ?_
    refine z_i2l C dL_law_1360 rfl ?_
    refine z_lcmp C dL_law_1361 ?_
    refine z_if_eq C 1367 dL_law_1362 (by decide) (fun _ => ?_) (fun q9 => absurd ((lg_cmp_eq _ _).mpr (hr c_1352)) q9)
    refine z_goto C 1763 dL_law_1367 (by decide) ?_
    exact TL hs2 u2 A2 g2 _ hI ⟨rfl, rfl, rfl, rfl, rfl, trivial⟩
set_option maxHeartbeats 4000000 in
set_option maxRecDepth 100000 in
theorem lc_winner (C : Ctx p s m args meth c R w RL nm cL_law 7 (some .boolean) 13 488 601024 7293033) (hX : SX b L xs w s) (hi : 5 * i + 5 ≤ L) (q1 : n1 ≤ 600000) (q2 : n2 ≤ 7000000) (h : SN l w k mX5_winner mX6_winner g hs) (hx : ∃ fs, hs k = some (.inr (5, fs))) (TL : ∀ (hs2 : Hs) (u2 : Nat → Int32) (A2 : Nat → Nat → Int32) (g2 : Nat → Int64) (lv : List (Nat × Value)), LI w k g2 u2 A2 hs2 → subL [(0, .ref b), (1, .ref (wB w + k)), (2, .ref (wB w + (k + 137))), (3, .ref (wB w + (k + 145))), (4, .int (nI (5 * i)))] lv → ZW p l e R s m args below meth c w 7 hs2 none (n1 + 1) (n2 + 6) Q 1763 lv []) : ZW p l e R s m args below meth c w 7 hs none n1 n2 Q 1370 [(0, .ref b), (1, .ref (wB w + k)), (2, .ref (wB w + (k + 137))), (3, .ref (wB w + (k + 145))), (4, .int (nI (5 * i)))] [] := by
  obtain ⟨hs1, hs2, u2, A2, fs, v, hC, hm1, hM, hI⟩ := h
  obtain ⟨fx, hx⟩ := hx
  refine z_aload_n C 1 dL_law_1370 rfl rfl ?_
  refine z_callV1 C dL_law_1371 cv_L_167 hC hx rfl rfl (Nat.le_of_ble_eq_true rfl) ⟨Nat.le_of_ble_eq_true rfl, Nat.le_of_ble_eq_true rfl⟩ ⟨by omega, by omega⟩ ?_
  refine z_aload_n C 2 dL_law_1374 rfl rfl ?_
  refine z_callV1 C dL_law_1375 cv_L_170 hM hm1 rfl rfl (Nat.le_of_ble_eq_true rfl) ⟨Nat.le_of_ble_eq_true rfl, Nat.le_of_ble_eq_true rfl⟩ ⟨by omega, by omega⟩ ?_
  refine z_icmp_eq C 1763 dL_law_1378 (by decide) (fun _ => ?_) (fun q9 => absurd rfl q9)
  refine z_widen (k9 := n1 + 1) (n9 := n2 + 6) (by omega) (by omega) ?_
  exact TL hs2 u2 A2 g _ hI ⟨rfl, rfl, rfl, rfl, rfl, trivial⟩
set_option maxHeartbeats 4000000 in
set_option maxRecDepth 100000 in
theorem lc_leastFolds (C : Ctx p s m args meth c R w RL nm cL_law 7 (some .boolean) 13 488 601024 7293033) (hN : NX s) (hX : SX b L xs w s) (hi : 5 * i + 5 ≤ L) (q1 : n1 ≤ 600000) (q2 : n2 ≤ 7000000) (h : ST l w k mL_leastFolds [(0, 10, 13, 28), (0, 10, 17, 13)] mX6_leastFolds [.int (xs (5 * i + 1)), .int (xs (5 * i + 2))] hs) (TL : ∀ (hs2 : Hs) (u2 : Nat → Int32) (A2 : Nat → Nat → Int32) (g2 : Nat → Int64) (lv : List (Nat × Value)), LI w k g2 u2 A2 hs2 → subL [(0, .ref b), (1, .ref (wB w + k)), (2, .ref (wB w + (k + 137))), (3, .ref (wB w + (k + 145))), (4, .int (nI (5 * i)))] lv → ZW p l e R s m args below meth c w 7 hs2 none (n1 + 1) (n2 + 6) Q 1763 lv []) : ZW p l e R s m args below meth c w 7 hs none n1 n2 Q 1383 [(0, .ref b), (1, .ref (wB w + k)), (2, .ref (wB w + (k + 137))), (3, .ref (wB w + (k + 145))), (4, .int (nI (5 * i)))] [] := by
  refine z_aload_n C 1 dL_law_1383 rfl rfl ?_
  refine z_aload_n C 0 dL_law_1384 rfl rfl ?_
  refine z_iload C dL_law_1385 rfl ?_
  refine z_iconst C (v := 1) dL_law_1387 (by decide) ?_
  refine z_iadd C dL_law_1388 ?_
  refine z_sl C hX (j := ((5 * i) + 1)) dL_law_1389 (ix_add rfl rfl) (by omega) ?_
  refine z_aload_n C 0 dL_law_1390 rfl rfl ?_
  refine z_iload C dL_law_1391 rfl ?_
  refine z_iconst C (v := 2) dL_law_1393 (by decide) ?_
  refine z_iadd C dL_law_1394 ?_
  refine z_sl C hX (j := ((5 * i) + 2)) dL_law_1395 (ix_add rfl rfl) (by omega) ?_
  refine z_aload_n C 3 dL_law_1396 rfl rfl ?_
  obtain ⟨hs1, hs2, u2, A2, g2, fs, r, v, hW, hm1, hM, hI, h0, hr⟩ := h
  refine z_callSw C hN dL_law_1397 csw_leastFolds hW rfl rfl (Nat.le_of_ble_eq_true rfl) ⟨Nat.le_of_ble_eq_true rfl, Nat.le_of_ble_eq_true rfl⟩ ⟨by omega, by omega⟩ ?_
  refine z_istore C dL_law_1400 (by decide) ?_
  refine z_aload_n C 2 dL_law_1402 rfl rfl ?_
  refine z_aload_n C 0 dL_law_1403 rfl rfl ?_
  refine z_iload C dL_law_1404 rfl ?_
  refine z_iconst C (v := 1) dL_law_1406 (by decide) ?_
  refine z_iadd C dL_law_1407 ?_
  refine z_sl C hX (j := ((5 * i) + 1)) dL_law_1408 (ix_add rfl rfl) (by omega) ?_
  refine z_aload_n C 0 dL_law_1409 rfl rfl ?_
  refine z_iload C dL_law_1410 rfl ?_
  refine z_iconst C (v := 2) dL_law_1412 (by decide) ?_
  refine z_iadd C dL_law_1413 ?_
  refine z_sl C hX (j := ((5 * i) + 2)) dL_law_1414 (ix_add rfl rfl) (by omega) ?_
  refine z_callV1 C dL_law_1415 cv_L_173 hM hm1 rfl rfl (Nat.le_of_ble_eq_true rfl) ⟨Nat.le_of_ble_eq_true rfl, Nat.le_of_ble_eq_true rfl⟩ ⟨by omega, by omega⟩ ?_
  refine z_istore C dL_law_1418 (by decide) ?_
  refine z_aload_n C 2 dL_law_1420 rfl rfl ?_
  refine z_callV1 C dL_law_1421 cv_L_101 (li_t hI) (li_m hI) rfl rfl (Nat.le_of_ble_eq_true rfl) ⟨Nat.le_of_ble_eq_true rfl, Nat.le_of_ble_eq_true rfl⟩ ⟨by omega, by omega⟩ ?_
  refine z_iload C dL_law_1424 rfl ?_
  refine z_icmp_eq C 1431 dL_law_1426 (by decide) (fun _ => ?_) (fun q9 => absurd h0 q9)
  refine z_iload C dL_law_1431 rfl ?_
  refine z_if_ne C 1448 dL_law_1433 (by decide) (fun c_1433 => ?_) (fun c_1433 => ?_)
  · skip
    refine z_goto C 1763 dL_law_1448 (by decide) ?_
    exact TL hs2 u2 A2 g2 _ hI ⟨rfl, rfl, rfl, rfl, rfl, trivial⟩
  · skip
    refine z_aload_n C 3 dL_law_1436 rfl rfl ?_
    refine z_iconst C (v := 0) dL_law_1437 (by decide) ?_
    refine z_lald C (v := g2 0) dL_law_1438 (li_o hI) vp_in_0 rfl ?_
    refine z_iload C dL_law_1439 rfl ?_
    refine z_i2l C dL_law_1441 rfl ?_
    refine z_lcmp C dL_law_1442 ?_
    refine z_if_eq C 1448 dL_law_1443 (by decide) (fun _ => ?_) (fun q9 => absurd ((lg_cmp_eq _ _).mpr (hr c_1433)) q9)
    refine z_goto C 1763 dL_law_1448 (by decide) ?_
    exact TL hs2 u2 A2 g2 _ hI ⟨rfl, rfl, rfl, rfl, rfl, trivial⟩
set_option maxHeartbeats 4000000 in
set_option maxRecDepth 100000 in
theorem lc_runScript (C : Ctx p s m args meth c R w RL nm cL_law 7 (some .boolean) 13 488 601024 7293033) (hN : NX s) (hX : SX b L xs w s) (hi : 5 * i + 5 ≤ L) (q1 : n1 ≤ 600000) (q2 : n2 ≤ 7000000) (h : ∀ y : Int64, ST l w k mL_runScript [(0, 11, 14, 13)] mX6_runScript [.int (xs (5 * i + 1)), .long y] hs) (TL : ∀ (hs2 : Hs) (u2 : Nat → Int32) (A2 : Nat → Nat → Int32) (g2 : Nat → Int64) (lv : List (Nat × Value)), LI w k g2 u2 A2 hs2 → subL [(0, .ref b), (1, .ref (wB w + k)), (2, .ref (wB w + (k + 137))), (3, .ref (wB w + (k + 145))), (4, .int (nI (5 * i)))] lv → ZW p l e R s m args below meth c w 7 hs2 none (n1 + 1) (n2 + 6) Q 1763 lv []) : ZW p l e R s m args below meth c w 7 hs none n1 n2 Q 1451 [(0, .ref b), (1, .ref (wB w + k)), (2, .ref (wB w + (k + 137))), (3, .ref (wB w + (k + 145))), (4, .int (nI (5 * i)))] [] := by
  refine z_aload_n C 1 dL_law_1451 rfl rfl ?_
  refine z_aload_n C 0 dL_law_1452 rfl rfl ?_
  refine z_iload C dL_law_1453 rfl ?_
  refine z_iconst C (v := 1) dL_law_1455 (by decide) ?_
  refine z_iadd C dL_law_1456 ?_
  refine z_sl C hX (j := ((5 * i) + 1)) dL_law_1457 (ix_add rfl rfl) (by omega) ?_
  refine z_aload_n C 0 dL_law_1458 rfl rfl ?_
  refine z_iload C dL_law_1459 rfl ?_
  refine z_iconst C (v := 2) dL_law_1461 (by decide) ?_
  refine z_iadd C dL_law_1462 ?_
  refine z_sl C hX (j := ((5 * i) + 2)) dL_law_1463 (ix_add rfl rfl) (by omega) ?_
  refine z_i2l C dL_law_1464 rfl ?_
  refine z_bipush C (v := 32) dL_law_1465 (by decide) ?_
  refine z_lshl C dL_law_1467 rfl ?_
  refine z_aload_n C 0 dL_law_1468 rfl rfl ?_
  refine z_iload C dL_law_1469 rfl ?_
  refine z_iconst C (v := 3) dL_law_1471 (by decide) ?_
  refine z_iadd C dL_law_1472 ?_
  refine z_sl C hX (j := ((5 * i) + 3)) dL_law_1473 (ix_add rfl rfl) (by omega) ?_
  refine z_i2l C dL_law_1474 rfl ?_
  refine z_ldc2 C (v := 4294967295) dL_law_1475 (wa_mem 1176 (by decide +kernel) rfl) ?_
  refine z_land C dL_law_1478 ?_
  refine z_lor C dL_law_1479 ?_
  refine z_topl (fun y9 hy9 => ?_)
  refine z_aload_n C 3 dL_law_1480 rfl rfl ?_
  obtain ⟨hs1, hs2, u2, A2, g2, fs, r, v, hW, hm1, hM, hI, h0, hr⟩ := h y9
  refine z_callSw C hN dL_law_1481 csw_runScript hW rfl rfl (Nat.le_of_ble_eq_true rfl) ⟨Nat.le_of_ble_eq_true rfl, Nat.le_of_ble_eq_true rfl⟩ ⟨by omega, by omega⟩ ?_
  refine z_istore C dL_law_1484 (by decide) ?_
  refine z_aload_n C 2 dL_law_1486 rfl rfl ?_
  refine z_aload_n C 0 dL_law_1487 rfl rfl ?_
  refine z_iload C dL_law_1488 rfl ?_
  refine z_iconst C (v := 1) dL_law_1490 (by decide) ?_
  refine z_iadd C dL_law_1491 ?_
  refine z_sl C hX (j := ((5 * i) + 1)) dL_law_1492 (ix_add rfl rfl) (by omega) ?_
  refine z_aload_n C 0 dL_law_1493 rfl rfl ?_
  refine z_iload C dL_law_1494 rfl ?_
  refine z_iconst C (v := 2) dL_law_1496 (by decide) ?_
  refine z_iadd C dL_law_1497 ?_
  refine z_sl C hX (j := ((5 * i) + 2)) dL_law_1498 (ix_add rfl rfl) (by omega) ?_
  refine z_i2l C dL_law_1499 rfl ?_
  refine z_bipush C (v := 32) dL_law_1500 (by decide) ?_
  refine z_lshl C dL_law_1502 rfl ?_
  refine z_aload_n C 0 dL_law_1503 rfl rfl ?_
  refine z_iload C dL_law_1504 rfl ?_
  refine z_iconst C (v := 3) dL_law_1506 (by decide) ?_
  refine z_iadd C dL_law_1507 ?_
  refine z_sl C hX (j := ((5 * i) + 3)) dL_law_1508 (ix_add rfl rfl) (by omega) ?_
  refine z_i2l C dL_law_1509 rfl ?_
  refine z_ldc2 C (v := 4294967295) dL_law_1510 (wa_mem 1176 (by decide +kernel) rfl) ?_
  refine z_land C dL_law_1513 ?_
  refine z_lor C dL_law_1514 ?_
  refine z_stk (congrArg (fun q => [Value.long q, Value.int (xs (5 * i + 1)), Value.ref (wB w + (k + 137))]) hy9.symm) ?_
  refine z_callV1 C dL_law_1515 cv_L_179 hM hm1 rfl rfl (Nat.le_of_ble_eq_true rfl) ⟨Nat.le_of_ble_eq_true rfl, Nat.le_of_ble_eq_true rfl⟩ ⟨by omega, by omega⟩ ?_
  refine z_istore C dL_law_1518 (by decide) ?_
  refine z_aload_n C 2 dL_law_1520 rfl rfl ?_
  refine z_callV1 C dL_law_1521 cv_L_101 (li_t hI) (li_m hI) rfl rfl (Nat.le_of_ble_eq_true rfl) ⟨Nat.le_of_ble_eq_true rfl, Nat.le_of_ble_eq_true rfl⟩ ⟨by omega, by omega⟩ ?_
  refine z_iload C dL_law_1524 rfl ?_
  refine z_icmp_eq C 1531 dL_law_1526 (by decide) (fun _ => ?_) (fun q9 => absurd h0 q9)
  refine z_iload C dL_law_1531 rfl ?_
  refine z_if_ne C 1548 dL_law_1533 (by decide) (fun c_1533 => ?_) (fun c_1533 => ?_)
  · skip
    refine z_goto C 1763 dL_law_1548 (by decide) ?_
    exact TL hs2 u2 A2 g2 _ hI ⟨rfl, rfl, rfl, rfl, rfl, trivial⟩
  · skip
    refine z_aload_n C 3 dL_law_1536 rfl rfl ?_
    refine z_iconst C (v := 0) dL_law_1537 (by decide) ?_
    refine z_lald C (v := g2 0) dL_law_1538 (li_o hI) vp_in_0 rfl ?_
    refine z_iload C dL_law_1539 rfl ?_
    refine z_i2l C dL_law_1541 rfl ?_
    refine z_lcmp C dL_law_1542 ?_
    refine z_if_eq C 1548 dL_law_1543 (by decide) (fun _ => ?_) (fun q9 => absurd ((lg_cmp_eq _ _).mpr (hr c_1533)) q9)
    refine z_goto C 1763 dL_law_1548 (by decide) ?_
    exact TL hs2 u2 A2 g2 _ hI ⟨rfl, rfl, rfl, rfl, rfl, trivial⟩
set_option maxHeartbeats 4000000 in
set_option maxRecDepth 100000 in
theorem lc_simulate (C : Ctx p s m args meth c R w RL nm cL_law 7 (some .boolean) 13 488 601024 7293033) (hN : NX s) (hX : SX b L xs w s) (hi : 5 * i + 5 ≤ L) (q1 : n1 ≤ 600000) (q2 : n2 ≤ 7000000) (h : ∀ y : Int64, ST l w k mL_simulate [(0, 11, 14, 13)] mX6_simulate [.long y, .int (xs (5 * i + 3))] hs) (TL : ∀ (hs2 : Hs) (u2 : Nat → Int32) (A2 : Nat → Nat → Int32) (g2 : Nat → Int64) (lv : List (Nat × Value)), LI w k g2 u2 A2 hs2 → subL [(0, .ref b), (1, .ref (wB w + k)), (2, .ref (wB w + (k + 137))), (3, .ref (wB w + (k + 145))), (4, .int (nI (5 * i)))] lv → ZW p l e R s m args below meth c w 7 hs2 none (n1 + 1) (n2 + 6) Q 1763 lv []) : ZW p l e R s m args below meth c w 7 hs none n1 n2 Q 1551 [(0, .ref b), (1, .ref (wB w + k)), (2, .ref (wB w + (k + 137))), (3, .ref (wB w + (k + 145))), (4, .int (nI (5 * i)))] [] := by
  refine z_aload_n C 1 dL_law_1551 rfl rfl ?_
  refine z_aload_n C 0 dL_law_1552 rfl rfl ?_
  refine z_iload C dL_law_1553 rfl ?_
  refine z_iconst C (v := 1) dL_law_1555 (by decide) ?_
  refine z_iadd C dL_law_1556 ?_
  refine z_sl C hX (j := ((5 * i) + 1)) dL_law_1557 (ix_add rfl rfl) (by omega) ?_
  refine z_i2l C dL_law_1558 rfl ?_
  refine z_bipush C (v := 32) dL_law_1559 (by decide) ?_
  refine z_lshl C dL_law_1561 rfl ?_
  refine z_aload_n C 0 dL_law_1562 rfl rfl ?_
  refine z_iload C dL_law_1563 rfl ?_
  refine z_iconst C (v := 2) dL_law_1565 (by decide) ?_
  refine z_iadd C dL_law_1566 ?_
  refine z_sl C hX (j := ((5 * i) + 2)) dL_law_1567 (ix_add rfl rfl) (by omega) ?_
  refine z_i2l C dL_law_1568 rfl ?_
  refine z_ldc2 C (v := 4294967295) dL_law_1569 (wa_mem 1176 (by decide +kernel) rfl) ?_
  refine z_land C dL_law_1572 ?_
  refine z_lor C dL_law_1573 ?_
  refine z_topl (fun y9 hy9 => ?_)
  refine z_aload_n C 0 dL_law_1574 rfl rfl ?_
  refine z_iload C dL_law_1575 rfl ?_
  refine z_iconst C (v := 3) dL_law_1577 (by decide) ?_
  refine z_iadd C dL_law_1578 ?_
  refine z_sl C hX (j := ((5 * i) + 3)) dL_law_1579 (ix_add rfl rfl) (by omega) ?_
  refine z_aload_n C 3 dL_law_1580 rfl rfl ?_
  obtain ⟨hs1, hs2, u2, A2, g2, fs, r, v, hW, hm1, hM, hI, h0, hr⟩ := h y9
  refine z_callSw C hN dL_law_1581 csw_simulate hW rfl rfl (Nat.le_of_ble_eq_true rfl) ⟨Nat.le_of_ble_eq_true rfl, Nat.le_of_ble_eq_true rfl⟩ ⟨by omega, by omega⟩ ?_
  refine z_istore C dL_law_1584 (by decide) ?_
  refine z_aload_n C 2 dL_law_1586 rfl rfl ?_
  refine z_aload_n C 0 dL_law_1587 rfl rfl ?_
  refine z_iload C dL_law_1588 rfl ?_
  refine z_iconst C (v := 1) dL_law_1590 (by decide) ?_
  refine z_iadd C dL_law_1591 ?_
  refine z_sl C hX (j := ((5 * i) + 1)) dL_law_1592 (ix_add rfl rfl) (by omega) ?_
  refine z_i2l C dL_law_1593 rfl ?_
  refine z_bipush C (v := 32) dL_law_1594 (by decide) ?_
  refine z_lshl C dL_law_1596 rfl ?_
  refine z_aload_n C 0 dL_law_1597 rfl rfl ?_
  refine z_iload C dL_law_1598 rfl ?_
  refine z_iconst C (v := 2) dL_law_1600 (by decide) ?_
  refine z_iadd C dL_law_1601 ?_
  refine z_sl C hX (j := ((5 * i) + 2)) dL_law_1602 (ix_add rfl rfl) (by omega) ?_
  refine z_i2l C dL_law_1603 rfl ?_
  refine z_ldc2 C (v := 4294967295) dL_law_1604 (wa_mem 1176 (by decide +kernel) rfl) ?_
  refine z_land C dL_law_1607 ?_
  refine z_lor C dL_law_1608 ?_
  refine z_stk (congrArg (fun q => [Value.long q, Value.ref (wB w + (k + 137))]) hy9.symm) ?_
  refine z_aload_n C 0 dL_law_1609 rfl rfl ?_
  refine z_iload C dL_law_1610 rfl ?_
  refine z_iconst C (v := 3) dL_law_1612 (by decide) ?_
  refine z_iadd C dL_law_1613 ?_
  refine z_sl C hX (j := ((5 * i) + 3)) dL_law_1614 (ix_add rfl rfl) (by omega) ?_
  refine z_callV1 C dL_law_1615 cv_L_183 hM hm1 rfl rfl (Nat.le_of_ble_eq_true rfl) ⟨Nat.le_of_ble_eq_true rfl, Nat.le_of_ble_eq_true rfl⟩ ⟨by omega, by omega⟩ ?_
  refine z_istore C dL_law_1618 (by decide) ?_
  refine z_aload_n C 2 dL_law_1620 rfl rfl ?_
  refine z_callV1 C dL_law_1621 cv_L_101 (li_t hI) (li_m hI) rfl rfl (Nat.le_of_ble_eq_true rfl) ⟨Nat.le_of_ble_eq_true rfl, Nat.le_of_ble_eq_true rfl⟩ ⟨by omega, by omega⟩ ?_
  refine z_iload C dL_law_1624 rfl ?_
  refine z_icmp_eq C 1631 dL_law_1626 (by decide) (fun _ => ?_) (fun q9 => absurd h0 q9)
  refine z_iload C dL_law_1631 rfl ?_
  refine z_if_ne C 1648 dL_law_1633 (by decide) (fun c_1633 => ?_) (fun c_1633 => ?_)
  · skip
    refine z_goto C 1763 dL_law_1648 (by decide) ?_
    exact TL hs2 u2 A2 g2 _ hI ⟨rfl, rfl, rfl, rfl, rfl, trivial⟩
  · skip
    refine z_aload_n C 3 dL_law_1636 rfl rfl ?_
    refine z_iconst C (v := 0) dL_law_1637 (by decide) ?_
    refine z_lald C (v := g2 0) dL_law_1638 (li_o hI) vp_in_0 rfl ?_
    refine z_iload C dL_law_1639 rfl ?_
    refine z_i2l C dL_law_1641 rfl ?_
    refine z_lcmp C dL_law_1642 ?_
    refine z_if_eq C 1648 dL_law_1643 (by decide) (fun _ => ?_) (fun q9 => absurd ((lg_cmp_eq _ _).mpr (hr c_1633)) q9)
    refine z_goto C 1763 dL_law_1648 (by decide) ?_
    exact TL hs2 u2 A2 g2 _ hI ⟨rfl, rfl, rfl, rfl, rfl, trivial⟩
set_option maxHeartbeats 4000000 in
set_option maxRecDepth 100000 in
theorem lc_save (C : Ctx p s m args meth c R w RL nm cL_law 7 (some .boolean) 13 488 601024 7293033) (hN : NX s) (hX : SX b L xs w s) (hi : 5 * i + 5 ≤ L) (q1 : n1 ≤ 600000) (q2 : n2 ≤ 7000000) (h : ST l w k mL_save [(0, 9, 12, 28)] mX6_save [.int (xs (5 * i + 1))] hs) (TL : ∀ (hs2 : Hs) (u2 : Nat → Int32) (A2 : Nat → Nat → Int32) (g2 : Nat → Int64) (lv : List (Nat × Value)), LI w k g2 u2 A2 hs2 → subL [(0, .ref b), (1, .ref (wB w + k)), (2, .ref (wB w + (k + 137))), (3, .ref (wB w + (k + 145))), (4, .int (nI (5 * i)))] lv → ZW p l e R s m args below meth c w 7 hs2 none (n1 + 1) (n2 + 6) Q 1763 lv []) : ZW p l e R s m args below meth c w 7 hs none n1 n2 Q 1651 [(0, .ref b), (1, .ref (wB w + k)), (2, .ref (wB w + (k + 137))), (3, .ref (wB w + (k + 145))), (4, .int (nI (5 * i)))] [] := by
  refine z_aload_n C 1 dL_law_1651 rfl rfl ?_
  refine z_aload_n C 0 dL_law_1652 rfl rfl ?_
  refine z_iload C dL_law_1653 rfl ?_
  refine z_iconst C (v := 1) dL_law_1655 (by decide) ?_
  refine z_iadd C dL_law_1656 ?_
  refine z_sl C hX (j := ((5 * i) + 1)) dL_law_1657 (ix_add rfl rfl) (by omega) ?_
  refine z_aload_n C 3 dL_law_1658 rfl rfl ?_
  obtain ⟨hs1, hs2, u2, A2, g2, fs, r, v, hW, hm1, hM, hI, h0, hr⟩ := h
  refine z_callSw C hN dL_law_1659 csw_save hW rfl rfl (Nat.le_of_ble_eq_true rfl) ⟨Nat.le_of_ble_eq_true rfl, Nat.le_of_ble_eq_true rfl⟩ ⟨by omega, by omega⟩ ?_
  refine z_istore C dL_law_1662 (by decide) ?_
  refine z_aload_n C 2 dL_law_1664 rfl rfl ?_
  refine z_aload_n C 0 dL_law_1665 rfl rfl ?_
  refine z_iload C dL_law_1666 rfl ?_
  refine z_iconst C (v := 1) dL_law_1668 (by decide) ?_
  refine z_iadd C dL_law_1669 ?_
  refine z_sl C hX (j := ((5 * i) + 1)) dL_law_1670 (ix_add rfl rfl) (by omega) ?_
  refine z_callV1 C dL_law_1671 cv_L_186 hM hm1 rfl rfl (Nat.le_of_ble_eq_true rfl) ⟨Nat.le_of_ble_eq_true rfl, Nat.le_of_ble_eq_true rfl⟩ ⟨by omega, by omega⟩ ?_
  refine z_istore C dL_law_1674 (by decide) ?_
  refine z_aload_n C 2 dL_law_1676 rfl rfl ?_
  refine z_callV1 C dL_law_1677 cv_L_101 (li_t hI) (li_m hI) rfl rfl (Nat.le_of_ble_eq_true rfl) ⟨Nat.le_of_ble_eq_true rfl, Nat.le_of_ble_eq_true rfl⟩ ⟨by omega, by omega⟩ ?_
  refine z_iload C dL_law_1680 rfl ?_
  refine z_icmp_eq C 1687 dL_law_1682 (by decide) (fun _ => ?_) (fun q9 => absurd h0 q9)
  refine z_iload C dL_law_1687 rfl ?_
  refine z_if_ne C 1704 dL_law_1689 (by decide) (fun c_1689 => ?_) (fun c_1689 => ?_)
  · skip
    refine z_goto C 1763 dL_law_1704 (by decide) ?_
    exact TL hs2 u2 A2 g2 _ hI ⟨rfl, rfl, rfl, rfl, rfl, trivial⟩
  · skip
    refine z_aload_n C 3 dL_law_1692 rfl rfl ?_
    refine z_iconst C (v := 0) dL_law_1693 (by decide) ?_
    refine z_lald C (v := g2 0) dL_law_1694 (li_o hI) vp_in_0 rfl ?_
    refine z_iload C dL_law_1695 rfl ?_
    refine z_i2l C dL_law_1697 rfl ?_
    refine z_lcmp C dL_law_1698 ?_
    refine z_if_eq C 1704 dL_law_1699 (by decide) (fun _ => ?_) (fun q9 => absurd ((lg_cmp_eq _ _).mpr (hr c_1689)) q9)
    refine z_goto C 1763 dL_law_1704 (by decide) ?_
    exact TL hs2 u2 A2 g2 _ hI ⟨rfl, rfl, rfl, rfl, rfl, trivial⟩
set_option maxHeartbeats 4000000 in
set_option maxRecDepth 100000 in
theorem lc_restore (C : Ctx p s m args meth c R w RL nm cL_law 7 (some .boolean) 13 488 601024 7293033) (hN : NX s) (hX : SX b L xs w s) (hi : 5 * i + 5 ≤ L) (q1 : n1 ≤ 600000) (q2 : n2 ≤ 7000000) (h : ST l w k mL_restore [(0, 9, 12, 28), (0, 9, 15, 15)] mX6_restore [.int (xs (5 * i + 1))] hs) (TL : ∀ (hs2 : Hs) (u2 : Nat → Int32) (A2 : Nat → Nat → Int32) (g2 : Nat → Int64) (lv : List (Nat × Value)), LI w k g2 u2 A2 hs2 → subL [(0, .ref b), (1, .ref (wB w + k)), (2, .ref (wB w + (k + 137))), (3, .ref (wB w + (k + 145))), (4, .int (nI (5 * i)))] lv → ZW p l e R s m args below meth c w 7 hs2 none (n1 + 1) (n2 + 6) Q 1763 lv []) : ZW p l e R s m args below meth c w 7 hs none n1 n2 Q 1707 [(0, .ref b), (1, .ref (wB w + k)), (2, .ref (wB w + (k + 137))), (3, .ref (wB w + (k + 145))), (4, .int (nI (5 * i)))] [] := by
  refine z_aload_n C 1 dL_law_1707 rfl rfl ?_
  refine z_aload_n C 0 dL_law_1708 rfl rfl ?_
  refine z_iload C dL_law_1709 rfl ?_
  refine z_iconst C (v := 1) dL_law_1711 (by decide) ?_
  refine z_iadd C dL_law_1712 ?_
  refine z_sl C hX (j := ((5 * i) + 1)) dL_law_1713 (ix_add rfl rfl) (by omega) ?_
  refine z_aload_n C 3 dL_law_1714 rfl rfl ?_
  obtain ⟨hs1, hs2, u2, A2, g2, fs, r, v, hW, hm1, hM, hI, h0, hr⟩ := h
  refine z_callSw C hN dL_law_1715 csw_restore hW rfl rfl (Nat.le_of_ble_eq_true rfl) ⟨Nat.le_of_ble_eq_true rfl, Nat.le_of_ble_eq_true rfl⟩ ⟨by omega, by omega⟩ ?_
  refine z_istore C dL_law_1718 (by decide) ?_
  refine z_aload_n C 2 dL_law_1720 rfl rfl ?_
  refine z_aload_n C 0 dL_law_1721 rfl rfl ?_
  refine z_iload C dL_law_1722 rfl ?_
  refine z_iconst C (v := 1) dL_law_1724 (by decide) ?_
  refine z_iadd C dL_law_1725 ?_
  refine z_sl C hX (j := ((5 * i) + 1)) dL_law_1726 (ix_add rfl rfl) (by omega) ?_
  refine z_callV1 C dL_law_1727 cv_L_189 hM hm1 rfl rfl (Nat.le_of_ble_eq_true rfl) ⟨Nat.le_of_ble_eq_true rfl, Nat.le_of_ble_eq_true rfl⟩ ⟨by omega, by omega⟩ ?_
  refine z_istore C dL_law_1730 (by decide) ?_
  refine z_aload_n C 2 dL_law_1732 rfl rfl ?_
  refine z_callV1 C dL_law_1733 cv_L_101 (li_t hI) (li_m hI) rfl rfl (Nat.le_of_ble_eq_true rfl) ⟨Nat.le_of_ble_eq_true rfl, Nat.le_of_ble_eq_true rfl⟩ ⟨by omega, by omega⟩ ?_
  refine z_iload C dL_law_1736 rfl ?_
  refine z_icmp_eq C 1743 dL_law_1738 (by decide) (fun _ => ?_) (fun q9 => absurd h0 q9)
  refine z_iload C dL_law_1743 rfl ?_
  refine z_if_ne C 1760 dL_law_1745 (by decide) (fun c_1745 => ?_) (fun c_1745 => ?_)
  · skip
    refine z_goto C 1763 dL_law_1760 (by decide) ?_
    exact TL hs2 u2 A2 g2 _ hI ⟨rfl, rfl, rfl, rfl, rfl, trivial⟩
  · skip
    refine z_aload_n C 3 dL_law_1748 rfl rfl ?_
    refine z_iconst C (v := 0) dL_law_1749 (by decide) ?_
    refine z_lald C (v := g2 0) dL_law_1750 (li_o hI) vp_in_0 rfl ?_
    refine z_iload C dL_law_1751 rfl ?_
    refine z_i2l C dL_law_1753 rfl ?_
    refine z_lcmp C dL_law_1754 ?_
    refine z_if_eq C 1760 dL_law_1755 (by decide) (fun _ => ?_) (fun q9 => absurd ((lg_cmp_eq _ _).mpr (hr c_1745)) q9)
    refine z_goto C 1763 dL_law_1760 (by decide) ?_
    exact TL hs2 u2 A2 g2 _ hI ⟨rfl, rfl, rfl, rfl, rfl, trivial⟩
end
