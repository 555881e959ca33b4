/-! two objects with one state are alike; the script drawn from -/
section
variable {l : Launch} {w : Wt} {M : Nat} {σ : ZS} {H : Hs}
theorem u_least {j : Nat} (hj : j < 1000) (hσ : OKs M σ) (hl9 : l.stackTraces = false) : ∃ (v : Int64), ∀ (hs0 : Hs) (k : Nat) (H : Hs), IS w hs0 k σ H → ∃ H9, IS w hs0 k σ H9 ∧ Cw l w mL_leastFolds [(0, 7, 8, 34), (0, 7, 13, 15)] 1 6 [.ref (wB w + k), .int (nI j), .int 1] H none H9 none (some (.long v)) := by
  have h6 := hσ.2.1.1.1.1.2.1
  by_cases h : j < gN (zsF σ)
  · exact ⟨_, fun hs0 k H hI => s_leastFolds hI hσ h (by decide)⟩
  · exact ⟨_, fun hs0 k H hI => ⟨H, hI, e_leastFolds1 hI hσ (fun q => absurd q.2 (nI_nlt (by omega) (by omega))) hl9⟩⟩
theorem scz {j : Nat} (h : j < 9) : lN (2000370000 + 1000 * j) ≤ tnF (5 * 2) - 1 := by
  rw [tnF_e, show (1 : Int64) = lN 1 from rfl, lN_sub (by decide), pk_lLE (by omega) (by decide)]
  have : (10 ^ (5 * 2) - 1 : Nat) = 9999999999 := by decide
  omega
theorem sce {j : Nat} (h : j < 9) : (2000370000 : Int64) + 1000 * (nI j).toInt64 = lN (2000370000 + 1000 * j) := by
  rw [nI_l (by omega), show (1000 : Int64) = lN 1000 from rfl, lN_mul, show (2000370000 : Int64) = lN 2000370000 from rfl, lN_add]
set_option maxHeartbeats 4000000 in
set_option maxRecDepth 100000 in
theorem c_alike {x9 : Nat} (hT : TW w σ σ H) (hσ : OKs M σ) (hx9 : x9 < 2 ^ 31) (hl9 : l.stackTraces = false) : Cp l w mL_alike 10 60 [.ref (wB w + 0), .ref (wB w + 137), .int (nI x9)] H (fun h v => TW w σ σ h ∧ v = .int 1) := by
  have e6 : nI x9 - nI x9 / 6 * 6 = nI (x9 % 6) := pk_rem (d := 6) hx9 (by omega) (by omega)
  have e9 : nI x9 - nI x9 / 9 * 9 = nI (x9 % 9) := pk_rem (d := 9) hx9 (by omega) (by omega)
  have hm6 := Nat.mod_lt x9 (show 0 < 6 by omega)
  have hm9 := Nat.mod_lt x9 (show 0 < 9 by omega)
  obtain ⟨vL, hL⟩ := u_least (l := l) (w := w) (j := x9 % 6) (by omega) hσ hl9
  obtain ⟨h0, hp0, up0⟩ := hT.p
  obtain ⟨g0, hq0, uq0⟩ := hT.q
  obtain ⟨b1, i1, u1⟩ := hT.p
  obtain ⟨H1, j1, C1⟩ := s_err (l := l) i1 hσ
  have T1 := u1 _ _ j1
  obtain ⟨b2, i2, u2⟩ := T1.q
  obtain ⟨H2, j2, C2⟩ := s_err (l := l) i2 hσ
  have T2 := u2 _ _ j2
  obtain ⟨b3, i3, u3⟩ := T2.p
  obtain ⟨H3, j3, C3⟩ := s_winner (l := l) i3 hσ
  have T3 := u3 _ _ j3
  obtain ⟨b4, i4, u4⟩ := T3.q
  obtain ⟨H4, j4, C4⟩ := s_winner (l := l) i4 hσ
  have T4 := u4 _ _ j4
  obtain ⟨b5, i5, u5⟩ := T4.p
  obtain ⟨H5, j5, C5⟩ := hL _ _ _ i5
  have T5 := u5 _ _ j5
  obtain ⟨b6, i6, u6⟩ := T5.q
  obtain ⟨H6, j6, C6⟩ := hL _ _ _ i6
  have T6 := u6 _ _ j6
  obtain ⟨b7, i7, u7⟩ := T6.p
  obtain ⟨H7, j7, C7⟩ := s_simulate (l := l) (N9 := 5) i7 hσ (by omega) (nI x9).toInt64
  have T7 := u7 _ _ j7
  obtain ⟨b8, i8, u8⟩ := T7.q
  obtain ⟨H8, j8, C8⟩ := s_simulate (l := l) (N9 := 5) i8 hσ (by omega) (nI x9).toInt64
  have T8 := u8 _ _ j8
  obtain ⟨b9, i9, u9⟩ := T8.p
  obtain ⟨H9, j9, C9⟩ := s_script (l := l) (N9 := 2) (S9 := 2000370000 + 1000 * (x9 % 9)) i9 hσ (by omega) (by omega) (scz hm9)
  have T9 := u9 _ _ j9
  obtain ⟨b10, i10, u10⟩ := T9.q
  obtain ⟨H10, j10, C10⟩ := s_script (l := l) (N9 := 2) (S9 := 2000370000 + 1000 * (x9 % 9)) i10 hσ (by omega) (by omega) (scz hm9)
  have T10 := u10 _ _ j10
  refine Cp.of (d := mL_alike) (by decide +kernel) (Nat.le_of_ble_eq_true rfl) ?_
  intro p e R s m args below meth c CX hN
  replace CX : Ctx p s m args meth c R w RL "alike" cL_alike 3 (some .boolean) 10 195 10 60 := CX
  show ZW p l e R s m args below meth c w 3 H none 0 0 (MQ below (QP w _) args s 10 60 (wA w)) 0 [(0, .ref (wB w + 0)), (1, .ref (wB w + 137)), (2, .int (nI x9))] []
  refine z_aload_n CX 0 dL_alike_0 rfl rfl ?_
  refine z_callSp CX hN dL_alike_1 cs_L_119 (c_now hp0 hσ) rfl rfl (Nat.le_of_ble_eq_true rfl) ⟨Nat.le_of_ble_eq_true rfl, Nat.le_of_ble_eq_true rfl⟩ ⟨by omega, by omega⟩ ?_
  intro H77 v7 hv7
  obtain ⟨rfl, rfl⟩ := hv7
  refine z_aload_n CX 1 dL_alike_4 rfl rfl ?_
  refine z_callSp CX hN dL_alike_5 cs_L_119 (c_now hq0 hσ) rfl rfl (Nat.le_of_ble_eq_true rfl) ⟨Nat.le_of_ble_eq_true rfl, Nat.le_of_ble_eq_true rfl⟩ ⟨by omega, by omega⟩ ?_
  intro H77 v7 hv7
  obtain ⟨rfl, rfl⟩ := hv7
  refine z_lcmp CX dL_alike_8 ?_
  refine z_if_ne CX 118 dL_alike_9 (by decide) (fun q9 => absurd q9 (fun z9 => z9 ((lg_cmp_eq _ _).mpr rfl))) (fun _ => ?_)
  refine z_aload_n CX 0 dL_alike_12 rfl rfl ?_
  refine z_callV1 CX dL_alike_13 cv_L_178 C1 i1.x rfl rfl (Nat.le_of_ble_eq_true rfl) ⟨Nat.le_of_ble_eq_true rfl, Nat.le_of_ble_eq_true rfl⟩ ⟨by omega, by omega⟩ ?_
  refine z_aload_n CX 1 dL_alike_16 rfl rfl ?_
  refine z_callV1 CX dL_alike_17 cv_L_178 C2 i2.x rfl rfl (Nat.le_of_ble_eq_true rfl) ⟨Nat.le_of_ble_eq_true rfl, Nat.le_of_ble_eq_true rfl⟩ ⟨by omega, by omega⟩ ?_
  refine z_icmp_ne CX 118 dL_alike_20 (by decide) (fun q9 => absurd q9 (fun z9 => z9 rfl)) (fun _ => ?_)
  refine z_aload_n CX 0 dL_alike_23 rfl rfl ?_
  refine z_callV1 CX dL_alike_24 cv_L_181 C3 i3.x rfl rfl (Nat.le_of_ble_eq_true rfl) ⟨Nat.le_of_ble_eq_true rfl, Nat.le_of_ble_eq_true rfl⟩ ⟨by omega, by omega⟩ ?_
  refine z_aload_n CX 1 dL_alike_27 rfl rfl ?_
  refine z_callV1 CX dL_alike_28 cv_L_181 C4 i4.x rfl rfl (Nat.le_of_ble_eq_true rfl) ⟨Nat.le_of_ble_eq_true rfl, Nat.le_of_ble_eq_true rfl⟩ ⟨by omega, by omega⟩ ?_
  refine z_icmp_ne CX 118 dL_alike_31 (by decide) (fun q9 => absurd q9 (fun z9 => z9 rfl)) (fun _ => ?_)
  refine z_aload_n CX 0 dL_alike_34 rfl rfl ?_
  refine z_iload_n CX 2 dL_alike_35 rfl rfl ?_
  refine z_bipush CX (v := 6) dL_alike_36 (by decide) ?_
  refine z_irem CX dL_alike_38 (by decide) ?_
  refine z_stk (congrArg (fun q9 => [Value.int q9, Value.ref (wB w + 0)]) e6) ?_
  refine z_iconst CX (v := 1) dL_alike_39 (by decide) ?_
  refine z_callSw CX hN dL_alike_40 csw_145 C5 rfl rfl (Nat.le_of_ble_eq_true rfl) ⟨Nat.le_of_ble_eq_true rfl, Nat.le_of_ble_eq_true rfl⟩ ⟨by omega, by omega⟩ ?_
  refine z_aload_n CX 1 dL_alike_43 rfl rfl ?_
  refine z_iload_n CX 2 dL_alike_44 rfl rfl ?_
  refine z_bipush CX (v := 6) dL_alike_45 (by decide) ?_
  refine z_irem CX dL_alike_47 (by decide) ?_
  refine z_stk (congrArg (fun q9 => [Value.int q9, Value.ref (wB w + 137), Value.long vL]) e6) ?_
  refine z_iconst CX (v := 1) dL_alike_48 (by decide) ?_
  refine z_callSw CX hN dL_alike_49 csw_145 C6 rfl rfl (Nat.le_of_ble_eq_true rfl) ⟨Nat.le_of_ble_eq_true rfl, Nat.le_of_ble_eq_true rfl⟩ ⟨by omega, by omega⟩ ?_
  refine z_lcmp CX dL_alike_52 ?_
  refine z_if_ne CX 118 dL_alike_53 (by decide) (fun q9 => absurd q9 (fun z9 => z9 ((lg_cmp_eq _ _).mpr rfl))) (fun _ => ?_)
  refine z_aload_n CX 0 dL_alike_56 rfl rfl ?_
  refine z_iload_n CX 2 dL_alike_57 rfl rfl ?_
  refine z_i2l CX dL_alike_58 rfl ?_
  refine z_iconst CX (v := 5) dL_alike_59 (by decide) ?_
  refine z_callSw CX hN dL_alike_60 csw_153 C7 rfl rfl (Nat.le_of_ble_eq_true rfl) ⟨Nat.le_of_ble_eq_true rfl, Nat.le_of_ble_eq_true rfl⟩ ⟨by omega, by omega⟩ ?_
  refine z_aload_n CX 1 dL_alike_63 rfl rfl ?_
  refine z_iload_n CX 2 dL_alike_64 rfl rfl ?_
  refine z_i2l CX dL_alike_65 rfl ?_
  refine z_iconst CX (v := 5) dL_alike_66 (by decide) ?_
  refine z_callSw CX hN dL_alike_67 csw_153 C8 rfl rfl (Nat.le_of_ble_eq_true rfl) ⟨Nat.le_of_ble_eq_true rfl, Nat.le_of_ble_eq_true rfl⟩ ⟨by omega, by omega⟩ ?_
  refine z_lcmp CX dL_alike_70 ?_
  refine z_if_ne CX 118 dL_alike_71 (by decide) (fun q9 => absurd q9 (fun z9 => z9 ((lg_cmp_eq _ _).mpr rfl))) (fun _ => ?_)
  refine z_aload_n CX 0 dL_alike_74 rfl rfl ?_
  refine z_iconst CX (v := 2) dL_alike_75 (by decide) ?_
  refine z_ldc2 CX (v := 2000370000) dL_alike_76 (wa_mem 812 (by decide +kernel) rfl) ?_
  refine z_ldc2 CX (v := 1000) dL_alike_79 (wa_mem 813 (by decide +kernel) rfl) ?_
  refine z_iload_n CX 2 dL_alike_82 rfl rfl ?_
  refine z_bipush CX (v := 9) dL_alike_83 (by decide) ?_
  refine z_irem CX dL_alike_85 (by decide) ?_
  refine z_i2l CX dL_alike_86 rfl ?_
  refine z_lmul CX dL_alike_87 ?_
  refine z_ladd CX dL_alike_88 ?_
  refine z_stk (congrArg (fun q9 => [Value.long q9, Value.int 2, Value.ref (wB w + 0)]) (show (2000370000 : Int64) + 1000 * (nI x9 - nI x9 / 9 * 9).toInt64 = lN (2000370000 + 1000 * (x9 % 9)) from by rw [e9]; exact sce hm9)) ?_
  refine z_callSw CX hN dL_alike_89 csw_147 C9 rfl rfl (Nat.le_of_ble_eq_true rfl) ⟨Nat.le_of_ble_eq_true rfl, Nat.le_of_ble_eq_true rfl⟩ ⟨by omega, by omega⟩ ?_
  refine z_aload_n CX 1 dL_alike_92 rfl rfl ?_
  refine z_iconst CX (v := 2) dL_alike_93 (by decide) ?_
  refine z_ldc2 CX (v := 2000370000) dL_alike_94 (wa_mem 812 (by decide +kernel) rfl) ?_
  refine z_ldc2 CX (v := 1000) dL_alike_97 (wa_mem 813 (by decide +kernel) rfl) ?_
  refine z_iload_n CX 2 dL_alike_100 rfl rfl ?_
  refine z_bipush CX (v := 9) dL_alike_101 (by decide) ?_
  refine z_irem CX dL_alike_103 (by decide) ?_
  refine z_i2l CX dL_alike_104 rfl ?_
  refine z_lmul CX dL_alike_105 ?_
  refine z_ladd CX dL_alike_106 ?_
  refine z_stk (congrArg (fun q9 => [Value.long q9, Value.int 2, Value.ref (wB w + 137), Value.long (scR (2000370000 + 1000 * (x9 % 9)) 2 2 0 (zsF σ)).1.toInt64]) (show (2000370000 : Int64) + 1000 * (nI x9 - nI x9 / 9 * 9).toInt64 = lN (2000370000 + 1000 * (x9 % 9)) from by rw [e9]; exact sce hm9)) ?_
  refine z_callSw CX hN dL_alike_107 csw_147 C10 rfl rfl (Nat.le_of_ble_eq_true rfl) ⟨Nat.le_of_ble_eq_true rfl, Nat.le_of_ble_eq_true rfl⟩ ⟨by omega, by omega⟩ ?_
  refine z_lcmp CX dL_alike_110 ?_
  refine z_if_ne CX 118 dL_alike_111 (by decide) (fun q9 => absurd q9 (fun z9 => z9 ((lg_cmp_eq _ _).mpr rfl))) (fun _ => ?_)
  refine z_iconst CX (v := 1) dL_alike_114 (by decide) ?_
  refine z_goto CX 119 dL_alike_115 (by decide) ?_
  exact z_zretP CX dL_alike_119 rfl rfl ⟨T10, rfl⟩ (by omega) (by omega)
end
section
variable {p : Program} {l : Launch} {e : Env} {R : Room} {s : State} {m : MethodId} {args : Array Value} {below : List Frame} {meth : Method} {c : Code} {w : Wt} {own nm : String} {cc : ByteArray} {nL : Nat} {rt : Option FieldType} {fr lo mc ms : Nat} {hs : Hs} {n : Option Nat} {cells slots : Nat} {Q : State → Prop} {pc : Nat} {lv : List (Nat × Value)} {st : List Value}
/-- the law's script: L ints xs at the cell b, from before -/
def SX (b L : Nat) (xs : Nat → Int32) (w : Wt) (s : State) : Prop := va_X b L xs s s.heap ∧ b < wB w ∧ wB w ≤ s.heap.size ∧ L ≤ 260
theorem z_sl (C : Ctx p s m args meth c R w own nm cc nL rt fr lo mc ms) {b L : Nat} {xs : Nat → Int32} (hX : SX b L xs w s) {j : Nat} {x : Int32} (d : decode cc pc = .ok (.iaload, 1)) (hx : x = nI j) (hj : j < L) (K : ZW p l e R s m args below meth c w nL hs n cells slots Q (pc + 1) lv (.int (xs j) :: st)) : ZW p l e R s m args below meth c w nL hs n cells slots Q pc lv (.int x :: .ref b :: st) := by
  subst hx
  intro H locs ls hP hS hl
  obtain ⟨x1, x2, x3, x4⟩ := hX
  refine va_sld C.1 C.2.1 x1 (Nat.lt_of_lt_of_le x2 x3) (Nat.not_le.mpr x2 : ¬ wB w ≤ b) hS (vp_in_nI hj (by omega)) d ?_
  rw [nI_clamp (by omega)]
  exact K H locs ls hP hS hl
theorem z_slen (C : Ctx p s m args meth c R w own nm cc nL rt fr lo mc ms) {b L : Nat} {xs : Nat → Int32} (hX : SX b L xs w s) (d : decode cc pc = .ok (.arraylength, 1)) (K : ZW p l e R s m args below meth c w nL hs n cells slots Q (pc + 1) lv (.int (nI L) :: st)) : ZW p l e R s m args below meth c w nL hs n cells slots Q pc lv (.ref b :: st) := by
  intro H locs ls hP hS hl
  obtain ⟨x1, x2, x3, x4⟩ := hX
  exact va_slen C.1 C.2.1 x1 (Nat.lt_of_lt_of_le x2 x3) (Nat.not_le.mpr x2 : ¬ wB w ≤ b) hS d (K H locs ls hP hS hl)
def WS3 (w : Wt) (b L : Nat) (xs : Nat → Int32) (hs : Hs) (n : Option Nat) (U : State) : Prop := WS w hs n U ∧ SX b L xs w U
theorem WS3_blind {b L : Nat} {xs : Nat → Int32} (av : List Value) : FrameBlind (va_Pc av (WS3 w b L xs hs n)) := by
  intro a U g mk q
  obtain ⟨q0, q1, q2, q3⟩ := q
  have h := WS_blind w hs n av a U g mk ⟨q0, q1⟩
  exact ⟨h.1, h.2, va_X.moved (u := U) (U := U.calling g mk a) (Vm.Alike.refl U.vm) q2, q3⟩
/-- a call that reads the script -/
def Cd (l : Launch) (w : Wt) (d : MD) (b L : Nat) (xs : Nat → Int32) (av : List Value) (hs : Hs) (n : Option Nat) (v : Option Value) : Prop :=
  Met l d.1 (mws d) (mrm d 0 0) (va_Pc av (WS3 w b L xs hs n)) (Qn w hs n v) 0 0 (wA w)
theorem Cd.of {b L : Nat} {xs : Nat → Int32} {d : MD} {av : List Value} {v : Option Value} (hpl : plainName d.1.cls = true) (hav : (lg_sl av).length ≤ d.2.2.1)
    (body : ∀ (p : Program) (e : Env) (R : Room) (s : State) (m : MethodId) (args : Array Value) (below : List Frame) (meth : Method) (c : Code), Ctx p s m args meth c R w d.1.cls d.1.name d.2.1 d.2.2.1 d.2.2.2.1 d.2.2.2.2.1 d.2.2.2.2.2 0 0 → SX b L xs w s →
      ZW p l e R s m args below meth c w d.2.2.1 hs n 0 0 (MQ below (Qn w hs n v) args s 0 0 (wA w)) 0 (lv_args 0 av) []) : Cd l w d b L xs av hs n v := by
  refine Met.ofW (cc := d.2.1) (maxL := d.2.2.1) (ret := d.2.2.2.1) hpl rfl ?_
  intro p e s m args below meth c s₁ B hml hv
  obtain ⟨rfl, ⟨hP, hK, hO⟩, hX⟩ := hv
  have hts : ∀ x ∈ WA, x.before av.toArray s = true := fun x hx => atoms_spec (ws := mws d) B.pre x (List.mem_cons_of_mem _ hx)
  have K := body p e (headSpec (mws d) (mrm d 0 0)).room s m av.toArray below meth c ⟨B.exec, B.bytes, hml, findClass_of_methodNamed B.named, hts, B.notSynchronized, B.returns, ⟨rfl, rfl, rfl, rfl⟩, hK, hO, (name_of_methodNamed B.named B.method).1⟩ hX
  rw [lg_entry_eq]
  exact K s.heap [] _ hP va_S.rf (lv_entry av hav)
theorem z_callD (C : Ctx p s m args meth c R w own nm cc nL rt fr lo mc ms) {b L : Nat} {xs : Nat → Int32} (hX : SX b L xs w s) {ix na : Nat} {d : MD} {As rest : List Value} {v : Value} (dd : decode cc pc = .ok (.invokestatic ix, 3)) (g : CS own ix na d) (hC : Cd l w d b L xs As hs n (some v)) (hst : st = As.reverse ++ rest) (hn : As.length = na) (hcat : (rest.map fun v => v.category).sum ≤ 8) (hR : RM d fr lo) (hf : cells + 0 ≤ mc ∧ slots + 0 ≤ ms) (K : ZW p l e R s m args below meth c w nL hs n (cells + 0) (slots + 0) Q (pc + 3) lv (v :: rest)) : ZW p l e R s m args below meth c w nL hs n cells slots Q pc lv st := by
  intro H locs ls hP hS hl
  obtain ⟨w1, w2, w4, w5, hd⟩ := g
  have pre : PreS s H (va_Pc As (WS3 w b L xs hs n)) As := ⟨WS3_blind As, fun U hU hW => ⟨rfl, ⟨by rw [hU]; exact hP, va_K.moved hW.alike C.2.2.2.2.2.2.2.2.1, OL.to C.2.2.2.2.2.2.2.2.2.1 hW hU hS⟩, (hX.1.kept (by rw [hU]; exact hS.2.1 b (Nat.lt_of_lt_of_le hX.2.1 hX.2.2.1) (Nat.not_le.mpr hX.2.1))).moved hW.alike, hX.2.1, Nat.le_trans hX.2.2.1 (by rw [hU]; exact hS.1), hX.2.2.2⟩⟩
  exact run9 (va_runS ⟨C.1, C.2.1, C.2.2.1, C.2.2.2.1, C.2.2.2.2.1⟩ hC ⟨callB9 C hR w5 w4 w1 hd, C.2.2.2.2.1 _ w2⟩ pre rfl hn hl.1 hst (lv_room hcat) dd ⟨by rw [C.2.2.2.2.2.2.2.1.2.2.1]; exact hf.1, by rw [C.2.2.2.2.2.2.2.1.2.2.2]; exact hf.2⟩) hS hl K
end
set_option maxHeartbeats 4000000 in
set_option maxRecDepth 100000 in
theorem c_draw {l : Launch} {w : Wt} {b L : Nat} {xs : Nat → Int32} {k9 : Nat} (hk : k9 < 1000) (hL : L ≤ 260) : ∃ d9, d9 < 2 ^ 31 ∧ ∀ (hs : Hs) (n : Option Nat), Cd l w mL_draw b L xs [.ref b, .int (nI k9)] hs n (some (.int (nI d9))) := by
  by_cases h : k9 < L
  · obtain ⟨d9, h1, h2⟩ := pk_andE (xs k9) (m := 2147483647) 31 (by decide)
    refine ⟨d9, h1, fun hs n => ?_⟩
    refine Cd.of (d := mL_draw) (by decide +kernel) (Nat.le_of_ble_eq_true rfl) ?_
    intro p e R s m args below meth c CX hX
    replace CX : Ctx p s m args meth c R w RL "draw" cL_draw 2 (some .int) 0 0 0 0 := CX
    show ZW p l e R s m args below meth c w 2 hs n 0 0 (MQ below (Qn w hs n _) args s 0 0 (wA w)) 0 [(0, .ref b), (1, .int (nI k9))] []
    refine z_iload_n CX 1 dL_draw_0 rfl rfl ?_
    refine z_aload_n CX 0 dL_draw_1 rfl rfl ?_
    refine z_slen CX hX dL_draw_2 ?_
    refine z_icmp_ge CX 12 dL_draw_3 (by decide) (fun q9 => absurd q9 (nI_ge h (by omega))) (fun _ => ?_)
    refine z_aload_n CX 0 dL_draw_6 rfl rfl ?_
    refine z_iload_n CX 1 dL_draw_7 rfl rfl ?_
    refine z_sl CX hX (j := k9) dL_draw_8 rfl h ?_
    refine z_goto CX 20 dL_draw_9 (by decide) ?_
    refine z_ldc CX (v := 2147483647) dL_draw_20 (wa_mem 178 (by decide +kernel) rfl) ?_
    refine z_iand CX dL_draw_22 ?_
    exact z_iret CX dL_draw_23 rfl (congrArg Value.int h2.symm) rfl (Or.inl rfl)
  · obtain ⟨d9, h1, h2⟩ := pk_andE (15594269 * nI k9 + 10861) (m := 2147483647) 31 (by decide)
    refine ⟨d9, h1, fun hs n => ?_⟩
    refine Cd.of (d := mL_draw) (by decide +kernel) (Nat.le_of_ble_eq_true rfl) ?_
    intro p e R s m args below meth c CX hX
    replace CX : Ctx p s m args meth c R w RL "draw" cL_draw 2 (some .int) 0 0 0 0 := CX
    show ZW p l e R s m args below meth c w 2 hs n 0 0 (MQ below (Qn w hs n _) args s 0 0 (wA w)) 0 [(0, .ref b), (1, .int (nI k9))] []
    refine z_iload_n CX 1 dL_draw_0 rfl rfl ?_
    refine z_aload_n CX 0 dL_draw_1 rfl rfl ?_
    refine z_slen CX hX dL_draw_2 ?_
    refine z_icmp_ge CX 12 dL_draw_3 (by decide) (fun _ => ?_) (fun q9 => absurd (nI_le (by omega) (by omega)) q9)
    refine z_ldc CX (v := 15594269) dL_draw_12 (wa_mem 177 (by decide +kernel) rfl) ?_
    refine z_iload_n CX 1 dL_draw_14 rfl rfl ?_
    refine z_imul CX dL_draw_15 ?_
    refine z_sipush CX (v := 10861) dL_draw_16 (by decide) ?_
    refine z_iadd CX dL_draw_19 ?_
    refine z_ldc CX (v := 2147483647) dL_draw_20 (wa_mem 178 (by decide +kernel) rfl) ?_
    refine z_iand CX dL_draw_22 ?_
    exact z_iret CX dL_draw_23 rfl (congrArg Value.int h2.symm) rfl (Or.inl rfl)
