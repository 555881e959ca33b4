/-! the text is told -/
theorem p32_shr {a d : Nat} {D : Int32} (hD : (D.toBitVec.smod 32).toNat = d) (h : a < 2 ^ 31) : nI a >>> D = nI (a / 2 ^ d) := by
  have hd : a / 2 ^ d ≤ a := Nat.div_le_self _ _
  apply Int32.toInt_inj.mp
  have e : (nI a >>> D).toInt = (nI a).toInt >>> d := by
    rw [← hD]
    exact BitVec.toInt_sshiftRight ..
  rw [e, Int.shiftRight_eq_div_pow, nI_toInt h, nI_toInt (by omega)]
  rfl
theorem shr_5 : ∀ j, j < 5 → ((nI j &&& 31).toBitVec.smod 32).toNat = j := by decide
theorem rm_n {a d : Nat} (ha : a < 2 ^ 31) (hd : d < 2 ^ 31) (h0 : 0 < d) : nI a - nI a / nI d * nI d = nI (a % d) := pk_rem ha h0 hd
theorem dv_n {a d : Nat} (ha : a < 2 ^ 31) (hd : d < 2 ^ 31) (h0 : 0 < d) : nI a / nI d = nI (a / d) := pk_div ha h0 hd
abbrev tS (x : Nat) (c : Nat → Int32) (ρ : (Nat → Int32) × List (Nat → Int32) × (Nat → Option (Nat → Int32))) (n : Nat) : ZS := ((n, txt x c n), ρ)
theorem OKs.tS {M x n : Nat} {a : Nat × (Nat → Int32)} {c : Nat → Int32} {ρ : (Nat → Int32) × List (Nat → Int32) × (Nat → Option (Nat → Int32))} (h : OKs M (a, ρ)) (hn : n ≤ 120) : OKs M (tS x c ρ n) := ⟨hn, h.2⟩
section
variable {l : Launch} {w : Wt} {hs0 : Hs} {k M : Nat} {H : Hs} {x9 : Nat} {cc : Nat → Int32} {ρ : (Nat → Int32) × List (Nat → Int32) × (Nat → Option (Nat → Int32))}
theorem ap1 {n9 : Nat} {a : Int32} (hI : IS w hs0 k (tS x9 cc ρ n9) H) (hσ : ∀ n, n ≤ 120 → OKs M (tS x9 cc ρ n)) (hn : n9 < 120) (ha : a = nI (chF x9 n9)) (hc : chF x9 n9 ≤ 255) : ∃ H9, IS w hs0 k (tS x9 cc ρ (n9 + 1)) H9 ∧ Cw l w mL_append [(0, 6, 7, 15), (0, 6, 12, 19)] 1 6 [.ref (wB w + k), .int a] H none H9 none (some (.long (lN (n9 + 1)))) := by
  subst ha
  obtain ⟨H9, h1, h2⟩ := s_append (l := l) (a := nI (chF x9 n9)) hI (hσ n9 (by omega)) hn ⟨nI_pos' (by omega), nI_le (b := 255) hc (by omega)⟩
  rw [show upd (zsT (tS x9 cc ρ n9)) (zsL (tS x9 cc ρ n9)) (nI (chF x9 n9)) = txt x9 cc (n9 + 1) from txt_s] at h1
  rw [nI_l (by show n9 + 1 < _; omega)] at h2
  exact ⟨H9, h1, h2⟩
set_option maxHeartbeats 4000000 in
set_option maxRecDepth 100000 in
theorem c_says {n9 : Nat} {a b c d : Int32} (hI : IS w hs0 k (tS x9 cc ρ n9) H) (hσ : ∀ n, n ≤ 120 → OKs M (tS x9 cc ρ n)) (hn : n9 + 4 ≤ 120) (ha : a = nI (chF x9 n9) ∧ chF x9 n9 ≤ 255) (hb : b = nI (chF x9 (n9 + 1)) ∧ chF x9 (n9 + 1) ≤ 255) (hc : c = nI (chF x9 (n9 + 2)) ∧ chF x9 (n9 + 2) ≤ 255) (hd : d = nI (chF x9 (n9 + 3)) ∧ chF x9 (n9 + 3) ≤ 255) : Cp l w mL_says 4 24 [.ref (wB w + k), .int a, .int b, .int c, .int d] H (fun h v => IS w hs0 k (tS x9 cc ρ (n9 + 4)) h ∧ v = .int 1) := by
  obtain ⟨H1, hI1, hC1⟩ := ap1 (l := l) hI hσ (by omega) ha.1 ha.2
  obtain ⟨H2, hI2, hC2⟩ := ap1 (l := l) hI1 hσ (by omega) hb.1 hb.2
  obtain ⟨H3, hI3, hC3⟩ := ap1 (l := l) hI2 hσ (by omega) hc.1 hc.2
  obtain ⟨H4, hI4, hC4⟩ := ap1 (l := l) hI3 hσ (by omega) hd.1 hd.2
  refine Cp.of (d := mL_says) (by decide +kernel) (Nat.le_of_ble_eq_true rfl) ?_
  intro p e R s m args below meth c9 CX hN
  replace CX : Ctx p s m args meth c9 R w RL "says" cL_says 5 (some .boolean) 9 155 4 24 := CX
  show ZW p l e R s m args below meth c9 w 5 H none 0 0 (MQ below (QP w _) args s 4 24 (wA w)) 0 [(0, .ref (wB w + k)), (1, .int _), (2, .int _), (3, .int _), (4, .int _)] []
  refine z_aload_n CX 0 dL_says_0 rfl rfl ?_
  refine z_iload_n CX 1 dL_says_1 rfl rfl ?_
  refine z_callSw CX hN dL_says_2 csw_160 hC1 rfl rfl (Nat.le_of_ble_eq_true rfl) ⟨Nat.le_of_ble_eq_true rfl, Nat.le_of_ble_eq_true rfl⟩ ⟨by omega, by omega⟩ ?_
  refine z_lconst CX (v := 0) dL_says_5 (by decide) ?_
  refine z_lcmp CX dL_says_6 ?_
  refine z_if_le CX 45 dL_says_7 (by decide) (fun q9 => absurd q9 (fun z9 => absurd ((lg_cmp_le _ _).mp z9) (by rw [show (0 : Int64) = lN 0 from rfl, lN_le (by omega) (by omega)]; omega))) (fun _ => ?_)
  refine z_aload_n CX 0 dL_says_10 rfl rfl ?_
  refine z_iload_n CX 2 dL_says_11 rfl rfl ?_
  refine z_callSw CX hN dL_says_12 csw_160 hC2 rfl rfl (Nat.le_of_ble_eq_true rfl) ⟨Nat.le_of_ble_eq_true rfl, Nat.le_of_ble_eq_true rfl⟩ ⟨by omega, by omega⟩ ?_
  refine z_lconst CX (v := 0) dL_says_15 (by decide) ?_
  refine z_lcmp CX dL_says_16 ?_
  refine z_if_le CX 45 dL_says_17 (by decide) (fun q9 => absurd q9 (fun z9 => absurd ((lg_cmp_le _ _).mp z9) (by rw [show (0 : Int64) = lN 0 from rfl, lN_le (by omega) (by omega)]; omega))) (fun _ => ?_)
  refine z_aload_n CX 0 dL_says_20 rfl rfl ?_
  refine z_iload_n CX 3 dL_says_21 rfl rfl ?_
  refine z_callSw CX hN dL_says_22 csw_160 hC3 rfl rfl (Nat.le_of_ble_eq_true rfl) ⟨Nat.le_of_ble_eq_true rfl, Nat.le_of_ble_eq_true rfl⟩ ⟨by omega, by omega⟩ ?_
  refine z_lconst CX (v := 0) dL_says_25 (by decide) ?_
  refine z_lcmp CX dL_says_26 ?_
  refine z_if_le CX 45 dL_says_27 (by decide) (fun q9 => absurd q9 (fun z9 => absurd ((lg_cmp_le _ _).mp z9) (by rw [show (0 : Int64) = lN 0 from rfl, lN_le (by omega) (by omega)]; omega))) (fun _ => ?_)
  refine z_aload_n CX 0 dL_says_30 rfl rfl ?_
  refine z_iload CX dL_says_31 rfl ?_
  refine z_callSw CX hN dL_says_33 csw_160 hC4 rfl rfl (Nat.le_of_ble_eq_true rfl) ⟨Nat.le_of_ble_eq_true rfl, Nat.le_of_ble_eq_true rfl⟩ ⟨by omega, by omega⟩ ?_
  refine z_lconst CX (v := 0) dL_says_36 (by decide) ?_
  refine z_lcmp CX dL_says_37 ?_
  refine z_if_le CX 45 dL_says_38 (by decide) (fun q9 => absurd q9 (fun z9 => absurd ((lg_cmp_le _ _).mp z9) (by rw [show (0 : Int64) = lN 0 from rfl, lN_le (by omega) (by omega)]; omega))) (fun _ => ?_)
  refine z_iconst CX (v := 1) dL_says_41 (by decide) ?_
  refine z_goto CX 46 dL_says_42 (by decide) ?_
  exact z_zretP CX dL_says_46 rfl rfl ⟨hI4, rfl⟩ (by omega) (by omega)
set_option maxHeartbeats 4000000 in
set_option maxRecDepth 100000 in
theorem c_told {n0 : Nat} (hI : IS w hs0 k ((n0, cc), ρ) H) (hσ : OKs M ((n0, cc), ρ)) (hx9 : x9 < 2 ^ 31) : Cp l w mL_told 130 780 [.ref (wB w + k), .int (nI x9)] H (fun h v => IS w hs0 k (tS x9 cc ρ (18 + 18 * (1 + x9 % 5))) h ∧ v = .int 1) := by
  refine Cp.of (d := mL_told) (by decide +kernel) (Nat.le_of_ble_eq_true rfl) ?_
  intro p e R s m args below meth c CX hN
  replace CX : Ctx p s m args meth c R w RL "told" cL_told 5 (some .boolean) 10 179 130 780 := CX
  show ZW p l e R s m args below meth c w 5 H none 0 0 (MQ below (QP w (fun h v => IS w hs0 k (tS x9 cc ρ (18 + 18 * (1 + x9 % 5))) h ∧ v = .int 1)) args s 130 780 (wA w)) 0 [(0, .ref (wB w + k)), (1, .int (nI x9))] []
  have hx5 : x9 % 5 < 5 := Nat.mod_lt _ (by omega)
  have hσ9 : ∀ n, n ≤ 120 → OKs M (tS x9 cc ρ n) := fun n hn => hσ.tS hn
  have chh : ∀ j, j < 18 → chF x9 j = chH x9 j := fun j hj => chF_h hj
  have K304 : ∀ H1, IS w hs0 k (tS x9 cc ρ (18 + 18 * (1 + x9 % 5))) H1 → ZW p l e R s m args below meth c w 5 H1 none 129 774 (MQ below (QP w (fun h v => IS w hs0 k (tS x9 cc ρ (18 + 18 * (1 + x9 % 5))) h ∧ v = .int 1)) args s 130 780 (wA w)) 304 [(0, .ref (wB w + k)), (2, .int 1)] [] := by
    intro H1 hI1
    obtain ⟨H2, hI2, hC2⟩ := s_err (l := l) hI1 (hσ9 _ (by omega))
    have he : errV (tS x9 cc ρ (18 + 18 * (1 + x9 % 5))) = -1 := by
      unfold errV
      rw [txt_good (x := x9) (c := cc) (m := 1 + x9 % 5) (by omega)]
      rfl
    rw [he] at hC2
    refine z_iload_n CX 2 dL_told_304 rfl rfl ?_
    refine z_if_eq CX 320 dL_told_305 (by decide) (fun q9 => absurd q9 (by decide)) (fun _ => ?_)
    refine z_aload_n CX 0 dL_told_308 rfl rfl ?_
    refine z_callV1 CX dL_told_309 cv_L_178 hC2 hI1.x rfl rfl (Nat.le_of_ble_eq_true rfl) ⟨Nat.le_of_ble_eq_true rfl, Nat.le_of_ble_eq_true rfl⟩ ⟨by omega, by omega⟩ ?_
    refine z_iconst CX (v := (-1 : Int32)) dL_told_312 (by decide) ?_
    refine z_icmp_ne CX 320 dL_told_313 (by decide) (fun q9 => absurd q9 (fun z9 => z9 rfl)) (fun _ => ?_)
    refine z_iconst CX (v := 1) dL_told_316 (by decide) ?_
    refine z_goto CX 321 dL_told_317 (by decide) ?_
    exact z_zretP CX dL_told_321 rfl rfl ⟨hI2, rfl⟩ (by omega) (by omega)
  have LP : ∀ j i, i + j = 1 + x9 % 5 → ∀ H1, IS w hs0 k (tS x9 cc ρ (18 + 18 * i)) H1 → ZW p l e R s m args below meth c w 5 H1 none (18 + 18 * i) (6 * (18 + 18 * i)) (MQ below (QP w (fun h v => IS w hs0 k (tS x9 cc ρ (18 + 18 * (1 + x9 % 5))) h ∧ v = .int 1)) args s 130 780 (wA w)) 130 [(0, .ref (wB w + k)), (1, .int (nI x9)), (2, .int 1), (3, .int (nI i))] [] := by
    intro j
    induction j with
    | zero =>
      intro i hi H1 hI1
      obtain rfl : i = 1 + x9 % 5 := by omega
      have e9 : (1 : Int32) + (nI x9 - nI x9 / 5 * 5) = nI (1 + x9 % 5) := by rw [show nI x9 - nI x9 / 5 * 5 = nI (x9 % 5) from rm_n (d := 5) hx9 (by omega) (by omega)]; exact nI_add 1 _
      refine z_iload_n CX 3 dL_told_130 rfl rfl ?_
      refine z_iconst CX (v := 1) dL_told_131 (by decide) ?_
      refine z_iload_n CX 1 dL_told_132 rfl rfl ?_
      refine z_iconst CX (v := 5) dL_told_133 (by decide) ?_
      refine z_irem CX dL_told_134 (by decide) ?_
      refine z_iadd CX dL_told_135 ?_
      refine z_icmp_ge CX 304 dL_told_136 (by decide) (fun _ => ?_) (fun q9 => absurd (by rw [e9]; exact Int32.le_refl _) q9)
      refine z_widen (k9 := 129) (n9 := 6 * 129) (by omega) (by omega) ?_
      refine z_loc [(0, .ref (wB w + k)), (2, .int 1)] ⟨rfl, rfl, trivial⟩ ?_
      exact (K304 H1 hI1)
    | succ j ih =>
      intro i hi H1 hI1
      have e9 : (1 : Int32) + (nI x9 - nI x9 / 5 * 5) = nI (1 + x9 % 5) := by rw [show nI x9 - nI x9 / 5 * 5 = nI (x9 % 5) from rm_n (d := 5) hx9 (by omega) (by omega)]; exact nI_add 1 _
      have hi4 : i < 5 := by omega
      have es : nI x9 >>> (nI i &&& 31) = nI (x9 / 2 ^ i) := p32_shr (shr_5 i hi4) hx9
      have hy9 : x9 / 2 ^ i < 2 ^ 31 := Nat.lt_of_le_of_lt (Nat.div_le_self _ _) hx9
      have chb : ∀ r, r < 18 → chF x9 (18 + 18 * i + r) = chB i (x9 / 2 ^ i) r := fun r hr => chF_b hr
      generalize x9 / 2 ^ i = y9 at es hy9 chb
      have chb0 : chF x9 (18 + 18 * i) = chB i y9 0 := chb 0 (by omega)
      have m2 := Nat.mod_lt y9 (show 0 < 2 by omega)
      have m4 := Nat.mod_lt y9 (show 0 < 4 by omega)
      have m5 := Nat.mod_lt y9 (show 0 < 5 by omega)
      have m9 := Nat.mod_lt y9 (show 0 < 9 by omega)
      have k34 := Nat.mod_lt (y9 / 3) (show 0 < 4 by omega)
      have k54 := Nat.mod_lt (y9 / 5) (show 0 < 4 by omega)
      have k42 := Nat.mod_lt (y9 / 4) (show 0 < 2 by omega)
      have k95 := Nat.mod_lt (y9 / 9) (show 0 < 5 by omega)
      have d3 := Nat.div_le_self y9 3
      have d5 := Nat.div_le_self y9 5
      have d4 := Nat.div_le_self y9 4
      have d9 := Nat.div_le_self y9 9
      refine z_iload_n CX 3 dL_told_130 rfl rfl ?_
      refine z_iconst CX (v := 1) dL_told_131 (by decide) ?_
      refine z_iload_n CX 1 dL_told_132 rfl rfl ?_
      refine z_iconst CX (v := 5) dL_told_133 (by decide) ?_
      refine z_irem CX dL_told_134 (by decide) ?_
      refine z_iadd CX dL_told_135 ?_
      refine z_icmp_ge CX 304 dL_told_136 (by decide) (fun q9 => absurd q9 (by rw [e9]; exact nI_ge (by omega) (by omega))) (fun _ => ?_)
      refine z_iload_n CX 2 dL_told_139 rfl rfl ?_
      refine z_if_eq CX 304 dL_told_140 (by decide) (fun q9 => absurd q9 (by decide)) (fun _ => ?_)
      refine z_iload_n CX 1 dL_told_143 rfl rfl ?_
      refine z_iload_n CX 3 dL_told_144 rfl rfl ?_
      refine z_ishr CX dL_told_145 rfl ?_
      refine z_stk (congrArg (fun q9 => [Value.int q9]) es) ?_
      refine z_istore CX dL_told_146 (by decide) ?_
      refine z_aload_n CX 0 dL_told_148 rfl rfl ?_
      refine z_bipush CX (v := 98) dL_told_149 (by decide) ?_
      refine z_bipush CX (v := 49) dL_told_151 (by decide) ?_
      refine z_iload CX dL_told_153 rfl ?_
      refine z_bipush CX (v := 9) dL_told_155 (by decide) ?_
      refine z_irem CX dL_told_157 (by decide) ?_
      refine z_iadd CX dL_told_158 ?_
      refine z_bipush CX (v := 48) dL_told_159 (by decide) ?_
      refine z_iload CX dL_told_161 rfl ?_
      refine z_iconst CX (v := 3) dL_told_163 (by decide) ?_
      refine z_idiv CX dL_told_164 (by decide) ?_
      refine z_iconst CX (v := 4) dL_told_165 (by decide) ?_
      refine z_irem CX dL_told_166 (by decide) ?_
      refine z_iadd CX dL_told_167 ?_
      refine z_bipush CX (v := 48) dL_told_168 (by decide) ?_
      refine z_iload CX dL_told_170 rfl ?_
      refine z_iconst CX (v := 5) dL_told_172 (by decide) ?_
      refine z_idiv CX dL_told_173 (by decide) ?_
      refine z_iconst CX (v := 4) dL_told_174 (by decide) ?_
      refine z_irem CX dL_told_175 (by decide) ?_
      refine z_iadd CX dL_told_176 ?_
      refine z_callSp CX hN dL_told_177 cs_L_191 (c_says (l := l) (n9 := (18 + 18 * i)) hI1 hσ9 (by omega) ⟨(by rw [chb0]; exact rfl), (by rw [chb0]; show 98 ≤ 255; omega)⟩ ⟨(by rw [chb 1 (by omega)]; exact (by rw [show nI y9 - nI y9 / 9 * 9 = nI (y9 % 9) from rm_n (d := 9) hy9 (by omega) (by omega)]; exact nI_add 49 _)), (by rw [chb 1 (by omega)]; show 49 + y9 % 9 ≤ 255; omega)⟩ ⟨(by rw [chb 2 (by omega)]; exact (by rw [show nI y9 / 3 = nI (y9 / 3) from dv_n (d := 3) hy9 (by omega) (by omega), show nI (y9 / 3) - nI (y9 / 3) / 4 * 4 = nI (y9 / 3 % 4) from rm_n (d := 4) (by omega) (by omega) (by omega)]; exact nI_add 48 _)), (by rw [chb 2 (by omega)]; show 48 + y9 / 3 % 4 ≤ 255; omega)⟩ ⟨(by rw [chb 3 (by omega)]; exact (by rw [show nI y9 / 5 = nI (y9 / 5) from dv_n (d := 5) hy9 (by omega) (by omega), show nI (y9 / 5) - nI (y9 / 5) / 4 * 4 = nI (y9 / 5 % 4) from rm_n (d := 4) (by omega) (by omega) (by omega)]; exact nI_add 48 _)), (by rw [chb 3 (by omega)]; show 48 + y9 / 5 % 4 ≤ 255; omega)⟩) rfl rfl (Nat.le_of_ble_eq_true rfl) ⟨Nat.le_of_ble_eq_true rfl, Nat.le_of_ble_eq_true rfl⟩ ⟨by omega, by omega⟩ ?_
      intro H2 v7 hv7
      obtain ⟨hI2, rfl⟩ := hv7
      refine z_if_eq CX 296 dL_told_180 (by decide) (fun q9 => absurd q9 (by decide)) (fun _ => ?_)
      refine z_aload_n CX 0 dL_told_183 rfl rfl ?_
      refine z_bipush CX (v := 108) dL_told_184 (by decide) ?_
      refine z_bipush CX (v := 48) dL_told_186 (by decide) ?_
      refine z_iload_n CX 3 dL_told_188 rfl rfl ?_
      refine z_iadd CX dL_told_189 ?_
      refine z_bipush CX (v := 48) dL_told_190 (by decide) ?_
      refine z_iload CX dL_told_192 rfl ?_
      refine z_iconst CX (v := 2) dL_told_194 (by decide) ?_
      refine z_irem CX dL_told_195 (by decide) ?_
      refine z_iadd CX dL_told_196 ?_
      refine z_bipush CX (v := 109) dL_told_197 (by decide) ?_
      refine z_callSp CX hN dL_told_199 cs_L_191 (c_says (l := l) (n9 := (18 + 18 * i + 4)) hI2 hσ9 (by omega) ⟨(by rw [chb 4 (by omega)]; exact rfl), (by rw [chb 4 (by omega)]; show 108 ≤ 255; omega)⟩ ⟨(by rw [chb 5 (by omega)]; exact (nI_add 48 i)), (by rw [chb 5 (by omega)]; show 48 + i ≤ 255; omega)⟩ ⟨(by rw [chb 6 (by omega)]; exact (by rw [show nI y9 - nI y9 / 2 * 2 = nI (y9 % 2) from rm_n (d := 2) hy9 (by omega) (by omega)]; exact nI_add 48 _)), (by rw [chb 6 (by omega)]; show 48 + y9 % 2 ≤ 255; omega)⟩ ⟨(by rw [chb 7 (by omega)]; exact rfl), (by rw [chb 7 (by omega)]; show 109 ≤ 255; omega)⟩) rfl rfl (Nat.le_of_ble_eq_true rfl) ⟨Nat.le_of_ble_eq_true rfl, Nat.le_of_ble_eq_true rfl⟩ ⟨by omega, by omega⟩ ?_
      intro H3 v7 hv7
      obtain ⟨hI3, rfl⟩ := hv7
      refine z_if_eq CX 296 dL_told_202 (by decide) (fun q9 => absurd q9 (by decide)) (fun _ => ?_)
      refine z_aload_n CX 0 dL_told_205 rfl rfl ?_
      refine z_bipush CX (v := 48) dL_told_206 (by decide) ?_
      refine z_bipush CX (v := 49) dL_told_208 (by decide) ?_
      refine z_iload CX dL_told_210 rfl ?_
      refine z_iconst CX (v := 4) dL_told_212 (by decide) ?_
      refine z_irem CX dL_told_213 (by decide) ?_
      refine z_iadd CX dL_told_214 ?_
      refine z_bipush CX (v := 104) dL_told_215 (by decide) ?_
      refine z_bipush CX (v := 48) dL_told_217 (by decide) ?_
      refine z_iload CX dL_told_219 rfl ?_
      refine z_iconst CX (v := 4) dL_told_221 (by decide) ?_
      refine z_irem CX dL_told_222 (by decide) ?_
      refine z_iadd CX dL_told_223 ?_
      refine z_callSp CX hN dL_told_224 cs_L_191 (c_says (l := l) (n9 := (18 + 18 * i + 8)) hI3 hσ9 (by omega) ⟨(by rw [chb 8 (by omega)]; exact rfl), (by rw [chb 8 (by omega)]; show 48 ≤ 255; omega)⟩ ⟨(by rw [chb 9 (by omega)]; exact (by rw [show nI y9 - nI y9 / 4 * 4 = nI (y9 % 4) from rm_n (d := 4) hy9 (by omega) (by omega)]; exact nI_add 49 _)), (by rw [chb 9 (by omega)]; show 49 + y9 % 4 ≤ 255; omega)⟩ ⟨(by rw [chb 10 (by omega)]; exact rfl), (by rw [chb 10 (by omega)]; show 104 ≤ 255; omega)⟩ ⟨(by rw [chb 11 (by omega)]; exact (by rw [show nI y9 - nI y9 / 4 * 4 = nI (y9 % 4) from rm_n (d := 4) hy9 (by omega) (by omega)]; exact nI_add 48 _)), (by rw [chb 11 (by omega)]; show 48 + y9 % 4 ≤ 255; omega)⟩) rfl rfl (Nat.le_of_ble_eq_true rfl) ⟨Nat.le_of_ble_eq_true rfl, Nat.le_of_ble_eq_true rfl⟩ ⟨by omega, by omega⟩ ?_
      intro H4 v7 hv7
      obtain ⟨hI4, rfl⟩ := hv7
      refine z_if_eq CX 296 dL_told_227 (by decide) (fun q9 => absurd q9 (by decide)) (fun _ => ?_)
      refine z_aload_n CX 0 dL_told_230 rfl rfl ?_
      refine z_bipush CX (v := 48) dL_told_231 (by decide) ?_
      refine z_iload CX dL_told_233 rfl ?_
      refine z_iconst CX (v := 4) dL_told_235 (by decide) ?_
      refine z_idiv CX dL_told_236 (by decide) ?_
      refine z_iconst CX (v := 2) dL_told_237 (by decide) ?_
      refine z_irem CX dL_told_238 (by decide) ?_
      refine z_iadd CX dL_told_239 ?_
      refine z_bipush CX (v := 48) dL_told_240 (by decide) ?_
      refine z_bipush CX (v := 48) dL_told_242 (by decide) ?_
      refine z_iload CX dL_told_244 rfl ?_
      refine z_iconst CX (v := 5) dL_told_246 (by decide) ?_
      refine z_irem CX dL_told_247 (by decide) ?_
      refine z_iadd CX dL_told_248 ?_
      refine z_bipush CX (v := 99) dL_told_249 (by decide) ?_
      refine z_callSp CX hN dL_told_251 cs_L_191 (c_says (l := l) (n9 := (18 + 18 * i + 12)) hI4 hσ9 (by omega) ⟨(by rw [chb 12 (by omega)]; exact (by rw [show nI y9 / 4 = nI (y9 / 4) from dv_n (d := 4) hy9 (by omega) (by omega), show nI (y9 / 4) - nI (y9 / 4) / 2 * 2 = nI (y9 / 4 % 2) from rm_n (d := 2) (by omega) (by omega) (by omega)]; exact nI_add 48 _)), (by rw [chb 12 (by omega)]; show 48 + y9 / 4 % 2 ≤ 255; omega)⟩ ⟨(by rw [chb 13 (by omega)]; exact rfl), (by rw [chb 13 (by omega)]; show 48 ≤ 255; omega)⟩ ⟨(by rw [chb 14 (by omega)]; exact (by rw [show nI y9 - nI y9 / 5 * 5 = nI (y9 % 5) from rm_n (d := 5) hy9 (by omega) (by omega)]; exact nI_add 48 _)), (by rw [chb 14 (by omega)]; show 48 + y9 % 5 ≤ 255; omega)⟩ ⟨(by rw [chb 15 (by omega)]; exact rfl), (by rw [chb 15 (by omega)]; show 99 ≤ 255; omega)⟩) rfl rfl (Nat.le_of_ble_eq_true rfl) ⟨Nat.le_of_ble_eq_true rfl, Nat.le_of_ble_eq_true rfl⟩ ⟨by omega, by omega⟩ ?_
      intro H5 v7 hv7
      obtain ⟨hI5, rfl⟩ := hv7
      refine z_if_eq CX 296 dL_told_254 (by decide) (fun q9 => absurd q9 (by decide)) (fun _ => ?_)
      have e16 : (48 : Int32) + (nI y9 - nI y9 / 4 * 4) = nI (chF x9 (18 + 18 * i + 16)) ∧ chF x9 (18 + 18 * i + 16) ≤ 255 := ⟨(by rw [chb 16 (by omega)]; exact (by rw [show nI y9 - nI y9 / 4 * 4 = nI (y9 % 4) from rm_n (d := 4) hy9 (by omega) (by omega)]; exact nI_add 48 _)), (by rw [chb 16 (by omega)]; show 48 + y9 % 4 ≤ 255; omega)⟩
      obtain ⟨H6, hI6, hC6⟩ := ap1 (l := l) (n9 := 18 + 18 * i + 16) hI5 hσ9 (by omega) e16.1 e16.2
      have e17 : (48 : Int32) + (nI y9 / 9 - nI y9 / 9 / 5 * 5) = nI (chF x9 (18 + 18 * i + 16 + 1)) ∧ chF x9 (18 + 18 * i + 16 + 1) ≤ 255 := ⟨(by rw [chb 17 (by omega)]; exact (by rw [show nI y9 / 9 = nI (y9 / 9) from dv_n (d := 9) hy9 (by omega) (by omega), show nI (y9 / 9) - nI (y9 / 9) / 5 * 5 = nI (y9 / 9 % 5) from rm_n (d := 5) (by omega) (by omega) (by omega)]; exact nI_add 48 _)), (by rw [chb 17 (by omega)]; show 48 + y9 / 9 % 5 ≤ 255; omega)⟩
      obtain ⟨H7, hI7, hC7⟩ := ap1 (l := l) (n9 := 18 + 18 * i + 16 + 1) hI6 hσ9 (by omega) e17.1 e17.2
      refine z_aload_n CX 0 dL_told_257 rfl rfl ?_
      refine z_bipush CX (v := 48) dL_told_258 (by decide) ?_
      refine z_iload CX dL_told_260 rfl ?_
      refine z_iconst CX (v := 4) dL_told_262 (by decide) ?_
      refine z_irem CX dL_told_263 (by decide) ?_
      refine z_iadd CX dL_told_264 ?_
      refine z_callSw CX hN dL_told_265 csw_160 hC6 rfl rfl (Nat.le_of_ble_eq_true rfl) ⟨Nat.le_of_ble_eq_true rfl, Nat.le_of_ble_eq_true rfl⟩ ⟨by omega, by omega⟩ ?_
      refine z_lconst CX (v := 0) dL_told_268 (by decide) ?_
      refine z_lcmp CX dL_told_269 ?_
      refine z_if_le CX 296 dL_told_270 (by decide) (fun q9 => absurd q9 (fun z9 => absurd ((lg_cmp_le _ _).mp z9) (by rw [show (0 : Int64) = lN 0 from rfl, lN_le (by omega) (by omega)]; omega))) (fun _ => ?_)
      refine z_aload_n CX 0 dL_told_273 rfl rfl ?_
      refine z_bipush CX (v := 48) dL_told_274 (by decide) ?_
      refine z_iload CX dL_told_276 rfl ?_
      refine z_bipush CX (v := 9) dL_told_278 (by decide) ?_
      refine z_idiv CX dL_told_280 (by decide) ?_
      refine z_iconst CX (v := 5) dL_told_281 (by decide) ?_
      refine z_irem CX dL_told_282 (by decide) ?_
      refine z_iadd CX dL_told_283 ?_
      refine z_callSw CX hN dL_told_284 csw_160 hC7 rfl rfl (Nat.le_of_ble_eq_true rfl) ⟨Nat.le_of_ble_eq_true rfl, Nat.le_of_ble_eq_true rfl⟩ ⟨by omega, by omega⟩ ?_
      refine z_lconst CX (v := 0) dL_told_287 (by decide) ?_
      refine z_lcmp CX dL_told_288 ?_
      refine z_if_le CX 296 dL_told_289 (by decide) (fun q9 => absurd q9 (fun z9 => absurd ((lg_cmp_le _ _).mp z9) (by rw [show (0 : Int64) = lN 0 from rfl, lN_le (by omega) (by omega)]; omega))) (fun _ => ?_)
      refine z_iconst CX (v := 1) dL_told_292 (by decide) ?_
      refine z_goto CX 297 dL_told_293 (by decide) ?_
      refine z_istore_n CX 2 dL_told_297 rfl (by decide) ?_
      refine z_iinc CX (v := (nI (i + 1))) dL_told_298 rfl (nI_1 _) (by decide) ?_
      refine z_goto CX 130 dL_told_301 (by decide) ?_
      refine z_widen (k9 := (18 + 18 * (i + 1))) (n9 := 6 * (18 + 18 * (i + 1))) (by omega) (by omega) ?_
      refine z_loc [(0, .ref (wB w + k)), (1, .int (nI x9)), (2, .int 1), (3, .int (nI (i + 1)))] ⟨rfl, rfl, rfl, rfl, trivial⟩ ?_
      exact (ih (i + 1) (by omega) H7 hI7)
  obtain ⟨H1, hI1, hC1⟩ := s_clear (l := l) hI hσ
  have hI1' : IS w hs0 k (tS x9 cc ρ 0) H1 := by
    show IS w hs0 k ((0, txt x9 cc 0), ρ) H1
    rw [txt_0]; exact hI1
  obtain ⟨H2, hI2, hC2⟩ := ap1 (l := l) (a := 84) hI1' hσ9 (by omega) (by rw [chh 0 (by omega)]; rfl) (by rw [chh 0 (by omega)]; show 84 ≤ 255; omega)
  have m3 := Nat.mod_lt x9 (show 0 < 10 by omega)
  have m4 := Nat.mod_lt x9 (show 0 < 4 by omega)
  have m9 := Nat.mod_lt x9 (show 0 < 9 by omega)
  have k36 := Nat.mod_lt (x9 / 3) (show 0 < 6 by omega)
  have k710 := Nat.mod_lt (x9 / 7) (show 0 < 10 by omega)
  have d3 := Nat.div_le_self x9 3
  have d7 := Nat.div_le_self x9 7
  refine z_aload_n CX 0 dL_told_0 rfl rfl ?_
  refine z_callV1 CX dL_told_1 cv_L_188 hC1 hI.x rfl rfl (Nat.le_of_ble_eq_true rfl) ⟨Nat.le_of_ble_eq_true rfl, Nat.le_of_ble_eq_true rfl⟩ ⟨by omega, by omega⟩ ?_
  refine z_if_lt CX 126 dL_told_4 (by decide) (fun q9 => absurd q9 (Int32.not_lt.mpr (nI_pos' (by have := hσ.1; omega)))) (fun _ => ?_)
  refine z_aload_n CX 0 dL_told_7 rfl rfl ?_
  refine z_bipush CX (v := 84) dL_told_8 (by decide) ?_
  refine z_callSw CX hN dL_told_10 csw_160 hC2 rfl rfl (Nat.le_of_ble_eq_true rfl) ⟨Nat.le_of_ble_eq_true rfl, Nat.le_of_ble_eq_true rfl⟩ ⟨by omega, by omega⟩ ?_
  refine z_lconst CX (v := 0) dL_told_13 (by decide) ?_
  refine z_lcmp CX dL_told_14 ?_
  refine z_if_le CX 126 dL_told_15 (by decide) (fun q9 => absurd q9 (fun z9 => absurd ((lg_cmp_le _ _).mp z9) (by rw [show (0 : Int64) = lN 0 from rfl, lN_le (by omega) (by omega)]; omega))) (fun _ => ?_)
  refine z_aload_n CX 0 dL_told_18 rfl rfl ?_
  refine z_bipush CX (v := 103) dL_told_19 (by decide) ?_
  refine z_bipush CX (v := 49) dL_told_21 (by decide) ?_
  refine z_bipush CX (v := 48) dL_told_23 (by decide) ?_
  refine z_iload_n CX 1 dL_told_25 rfl rfl ?_
  refine z_bipush CX (v := 10) dL_told_26 (by decide) ?_
  refine z_irem CX dL_told_28 (by decide) ?_
  refine z_iadd CX dL_told_29 ?_
  refine z_bipush CX (v := 49) dL_told_30 (by decide) ?_
  refine z_iload_n CX 1 dL_told_32 rfl rfl ?_
  refine z_iconst CX (v := 4) dL_told_33 (by decide) ?_
  refine z_irem CX dL_told_34 (by decide) ?_
  refine z_iadd CX dL_told_35 ?_
  refine z_callSp CX hN dL_told_36 cs_L_191 (c_says (l := l) (n9 := 1) hI2 hσ9 (by omega) ⟨(by rw [chh 1 (by omega)]; exact rfl), (by rw [chh 1 (by omega)]; show 103 ≤ 255; omega)⟩ ⟨(by rw [chh 2 (by omega)]; exact rfl), (by rw [chh 2 (by omega)]; show 49 ≤ 255; omega)⟩ ⟨(by rw [chh 3 (by omega)]; exact (by rw [show nI x9 - nI x9 / 10 * 10 = nI (x9 % 10) from rm_n (d := 10) hx9 (by omega) (by omega)]; exact nI_add 48 _)), (by rw [chh 3 (by omega)]; show 48 + x9 % 10 ≤ 255; omega)⟩ ⟨(by rw [chh 4 (by omega)]; exact (by rw [show nI x9 - nI x9 / 4 * 4 = nI (x9 % 4) from rm_n (d := 4) hx9 (by omega) (by omega)]; exact nI_add 49 _)), (by rw [chh 4 (by omega)]; show 49 + x9 % 4 ≤ 255; omega)⟩) rfl rfl (Nat.le_of_ble_eq_true rfl) ⟨Nat.le_of_ble_eq_true rfl, Nat.le_of_ble_eq_true rfl⟩ ⟨by omega, by omega⟩ ?_
  intro H3 v7 hv7
  obtain ⟨hI3, rfl⟩ := hv7
  refine z_if_eq CX 126 dL_told_39 (by decide) (fun q9 => absurd q9 (by decide)) (fun _ => ?_)
  refine z_aload_n CX 0 dL_told_42 rfl rfl ?_
  refine z_bipush CX (v := 48) dL_told_43 (by decide) ?_
  refine z_bipush CX (v := 48) dL_told_45 (by decide) ?_
  refine z_bipush CX (v := 48) dL_told_47 (by decide) ?_
  refine z_bipush CX (v := 103) dL_told_49 (by decide) ?_
  refine z_callSp CX hN dL_told_51 cs_L_191 (c_says (l := l) (n9 := 5) hI3 hσ9 (by omega) ⟨(by rw [chh 5 (by omega)]; exact rfl), (by rw [chh 5 (by omega)]; show 48 ≤ 255; omega)⟩ ⟨(by rw [chh 6 (by omega)]; exact rfl), (by rw [chh 6 (by omega)]; show 48 ≤ 255; omega)⟩ ⟨(by rw [chh 7 (by omega)]; exact rfl), (by rw [chh 7 (by omega)]; show 48 ≤ 255; omega)⟩ ⟨(by rw [chh 8 (by omega)]; exact rfl), (by rw [chh 8 (by omega)]; show 103 ≤ 255; omega)⟩) rfl rfl (Nat.le_of_ble_eq_true rfl) ⟨Nat.le_of_ble_eq_true rfl, Nat.le_of_ble_eq_true rfl⟩ ⟨by omega, by omega⟩ ?_
  intro H4 v7 hv7
  obtain ⟨hI4, rfl⟩ := hv7
  refine z_if_eq CX 126 dL_told_54 (by decide) (fun q9 => absurd q9 (by decide)) (fun _ => ?_)
  refine z_aload_n CX 0 dL_told_57 rfl rfl ?_
  refine z_bipush CX (v := 48) dL_told_58 (by decide) ?_
  refine z_bipush CX (v := 53) dL_told_60 (by decide) ?_
  refine z_iload_n CX 1 dL_told_62 rfl rfl ?_
  refine z_iconst CX (v := 5) dL_told_63 (by decide) ?_
  refine z_irem CX dL_told_64 (by decide) ?_
  refine z_iadd CX dL_told_65 ?_
  refine z_bipush CX (v := 48) dL_told_66 (by decide) ?_
  refine z_iload_n CX 1 dL_told_68 rfl rfl ?_
  refine z_iconst CX (v := 3) dL_told_69 (by decide) ?_
  refine z_idiv CX dL_told_70 (by decide) ?_
  refine z_bipush CX (v := 6) dL_told_71 (by decide) ?_
  refine z_irem CX dL_told_73 (by decide) ?_
  refine z_iadd CX dL_told_74 ?_
  refine z_bipush CX (v := 48) dL_told_75 (by decide) ?_
  refine z_callSp CX hN dL_told_77 cs_L_191 (c_says (l := l) (n9 := 9) hI4 hσ9 (by omega) ⟨(by rw [chh 9 (by omega)]; exact rfl), (by rw [chh 9 (by omega)]; show 48 ≤ 255; omega)⟩ ⟨(by rw [chh 10 (by omega)]; exact (by rw [show nI x9 - nI x9 / 5 * 5 = nI (x9 % 5) from rm_n (d := 5) hx9 (by omega) (by omega)]; exact nI_add 53 _)), (by rw [chh 10 (by omega)]; show 53 + x9 % 5 ≤ 255; omega)⟩ ⟨(by rw [chh 11 (by omega)]; exact (by rw [show nI x9 / 3 = nI (x9 / 3) from dv_n (d := 3) hx9 (by omega) (by omega), show nI (x9 / 3) - nI (x9 / 3) / 6 * 6 = nI (x9 / 3 % 6) from rm_n (d := 6) (by omega) (by omega) (by omega)]; exact nI_add 48 _)), (by rw [chh 11 (by omega)]; show 48 + x9 / 3 % 6 ≤ 255; omega)⟩ ⟨(by rw [chh 12 (by omega)]; exact rfl), (by rw [chh 12 (by omega)]; show 48 ≤ 255; omega)⟩) rfl rfl (Nat.le_of_ble_eq_true rfl) ⟨Nat.le_of_ble_eq_true rfl, Nat.le_of_ble_eq_true rfl⟩ ⟨by omega, by omega⟩ ?_
  intro H5 v7 hv7
  obtain ⟨hI5, rfl⟩ := hv7
  refine z_if_eq CX 126 dL_told_80 (by decide) (fun q9 => absurd q9 (by decide)) (fun _ => ?_)
  refine z_aload_n CX 0 dL_told_83 rfl rfl ?_
  refine z_bipush CX (v := 48) dL_told_84 (by decide) ?_
  refine z_bipush CX (v := 48) dL_told_86 (by decide) ?_
  refine z_iload_n CX 1 dL_told_88 rfl rfl ?_
  refine z_bipush CX (v := 7) dL_told_89 (by decide) ?_
  refine z_idiv CX dL_told_91 (by decide) ?_
  refine z_bipush CX (v := 10) dL_told_92 (by decide) ?_
  refine z_irem CX dL_told_94 (by decide) ?_
  refine z_iadd CX dL_told_95 ?_
  refine z_bipush CX (v := 115) dL_told_96 (by decide) ?_
  refine z_bipush CX (v := 49) dL_told_98 (by decide) ?_
  refine z_callSp CX hN dL_told_100 cs_L_191 (c_says (l := l) (n9 := 13) hI5 hσ9 (by omega) ⟨(by rw [chh 13 (by omega)]; exact rfl), (by rw [chh 13 (by omega)]; show 48 ≤ 255; omega)⟩ ⟨(by rw [chh 14 (by omega)]; exact (by rw [show nI x9 / 7 = nI (x9 / 7) from dv_n (d := 7) hx9 (by omega) (by omega), show nI (x9 / 7) - nI (x9 / 7) / 10 * 10 = nI (x9 / 7 % 10) from rm_n (d := 10) (by omega) (by omega) (by omega)]; exact nI_add 48 _)), (by rw [chh 14 (by omega)]; show 48 + x9 / 7 % 10 ≤ 255; omega)⟩ ⟨(by rw [chh 15 (by omega)]; exact rfl), (by rw [chh 15 (by omega)]; show 115 ≤ 255; omega)⟩ ⟨(by rw [chh 16 (by omega)]; exact rfl), (by rw [chh 16 (by omega)]; show 49 ≤ 255; omega)⟩) rfl rfl (Nat.le_of_ble_eq_true rfl) ⟨Nat.le_of_ble_eq_true rfl, Nat.le_of_ble_eq_true rfl⟩ ⟨by omega, by omega⟩ ?_
  intro H6 v7 hv7
  obtain ⟨hI6, rfl⟩ := hv7
  refine z_if_eq CX 126 dL_told_103 (by decide) (fun q9 => absurd q9 (by decide)) (fun _ => ?_)
  have e17 : (49 : Int32) + (nI x9 - nI x9 / 9 * 9) = nI (chF x9 17) ∧ chF x9 17 ≤ 255 := ⟨(by rw [chh 17 (by omega)]; exact (by rw [show nI x9 - nI x9 / 9 * 9 = nI (x9 % 9) from rm_n (d := 9) hx9 (by omega) (by omega)]; exact nI_add 49 _)), (by rw [chh 17 (by omega)]; show 49 + x9 % 9 ≤ 255; omega)⟩
  obtain ⟨H7, hI7, hC7⟩ := ap1 (l := l) (n9 := 17) hI6 hσ9 (by omega) e17.1 e17.2
  refine z_aload_n CX 0 dL_told_106 rfl rfl ?_
  refine z_bipush CX (v := 49) dL_told_107 (by decide) ?_
  refine z_iload_n CX 1 dL_told_109 rfl rfl ?_
  refine z_bipush CX (v := 9) dL_told_110 (by decide) ?_
  refine z_irem CX dL_told_112 (by decide) ?_
  refine z_iadd CX dL_told_113 ?_
  refine z_callSw CX hN dL_told_114 csw_160 hC7 rfl rfl (Nat.le_of_ble_eq_true rfl) ⟨Nat.le_of_ble_eq_true rfl, Nat.le_of_ble_eq_true rfl⟩ ⟨by omega, by omega⟩ ?_
  refine z_lconst CX (v := 0) dL_told_117 (by decide) ?_
  refine z_lcmp CX dL_told_118 ?_
  refine z_if_le CX 126 dL_told_119 (by decide) (fun q9 => absurd q9 (fun z9 => absurd ((lg_cmp_le _ _).mp z9) (by rw [show (0 : Int64) = lN 0 from rfl, lN_le (by omega) (by omega)]; omega))) (fun _ => ?_)
  refine z_iconst CX (v := 1) dL_told_122 (by decide) ?_
  refine z_goto CX 127 dL_told_123 (by decide) ?_
  refine z_istore_n CX 2 dL_told_127 rfl (by decide) ?_
  refine z_iconst CX (v := 0) dL_told_128 (by decide) ?_
  refine z_istore_n CX 3 dL_told_129 rfl (by decide) ?_
  refine z_widen (k9 := (18 + 18 * 0)) (n9 := 6 * (18 + 18 * 0)) (by omega) (by omega) ?_
  refine z_loc [(0, .ref (wB w + k)), (1, .int (nI x9)), (2, .int 1), (3, .int (nI 0))] ⟨rfl, rfl, rfl, rfl, trivial⟩ ?_
  exact (LP (1 + x9 % 5) 0 (by omega) H7 hI7)
end
