/-! the law: its start, its rounds -/
theorem nc_mem0 : ∀ q ∈ [((1 : Nat), (2 : Nat)), (1, 3), (2, 1), (2, 3), (3, 1), (3, 2)], Cond.not (.castable (exN q.1) (exN q.2)) ∈ flatC (Jvm.Cond.and given_1 narrow_1) := by decide +kernel
theorem nc_mem (i : Nat) (h1 : i < 4) (j : Nat) (h2 : j < 4) (h3 : 1 ≤ i) (h4 : 1 ≤ j) (h5 : i ≠ j) : Cond.not (.castable (exN i) (exN j)) ∈ flatC (Jvm.Cond.and given_1 narrow_1) := by
  have h : (i = 1 ∧ j = 2) ∨ (i = 1 ∧ j = 3) ∨ (i = 2 ∧ j = 1) ∨ (i = 2 ∧ j = 3) ∨ (i = 3 ∧ j = 1) ∨ (i = 3 ∧ j = 2) := by omega
  rcases h with ⟨rfl, rfl⟩ | ⟨rfl, rfl⟩ | ⟨rfl, rfl⟩ | ⟨rfl, rfl⟩ | ⟨rfl, rfl⟩ | ⟨rfl, rfl⟩
  · exact nc_mem0 (1, 2) (by decide)
  · exact nc_mem0 (1, 3) (by decide)
  · exact nc_mem0 (2, 1) (by decide)
  · exact nc_mem0 (2, 3) (by decide)
  · exact nc_mem0 (3, 1) (by decide)
  · exact nc_mem0 (3, 2) (by decide)
theorem st_NX {s : State} {args : Array Value} (hts : ∀ w ∈ lw_tbl, w.before args s = true) (hgv : (Jvm.Cond.and given_1 narrow_1).before args s = true) : NX s :=
  ⟨fun i h1 j h2 h3 h4 h5 => va_Nc.of (flat_of_before _ hgv _ (nc_mem i h1 j h2 h3 h4 h5)), fun x hx => va_tabs (FWL_on hx).2 rfl (hts x (FWL_tb x hx))⟩
/-- the state of a new object -/
abbrev zs0 : ZS := ((0, fun _ => 0), frF z00, [], fun _ => none)
theorem OKs.zero : OKs 0 zs0 := ⟨Nat.zero_le _, OK2_fr, Nat.zero_le _, fun f hf => absurd hf List.not_mem_nil, fun i f hi hf => by cases hf⟩
abbrev GB0 (w : Wt) (hs : Hs) (k : Nat) : Hs := GB w hs k ((fun _ => 0), (fun _ => 0), (fun _ => 0)) (nT (frF z00) 0 (fun _ _ => 0)) (nT (frF z00) 0 (fun _ _ => 0)) (0, 0, (fun _ => 0), (fun _ => frF z00), (fun _ => 0), (fun _ _ _ => 0)) ((fun _ => 0), (fun _ => frF z00), (fun _ => 0), (fun _ _ _ => 0))
theorem is_0 {w : Wt} {hs : Hs} {k : Nat} : IS w hs k zs0 (GB0 w hs k) := by
  have h152 : (0 : Int32) = frF z00 152 := (frF_0 (by omega) (fun o ho => by omega) (by omega) (by omega)).symm
  refine ⟨fun _ => 0, fun _ => 0, fun _ _ => 0, nT (frF z00) 0 (fun _ _ => 0), 0, fun _ => 0, fun _ => frF z00, fun _ => 0, fun _ _ _ => 0, fun _ => 0, fun _ => frF z00, fun _ => 0, fun _ _ _ => 0, rfl, by omega, RGl.nil, fun i hi => Or.inl ⟨rfl, rfl⟩, ?_⟩
  exact congrArg (fun x9 => GB w hs k ((fun _ => 0), (fun _ => 0), (fun _ => 0)) (nT (frF z00) x9 (fun _ _ => 0)) (nT (frF z00) 0 (fun _ _ => 0)) (0, 0, (fun _ => 0), (fun _ => frF z00), (fun _ => 0), (fun _ _ _ => 0)) ((fun _ => 0), (fun _ => frF z00), (fun _ => 0), (fun _ _ _ => 0))) h152
theorem tw_0 {w : Wt} : TW w zs0 zs0 (GB0 w (GB0 w noH 0) 137) := by
  refine ⟨GB0 w noH 137, is_0, ?_⟩
  rw [show GB0 w (GB0 w noH 0) 137 = GB0 w (GB0 w noH 137) 0 from gb_G (by omega)]
  exact is_0
set_option maxHeartbeats 4000000 in
set_option maxRecDepth 100000 in
theorem law_loop {p : Program} {l : Launch} {e : Env} {R : Room} {s : State} {m : MethodId} {args : Array Value} {below : List Frame} {meth : Method} {c : Code} {w : Wt} {nm : String} {Q : State → Prop} {b L : Nat} {xs : Nat → Int32} (CX : Ctx p s m args meth c R w RL nm cL_law 7 (some .boolean) 13 494 600104 7301314) (hN : NX s) (hX : SX b L xs w s) (hl9 : l.stackTraces = false)
    (EN : ∀ (hs : Hs) (n1 n2 : Nat) (lv : List (Nat × Value)), n1 ≤ 600104 → n2 ≤ 7301314 → ZW p l e R s m args below meth c w 7 hs none n1 n2 Q 291 lv [.int 1]) : ∀ σ1 H1, OKs (7300 + 60 * 0) σ1 → TW w σ1 σ1 H1 → ZW p l e R s m args below meth c w 7 H1 none (500 + 1000 * 0 + 0) (8000 + 6000 * 0 + 0) Q 52 [(0, .ref b), (1, .ref (wB w + 0)), (2, .ref (wB w + 137)), (3, .int 1), (4, .int (nI 0))] [] := by
  have hL : L ≤ 260 := hX.2.2.2
  have K271 : ∀ σ1 H1, OKs (7300 + 60 * 40) σ1 → TW w σ1 σ1 H1 → ZW p l e R s m args below meth c w 7 H1 none (500 + 1000 * 40 + 0) (8000 + 6000 * 40 + 0) Q 271 [(0, .ref b), (1, .ref (wB w + 0)), (2, .ref (wB w + 137)), (3, .int 1), (4, .int (nI 40))] [] := by
    intro σ1 H1 hσ1 hT1
    refine z_iload_n CX 3 dL_law_271 rfl rfl ?_
    refine z_if_eq CX 290 dL_law_272 (by decide) (fun q9 => absurd q9 (by decide)) (fun _ => ?_)
    refine z_aload_n CX 1 dL_law_275 rfl rfl ?_
    refine z_aload_n CX 2 dL_law_276 rfl rfl ?_
    refine z_sipush CX (v := 10861) dL_law_277 (by decide) ?_
    refine z_callSp CX hN dL_law_280 cs_L_200 (c_alike (x9 := 10861) hT1 hσ1 (by omega) hl9) rfl rfl (Nat.le_of_ble_eq_true rfl) ⟨Nat.le_of_ble_eq_true rfl, Nat.le_of_ble_eq_true rfl⟩ ⟨by omega, by omega⟩ ?_
    intro H7 v7 hv7
    obtain ⟨hT7, rfl⟩ := hv7
    refine z_if_eq CX 290 dL_law_283 (by decide) (fun q9 => absurd q9 (by decide)) (fun _ => ?_)
    refine z_iconst CX (v := 1) dL_law_286 (by decide) ?_
    refine z_goto CX 291 dL_law_287 (by decide) ?_
    exact EN H7 _ _ _ (by omega) (by omega)
  have LP : ∀ j i, i + j = 40 → ∀ σ1 H1, OKs (7300 + 60 * i) σ1 → TW w σ1 σ1 H1 → ZW p l e R s m args below meth c w 7 H1 none (500 + 1000 * i + 0) (8000 + 6000 * i + 0) Q 52 [(0, .ref b), (1, .ref (wB w + 0)), (2, .ref (wB w + 137)), (3, .int 1), (4, .int (nI i))] [] := by
    intro j
    induction j with
    | zero =>
      intro i hi σ1 H1 hσ1 hT1
      obtain rfl : i = 40 := by omega
      refine z_iload CX dL_law_52 rfl ?_
      refine z_bipush CX (v := 40) dL_law_54 (by decide) ?_
      refine z_icmp_ge CX 271 dL_law_56 (by decide) (fun _ => ?_) (fun q9 => absurd (by decide) q9)
      refine z_widen (k9 := (500 + 1000 * 40 + 0)) (n9 := (8000 + 6000 * 40 + 0)) (by omega) (by omega) ?_
      refine z_loc [(0, .ref b), (1, .ref (wB w + 0)), (2, .ref (wB w + 137)), (3, .int 1), (4, .int (nI 40))] ⟨rfl, rfl, rfl, rfl, rfl, trivial⟩ ?_
      exact (K271 σ1 H1 hσ1 hT1)
    | succ j ih =>
      intro i hi σ0 H0 hσ0 hT0
      obtain ⟨x9, hx9, hdx⟩ := c_draw (l := l) (w := w) (b := b) (xs := xs) (k9 := 2 * i) (by omega) hL
      obtain ⟨y9, hy9, hdy⟩ := c_draw (l := l) (w := w) (b := b) (xs := xs) (k9 := 2 * i + 1) (by omega) hL
      have e2 : (2 : Int32) * nI i = nI (2 * i) := pk_mul 2 i
      have e21 : (2 : Int32) * nI i + 1 = nI (2 * i + 1) := by rw [e2, nI_1]
      have K265 : ∀ σ1 H1, OKs (7300 + 60 * (i + 1)) σ1 → TW w σ1 σ1 H1 → ZW p l e R s m args below meth c w 7 H1 none (500 + 1000 * i + 800) (8000 + 6000 * i + 4800) Q 265 [(0, .ref b), (1, .ref (wB w + 0)), (2, .ref (wB w + 137)), (3, .int 1), (4, .int (nI i))] [] := by
        intro σ1 H1 hσ1 hT1
        refine z_iinc CX (v := (nI (i + 1))) dL_law_265 rfl (nI_1 _) (by decide) ?_
        refine z_goto CX 52 dL_law_268 (by decide) ?_
        refine z_widen (k9 := (500 + 1000 * (i + 1) + 0)) (n9 := (8000 + 6000 * (i + 1) + 0)) (by omega) (by omega) ?_
        refine z_loc [(0, .ref b), (1, .ref (wB w + 0)), (2, .ref (wB w + 137)), (3, .int 1), (4, .int (nI (i + 1)))] ⟨rfl, rfl, rfl, rfl, rfl, trivial⟩ ?_
        exact (ih (i + 1) (by omega) σ1 H1 hσ1 hT1)
      have K237 : ∀ σ1 H1, OKs (7300 + 60 * (i + 1)) σ1 → TW w σ1 σ1 H1 → ZW p l e R s m args below meth c w 7 H1 none (500 + 1000 * i + 700) (8000 + 6000 * i + 4200) Q 237 [(0, .ref b), (1, .ref (wB w + 0)), (2, .ref (wB w + 137)), (3, .int 1), (4, .int (nI i)), (5, .int (nI x9)), (6, .int (nI y9))] [] := by
        intro σ1 H1 hσ1 hT1
        have e10 : nI i - nI i / 10 * 10 = nI (i % 10) := pk_rem (d := 10) (by omega) (by omega) (by omega)
        by_cases h10 : i % 10 = 0
        · skip
          refine z_iload_n CX 3 dL_law_237 rfl rfl ?_
          refine z_if_eq CX 263 dL_law_238 (by decide) (fun q9 => absurd q9 (by decide)) (fun _ => ?_)
          refine z_iload CX dL_law_241 rfl ?_
          refine z_bipush CX (v := 10) dL_law_243 (by decide) ?_
          refine z_irem CX dL_law_245 (by decide) ?_
          refine z_if_gt CX 259 dL_law_246 (by decide) (fun q9 => absurd q9 (fun z9 => absurd (show (0 : Int32) < 0 from by rw [e10, h10] at z9; exact z9) (by decide))) (fun _ => ?_)
          refine z_aload_n CX 1 dL_law_249 rfl rfl ?_
          refine z_aload_n CX 2 dL_law_250 rfl rfl ?_
          refine z_iload CX dL_law_251 rfl ?_
          refine z_callSp CX hN dL_law_253 cs_L_200 (c_alike hT1 hσ1 hy9 hl9) rfl rfl (Nat.le_of_ble_eq_true rfl) ⟨Nat.le_of_ble_eq_true rfl, Nat.le_of_ble_eq_true rfl⟩ ⟨by omega, by omega⟩ ?_
          intro H7 v7 hv7
          obtain ⟨hT7, rfl⟩ := hv7
          refine z_if_eq CX 263 dL_law_256 (by decide) (fun q9 => absurd q9 (by decide)) (fun _ => ?_)
          refine z_iconst CX (v := 1) dL_law_259 (by decide) ?_
          refine z_goto CX 264 dL_law_260 (by decide) ?_
          refine z_istore_n CX 3 dL_law_264 rfl (by decide) ?_
          refine z_widen (k9 := (500 + 1000 * i + 800)) (n9 := (8000 + 6000 * i + 4800)) (by omega) (by omega) ?_
          refine z_loc [(0, .ref b), (1, .ref (wB w + 0)), (2, .ref (wB w + 137)), (3, .int 1), (4, .int (nI i))] ⟨rfl, rfl, rfl, rfl, rfl, trivial⟩ ?_
          exact (K265 σ1 H7 hσ1 hT7)
        · skip
          refine z_iload_n CX 3 dL_law_237 rfl rfl ?_
          refine z_if_eq CX 263 dL_law_238 (by decide) (fun q9 => absurd q9 (by decide)) (fun _ => ?_)
          refine z_iload CX dL_law_241 rfl ?_
          refine z_bipush CX (v := 10) dL_law_243 (by decide) ?_
          refine z_irem CX dL_law_245 (by decide) ?_
          refine z_if_gt CX 259 dL_law_246 (by decide) (fun _ => ?_) (fun q9 => absurd (by rw [e10]; exact nI_lt (a := 0) (by omega) (by omega)) q9)
          refine z_iconst CX (v := 1) dL_law_259 (by decide) ?_
          refine z_goto CX 264 dL_law_260 (by decide) ?_
          refine z_istore_n CX 3 dL_law_264 rfl (by decide) ?_
          refine z_widen (k9 := (500 + 1000 * i + 800)) (n9 := (8000 + 6000 * i + 4800)) (by omega) (by omega) ?_
          refine z_loc [(0, .ref b), (1, .ref (wB w + 0)), (2, .ref (wB w + 137)), (3, .int 1), (4, .int (nI i))] ⟨rfl, rfl, rfl, rfl, rfl, trivial⟩ ?_
          exact (K265 σ1 H1 hσ1 hT1)
      have K188 : ∀ σ1 H1, OKs (7300 + 60 * (i + 1)) σ1 → TW w σ1 σ1 H1 → ZW p l e R s m args below meth c w 7 H1 none (500 + 1000 * i + 600) (8000 + 6000 * i + 3600) Q 188 [(0, .ref b), (1, .ref (wB w + 0)), (2, .ref (wB w + 137)), (3, .int 1), (4, .int (nI i)), (5, .int (nI x9)), (6, .int (nI y9))] [] := by
        intro σ1 H1 hσ1 hT1
        have e13 : nI i - nI i / 13 * 13 = nI (i % 13) := pk_rem (d := 13) (by omega) (by omega) (by omega)
        by_cases h13 : i % 13 = 12
        · obtain ⟨b1, i1, u1⟩ := hT1.q
          obtain ⟨m9, k9, dr9, wn9, pt9, ⟨a1, a2⟩, -⟩ := hσ1.2.1.2
          have hσK : OKs (7300 + 60 * (i + 1)) ((σ1.1, zsF σ1, zsB σ1, fun q => if q = 1 then some (zsF σ1) else zsK σ1 q) : ZS) := okS hσ1
          have hσR : OKs (7300 + 60 * (i + 1)) ((σ1.1, zsF σ1, [], fun q => if q = 1 then some (zsF σ1) else zsK σ1 q) : ZS) := hσK.tk 0
          refine z_iload CX dL_law_188 rfl ?_
          refine z_bipush CX (v := 13) dL_law_190 (by decide) ?_
          refine z_irem CX dL_law_192 (by decide) ?_
          refine z_bipush CX (v := 12) dL_law_193 (by decide) ?_
          refine z_icmp_ne CX 237 dL_law_195 (by decide) (fun q9 => absurd q9 (fun z9 => z9 (by rw [e13, h13]; rfl))) (fun _ => ?_)
          refine z_iload_n CX 3 dL_law_198 rfl rfl ?_
          refine z_if_eq CX 235 dL_law_199 (by decide) (fun q9 => absurd q9 (by decide)) (fun _ => ?_)
          refine z_aload_n CX 2 dL_law_202 rfl rfl ?_
          refine z_iload CX dL_law_203 rfl ?_
          refine z_callSp CX hN dL_law_205 cs_L_220 (c_follows (x9 := y9) i1 hσ1 (by omega) hy9 hl9) rfl rfl (Nat.le_of_ble_eq_true rfl) ⟨Nat.le_of_ble_eq_true rfl, Nat.le_of_ble_eq_true rfl⟩ ⟨by omega, by omega⟩ ?_
          intro H7 v7 hv7
          obtain ⟨hI7, rfl⟩ := hv7
          have hT7 := u1 _ _ hI7
          obtain ⟨b2, i2, u2⟩ := hT7.p
          obtain ⟨H8, hI8, hC8⟩ := s_save (l := l) (i := 1) i2 hσ1 (by omega)
          rw [l2l (show zsF σ1 148 = nI m9 from a1) (by omega)] at hC8
          have hT8 := u2 _ _ hI8
          obtain ⟨b3, i3, u3⟩ := hT8.p
          obtain ⟨H9, hI9, hC9⟩ := s_restore (l := l) (i := 1) i3 hσK (by omega) (f0 := zsF σ1) rfl
          rw [l2l (show zsF σ1 148 = nI m9 from a1) (by omega)] at hC9
          have hT9 := u3 _ _ hI9
          refine z_if_eq CX 235 dL_law_208 (by decide) (fun q9 => absurd q9 (by decide)) (fun _ => ?_)
          refine z_aload_n CX 1 dL_law_211 rfl rfl ?_
          refine z_iconst CX (v := 1) dL_law_212 (by decide) ?_
          refine z_callSw CX hN dL_law_213 csw_156 hC8 rfl rfl (Nat.le_of_ble_eq_true rfl) ⟨Nat.le_of_ble_eq_true rfl, Nat.le_of_ble_eq_true rfl⟩ ⟨by omega, by omega⟩ ?_
          refine z_lconst CX (v := 0) dL_law_216 (by decide) ?_
          refine z_lcmp CX dL_law_217 ?_
          refine z_if_lt CX 235 dL_law_218 (by decide) (fun q9 => absurd q9 (lc0 (by omega))) (fun _ => ?_)
          refine z_aload_n CX 1 dL_law_221 rfl rfl ?_
          refine z_iconst CX (v := 1) dL_law_222 (by decide) ?_
          refine z_callSw CX hN dL_law_223 csw_158 hC9 rfl rfl (Nat.le_of_ble_eq_true rfl) ⟨Nat.le_of_ble_eq_true rfl, Nat.le_of_ble_eq_true rfl⟩ ⟨by omega, by omega⟩ ?_
          refine z_lconst CX (v := 0) dL_law_226 (by decide) ?_
          refine z_lcmp CX dL_law_227 ?_
          refine z_if_lt CX 235 dL_law_228 (by decide) (fun q9 => absurd q9 (lc0 (by omega))) (fun _ => ?_)
          refine z_iconst CX (v := 1) dL_law_231 (by decide) ?_
          refine z_goto CX 236 dL_law_232 (by decide) ?_
          refine z_istore_n CX 3 dL_law_236 rfl (by decide) ?_
          refine z_widen (k9 := (500 + 1000 * i + 700)) (n9 := (8000 + 6000 * i + 4200)) (by omega) (by omega) ?_
          refine z_loc [(0, .ref b), (1, .ref (wB w + 0)), (2, .ref (wB w + 137)), (3, .int 1), (4, .int (nI i)), (5, .int (nI x9)), (6, .int (nI y9))] ⟨rfl, rfl, rfl, rfl, rfl, rfl, rfl, trivial⟩ ?_
          exact (K237 _ H9 hσR hT9)
        · skip
          refine z_iload CX dL_law_188 rfl ?_
          refine z_bipush CX (v := 13) dL_law_190 (by decide) ?_
          refine z_irem CX dL_law_192 (by decide) ?_
          refine z_bipush CX (v := 12) dL_law_193 (by decide) ?_
          refine z_icmp_ne CX 237 dL_law_195 (by decide) (fun _ => ?_) (fun q9 => absurd q9 (by rw [e13]; exact fun z9 => h13 ((nI_eq (b := 12) (by omega) (by omega)).mp z9)))
          refine z_widen (k9 := (500 + 1000 * i + 700)) (n9 := (8000 + 6000 * i + 4200)) (by omega) (by omega) ?_
          refine z_loc [(0, .ref b), (1, .ref (wB w + 0)), (2, .ref (wB w + 137)), (3, .int 1), (4, .int (nI i)), (5, .int (nI x9)), (6, .int (nI y9))] ⟨rfl, rfl, rfl, rfl, rfl, rfl, rfl, trivial⟩ ?_
          exact (K237 σ1 H1 hσ1 hT1)
      have K155 : ∀ σ1 H1, OKs (7300 + 60 * (i + 1)) σ1 → TW w σ1 σ1 H1 → ZW p l e R s m args below meth c w 7 H1 none (500 + 1000 * i + 500) (8000 + 6000 * i + 3000) Q 155 [(0, .ref b), (1, .ref (wB w + 0)), (2, .ref (wB w + 137)), (3, .int 1), (4, .int (nI i)), (5, .int (nI x9)), (6, .int (nI y9))] [] := by
        intro σ1 H1 hσ1 hT1
        have e8 : nI i - nI i / 8 * 8 = nI (i % 8) := pk_rem (d := 8) (by omega) (by omega) (by omega)
        by_cases h8 : i % 8 = 3
        · obtain ⟨b1, i1, u1⟩ := hT1.q
          refine z_iload CX dL_law_155 rfl ?_
          refine z_bipush CX (v := 8) dL_law_157 (by decide) ?_
          refine z_irem CX dL_law_159 (by decide) ?_
          refine z_iconst CX (v := 3) dL_law_160 (by decide) ?_
          refine z_icmp_ne CX 188 dL_law_161 (by decide) (fun q9 => absurd q9 (fun z9 => z9 (by rw [e8, h8]; rfl))) (fun _ => ?_)
          refine z_iload_n CX 3 dL_law_164 rfl rfl ?_
          refine z_if_eq CX 186 dL_law_165 (by decide) (fun q9 => absurd q9 (by decide)) (fun _ => ?_)
          refine z_aload_n CX 2 dL_law_168 rfl rfl ?_
          refine z_callSp CX hN dL_law_169 cs_L_204 (c_errors i1 hσ1 hl9) rfl rfl (Nat.le_of_ble_eq_true rfl) ⟨Nat.le_of_ble_eq_true rfl, Nat.le_of_ble_eq_true rfl⟩ ⟨by omega, by omega⟩ ?_
          intro H7 v7 hv7
          obtain ⟨rfl, rfl⟩ := hv7
          refine z_if_eq CX 186 dL_law_172 (by decide) (fun q9 => absurd q9 (by decide)) (fun _ => ?_)
          refine z_aload_n CX 2 dL_law_175 rfl rfl ?_
          refine z_callSp CX hN dL_law_176 cs_L_208 (c_kept i1 hσ1 (by omega)) rfl rfl (Nat.le_of_ble_eq_true rfl) ⟨Nat.le_of_ble_eq_true rfl, Nat.le_of_ble_eq_true rfl⟩ ⟨by omega, by omega⟩ ?_
          intro H7 v7 hv7
          obtain ⟨rfl, rfl⟩ := hv7
          refine z_if_eq CX 186 dL_law_179 (by decide) (fun q9 => absurd q9 (by decide)) (fun _ => ?_)
          refine z_iconst CX (v := 1) dL_law_182 (by decide) ?_
          refine z_goto CX 187 dL_law_183 (by decide) ?_
          refine z_istore_n CX 3 dL_law_187 rfl (by decide) ?_
          refine z_widen (k9 := (500 + 1000 * i + 600)) (n9 := (8000 + 6000 * i + 3600)) (by omega) (by omega) ?_
          refine z_loc [(0, .ref b), (1, .ref (wB w + 0)), (2, .ref (wB w + 137)), (3, .int 1), (4, .int (nI i)), (5, .int (nI x9)), (6, .int (nI y9))] ⟨rfl, rfl, rfl, rfl, rfl, rfl, rfl, trivial⟩ ?_
          exact (K188 σ1 H7 hσ1 hT1)
        · skip
          refine z_iload CX dL_law_155 rfl ?_
          refine z_bipush CX (v := 8) dL_law_157 (by decide) ?_
          refine z_irem CX dL_law_159 (by decide) ?_
          refine z_iconst CX (v := 3) dL_law_160 (by decide) ?_
          refine z_icmp_ne CX 188 dL_law_161 (by decide) (fun _ => ?_) (fun q9 => absurd q9 (by rw [e8]; exact fun z9 => h8 ((nI_eq (b := 3) (by omega) (by omega)).mp z9)))
          refine z_widen (k9 := (500 + 1000 * i + 600)) (n9 := (8000 + 6000 * i + 3600)) (by omega) (by omega) ?_
          refine z_loc [(0, .ref b), (1, .ref (wB w + 0)), (2, .ref (wB w + 137)), (3, .int 1), (4, .int (nI i)), (5, .int (nI x9)), (6, .int (nI y9))] ⟨rfl, rfl, rfl, rfl, rfl, rfl, rfl, trivial⟩ ?_
          exact (K188 σ1 H1 hσ1 hT1)
      by_cases hi0 : i = 0
      · subst hi0
        obtain ⟨b1, i1, u1⟩ := hT0.p
        have hn5 := Nat.mod_lt x9 (show 0 < 5 by omega)
        have hσt : OKs (7300 + 60 * 0) (tS x9 (zsT σ0) σ0.2 (18 + 18 * (1 + x9 % 5))) := OKs.tS (a := σ0.1) hσ0 (by omega)
        have hgt : (tsF (zsT (tS x9 (zsT σ0) σ0.2 (18 + 18 * (1 + x9 % 5)))) (zsL (tS x9 (zsT σ0) σ0.2 (18 + 18 * (1 + x9 % 5)))) (fun _ => 0)).1.2 = true := by rw [txt_good (m := 1 + x9 % 5) (by omega)]
        have hσl : OKs (7300 + 60 * (0 + 1)) (((tS x9 (zsT σ0) σ0.2 (18 + 18 * (1 + x9 % 5))).1, (tsF (zsT (tS x9 (zsT σ0) σ0.2 (18 + 18 * (1 + x9 % 5)))) (zsL (tS x9 (zsT σ0) σ0.2 (18 + 18 * (1 + x9 % 5)))) (fun _ => 0)).2.1, [], fun _ => none) : ZS) := ⟨hσt.1, ts_K.mono (by omega), Nat.zero_le _, fun f hf => absurd hf List.not_mem_nil, fun i f hi hf => by cases hf⟩
        refine z_iload CX dL_law_52 rfl ?_
        refine z_bipush CX (v := 40) dL_law_54 (by decide) ?_
        refine z_icmp_ge CX 271 dL_law_56 (by decide) (fun q9 => absurd q9 (nI_ge (b := 40) (by omega) (by omega))) (fun _ => ?_)
        refine z_iload_n CX 3 dL_law_59 rfl rfl ?_
        refine z_if_eq CX 271 dL_law_60 (by decide) (fun q9 => absurd q9 (by decide)) (fun _ => ?_)
        refine z_aload_n CX 0 dL_law_63 rfl rfl ?_
        refine z_iconst CX (v := 2) dL_law_64 (by decide) ?_
        refine z_iload CX dL_law_65 rfl ?_
        refine z_imul CX dL_law_67 ?_
        refine z_stk (congrArg (fun q9 => [Value.int q9, Value.ref b]) e2) ?_
        refine z_callD CX hX dL_law_68 cs_L_196 (hdx _ _) rfl rfl (Nat.le_of_ble_eq_true rfl) ⟨Nat.le_of_ble_eq_true rfl, Nat.le_of_ble_eq_true rfl⟩ ⟨by omega, by omega⟩ ?_
        refine z_istore CX dL_law_71 (by decide) ?_
        refine z_aload_n CX 0 dL_law_73 rfl rfl ?_
        refine z_iconst CX (v := 2) dL_law_74 (by decide) ?_
        refine z_iload CX dL_law_75 rfl ?_
        refine z_imul CX dL_law_77 ?_
        refine z_iconst CX (v := 1) dL_law_78 (by decide) ?_
        refine z_iadd CX dL_law_79 ?_
        refine z_stk (congrArg (fun q9 => [Value.int q9, Value.ref b]) e21) ?_
        refine z_callD CX hX dL_law_80 cs_L_196 (hdy _ _) rfl rfl (Nat.le_of_ble_eq_true rfl) ⟨Nat.le_of_ble_eq_true rfl, Nat.le_of_ble_eq_true rfl⟩ ⟨by omega, by omega⟩ ?_
        refine z_istore CX dL_law_83 (by decide) ?_
        refine z_iload CX dL_law_85 rfl ?_
        refine z_if_ne CX 129 dL_law_87 (by decide) (fun q9 => absurd q9 (fun z9 => z9 rfl)) (fun _ => ?_)
        refine z_aload_n CX 1 dL_law_90 rfl rfl ?_
        refine z_iload CX dL_law_91 rfl ?_
        refine z_callSp CX hN dL_law_93 cs_L_211 (c_told (x9 := x9) (n0 := zsL σ0) (cc := zsT σ0) (ρ := σ0.2) i1 hσ0 hx9) rfl rfl (Nat.le_of_ble_eq_true rfl) ⟨Nat.le_of_ble_eq_true rfl, Nat.le_of_ble_eq_true rfl⟩ ⟨by omega, by omega⟩ ?_
        intro H7 v7 hv7
        obtain ⟨hI7, rfl⟩ := hv7
        have hT7 := u1 _ _ hI7
        obtain ⟨b2, i2, u2⟩ := hT7.q
        refine z_if_eq CX 124 dL_law_96 (by decide) (fun q9 => absurd q9 (by decide)) (fun _ => ?_)
        refine z_aload_n CX 2 dL_law_99 rfl rfl ?_
        refine z_iload CX dL_law_100 rfl ?_
        refine z_callSp CX hN dL_law_102 cs_L_211 (c_told (x9 := x9) (n0 := zsL σ0) (cc := zsT σ0) (ρ := σ0.2) i2 hσ0 hx9) rfl rfl (Nat.le_of_ble_eq_true rfl) ⟨Nat.le_of_ble_eq_true rfl, Nat.le_of_ble_eq_true rfl⟩ ⟨by omega, by omega⟩ ?_
        intro H8 v8 hv8
        obtain ⟨hI8, rfl⟩ := hv8
        have hT8 := u2 _ _ hI8
        obtain ⟨b3, i3, u3⟩ := hT8.p
        obtain ⟨H9, hI9, hC9⟩ := s_load (l := l) i3 hσt hgt
        have hT9 := u3 _ _ hI9
        obtain ⟨b4, i4, u4⟩ := hT9.q
        obtain ⟨H10, hI10, hC10⟩ := s_load (l := l) i4 hσt hgt
        have hT10 := u4 _ _ hI10
        refine z_if_eq CX 124 dL_law_105 (by decide) (fun q9 => absurd q9 (by decide)) (fun _ => ?_)
        refine z_aload_n CX 1 dL_law_108 rfl rfl ?_
        refine z_callSw CX hN dL_law_109 csw_215 hC9 rfl rfl (Nat.le_of_ble_eq_true rfl) ⟨Nat.le_of_ble_eq_true rfl, Nat.le_of_ble_eq_true rfl⟩ ⟨by omega, by omega⟩ ?_
        refine z_aload_n CX 2 dL_law_112 rfl rfl ?_
        refine z_callSw CX hN dL_law_113 csw_215 hC10 rfl rfl (Nat.le_of_ble_eq_true rfl) ⟨Nat.le_of_ble_eq_true rfl, Nat.le_of_ble_eq_true rfl⟩ ⟨by omega, by omega⟩ ?_
        refine z_lcmp CX dL_law_116 ?_
        refine z_if_ne CX 124 dL_law_117 (by decide) (fun q9 => absurd q9 (fun z9 => z9 ((lg_cmp_eq _ _).mpr rfl))) (fun _ => ?_)
        refine z_iconst CX (v := 1) dL_law_120 (by decide) ?_
        refine z_goto CX 125 dL_law_121 (by decide) ?_
        refine z_istore_n CX 3 dL_law_125 rfl (by decide) ?_
        refine z_goto CX 265 dL_law_126 (by decide) ?_
        refine z_widen (k9 := (500 + 1000 * 0 + 800)) (n9 := (8000 + 6000 * 0 + 4800)) (by omega) (by omega) ?_
        refine z_loc [(0, .ref b), (1, .ref (wB w + 0)), (2, .ref (wB w + 137)), (3, .int 1), (4, .int (nI 0))] ⟨rfl, rfl, rfl, rfl, rfl, trivial⟩ ?_
        exact (K265 _ H10 hσl hT10)
      · obtain ⟨va, σ9, hσ9, hact⟩ := u_act (l := l) (w := w) hx9 hy9 hσ0 hl9
        obtain ⟨b1, i1, u1⟩ := hT0.p
        refine z_iload CX dL_law_52 rfl ?_
        refine z_bipush CX (v := 40) dL_law_54 (by decide) ?_
        refine z_icmp_ge CX 271 dL_law_56 (by decide) (fun q9 => absurd q9 (nI_ge (b := 40) (by omega) (by omega))) (fun _ => ?_)
        refine z_iload_n CX 3 dL_law_59 rfl rfl ?_
        refine z_if_eq CX 271 dL_law_60 (by decide) (fun q9 => absurd q9 (by decide)) (fun _ => ?_)
        refine z_aload_n CX 0 dL_law_63 rfl rfl ?_
        refine z_iconst CX (v := 2) dL_law_64 (by decide) ?_
        refine z_iload CX dL_law_65 rfl ?_
        refine z_imul CX dL_law_67 ?_
        refine z_stk (congrArg (fun q9 => [Value.int q9, Value.ref b]) e2) ?_
        refine z_callD CX hX dL_law_68 cs_L_196 (hdx _ _) rfl rfl (Nat.le_of_ble_eq_true rfl) ⟨Nat.le_of_ble_eq_true rfl, Nat.le_of_ble_eq_true rfl⟩ ⟨by omega, by omega⟩ ?_
        refine z_istore CX dL_law_71 (by decide) ?_
        refine z_aload_n CX 0 dL_law_73 rfl rfl ?_
        refine z_iconst CX (v := 2) dL_law_74 (by decide) ?_
        refine z_iload CX dL_law_75 rfl ?_
        refine z_imul CX dL_law_77 ?_
        refine z_iconst CX (v := 1) dL_law_78 (by decide) ?_
        refine z_iadd CX dL_law_79 ?_
        refine z_stk (congrArg (fun q9 => [Value.int q9, Value.ref b]) e21) ?_
        refine z_callD CX hX dL_law_80 cs_L_196 (hdy _ _) rfl rfl (Nat.le_of_ble_eq_true rfl) ⟨Nat.le_of_ble_eq_true rfl, Nat.le_of_ble_eq_true rfl⟩ ⟨by omega, by omega⟩ ?_
        refine z_istore CX dL_law_83 (by decide) ?_
        refine z_iload CX dL_law_85 rfl ?_
        refine z_if_ne CX 129 dL_law_87 (by decide) (fun _ => ?_) (fun q9 => absurd q9 (nI_ne0 (by omega) (by omega)))
        refine z_aload_n CX 1 dL_law_129 rfl rfl ?_
        refine z_iload CX dL_law_130 rfl ?_
        refine z_iload CX dL_law_132 rfl ?_
        refine z_callSp CX hN dL_law_134 cs_L_217 (hact _ _ _ i1) rfl rfl (Nat.le_of_ble_eq_true rfl) ⟨Nat.le_of_ble_eq_true rfl, Nat.le_of_ble_eq_true rfl⟩ ⟨by omega, by omega⟩ ?_
        intro H7 v7 hv7
        obtain ⟨hI7, rfl⟩ := hv7
        have hT7 := u1 _ _ hI7
        obtain ⟨b2, i2, u2⟩ := hT7.q
        refine z_aload_n CX 2 dL_law_137 rfl rfl ?_
        refine z_iload CX dL_law_138 rfl ?_
        refine z_iload CX dL_law_140 rfl ?_
        refine z_callSp CX hN dL_law_142 cs_L_217 (hact _ _ _ i2) rfl rfl (Nat.le_of_ble_eq_true rfl) ⟨Nat.le_of_ble_eq_true rfl, Nat.le_of_ble_eq_true rfl⟩ ⟨by omega, by omega⟩ ?_
        intro H8 v8 hv8
        obtain ⟨hI8, rfl⟩ := hv8
        have hT8 := u2 _ _ hI8
        refine z_lcmp CX dL_law_145 ?_
        refine z_if_ne CX 153 dL_law_146 (by decide) (fun q9 => absurd q9 (fun z9 => z9 ((lg_cmp_eq _ _).mpr rfl))) (fun _ => ?_)
        refine z_iconst CX (v := 1) dL_law_149 (by decide) ?_
        refine z_goto CX 154 dL_law_150 (by decide) ?_
        refine z_istore_n CX 3 dL_law_154 rfl (by decide) ?_
        refine z_widen (k9 := (500 + 1000 * i + 500)) (n9 := (8000 + 6000 * i + 3000)) (by omega) (by omega) ?_
        refine z_loc [(0, .ref b), (1, .ref (wB w + 0)), (2, .ref (wB w + 137)), (3, .int 1), (4, .int (nI i)), (5, .int (nI x9)), (6, .int (nI y9))] ⟨rfl, rfl, rfl, rfl, rfl, rfl, rfl, trivial⟩ ?_
        exact (K155 σ9 H8 (hσ9.mono (by omega)) hT8)
  exact LP 40 0 rfl
set_option maxHeartbeats 4000000 in
set_option maxRecDepth 100000 in
theorem whole_start {p : Program} {e : Env} {s : State} {m : MethodId} {below : List Frame} {meth : Method} {c : Code} (l : Launch) (hflags : l.flags = flags0) {b L : Nat} {xs : Nat → Int32} (hL : L ≤ 260) (C0 : lw_At p s m meth c b L xs) : W p l e room_1 s m #[Value.ref b] below meth c s.heap [] 0 0 (lw_Z below #[Value.ref b] s) (entryFrame m ([Value.ref b] : List Value).toArray 7) := by
  obtain ⟨hx, hb, hr, hml, hown, hts, hXX, hbl, hlocks, hgv⟩ := C0
  obtain ⟨w, hw, hK, hO⟩ := st_world hts hgv
  have hNX := st_NX hts hgv
  have hN := hNX
  have hl9 : l.stackTraces = false := by unfold Launch.stackTraces; rw [hflags]; decide +kernel
  have hwa : ∀ x ∈ WA, x.before #[Value.ref b] s = true := fun x hx => hts x (List.mem_filter.mp hx).1
  have hSX : SX b L xs w s := ⟨hXX, by rw [hw]; exact hbl, Nat.le_of_eq hw, hL⟩
  have CX : Ctx p s m #[Value.ref b] meth c room_1 w RL meth.name cL_law 7 (some .boolean) 13 494 600104 7301314 := ⟨hx, hb, hml, hown, hwa, hlocks, hr, ⟨rfl, rfl, rfl, rfl⟩, hK, hO, rfl⟩
  have EN : ∀ (hs : Hs) (n1 n2 : Nat) (lv : List (Nat × Value)), n1 ≤ 600104 → n2 ≤ 7301314 → ZW p l e room_1 s m #[Value.ref b] below meth c w 7 hs none n1 n2 (lw_Z below #[Value.ref b] s) 291 lv [.int 1] := by
    intro hs n1 n2 lv h1 h2 H locs ls hP hS hl
    exact va_forget (fun q hq => Nat.le_trans (Nat.le_of_eq hw.symm) (hS.2.2 q hq)) (W.widen h1 h2 (lw_ret hx hb hr hlocks dL_law_291))
  obtain ⟨x0, hx0, hd0⟩ := c_draw (l := l) (w := w) (b := b) (xs := xs) (k9 := 0) (by omega) hL
  have K : ZW p l e room_1 s m #[Value.ref b] below meth c w 7 noH (some 0) 0 0 (lw_Z below #[Value.ref b] s) 0 [(0, .ref b)] [] := by
    refine z_new CX (k := 0) dL_law_0 fn_L_10 (by omega) (by omega) ?_
    refine z_dup CX dL_law_3 rfl ?_
    refine z_callI CX dL_law_4 ci_L_195 (g_init (k := 0) (upH_s _ _ _)) rfl rfl (Nat.le_of_ble_eq_true rfl) ⟨Nat.le_of_ble_eq_true rfl, Nat.le_of_ble_eq_true rfl⟩ ⟨by omega, by omega⟩ ?_
    refine z_heap (show _ = GB0 w noH 0 from by unfold GB0 GB; rw [upH_up]) ?_
    refine z_astore_n CX 1 dL_law_7 rfl (by decide) ?_
    refine z_new CX (k := 137) dL_law_8 fn_L_10 (by omega) (by omega) ?_
    refine z_dup CX dL_law_11 rfl ?_
    refine z_callI CX dL_law_12 ci_L_195 (g_init (k := 137) (upH_s _ _ _)) rfl rfl (Nat.le_of_ble_eq_true rfl) ⟨Nat.le_of_ble_eq_true rfl, Nat.le_of_ble_eq_true rfl⟩ ⟨by omega, by omega⟩ ?_
    refine z_heap (show _ = GB0 w (GB0 w noH 0) 137 from by generalize GB0 w noH 0 = hsB; unfold GB0 GB; rw [upH_up]) ?_
    refine z_none ?_
    refine z_astore_n CX 2 dL_law_15 rfl (by decide) ?_
    refine z_aload_n CX 1 dL_law_16 rfl rfl ?_
    refine z_aload_n CX 2 dL_law_17 rfl rfl ?_
    refine z_aload_n CX 0 dL_law_18 rfl rfl ?_
    refine z_iconst CX (v := 0) dL_law_19 (by decide) ?_
    refine z_callD CX hSX dL_law_20 cs_L_196 (hd0 _ _) rfl rfl (Nat.le_of_ble_eq_true rfl) ⟨Nat.le_of_ble_eq_true rfl, Nat.le_of_ble_eq_true rfl⟩ ⟨by omega, by omega⟩ ?_
    refine z_callSp CX hN dL_law_23 cs_L_200 (c_alike tw_0 OKs.zero hx0 hl9) rfl rfl (Nat.le_of_ble_eq_true rfl) ⟨Nat.le_of_ble_eq_true rfl, Nat.le_of_ble_eq_true rfl⟩ ⟨by omega, by omega⟩ ?_
    intro H7 v7 hv7
    obtain ⟨hT7, rfl⟩ := hv7
    obtain ⟨b1, i1, u1⟩ := hT7.p
    refine z_if_eq CX 47 dL_law_26 (by decide) (fun q9 => absurd q9 (by decide)) (fun _ => ?_)
    refine z_aload_n CX 1 dL_law_29 rfl rfl ?_
    refine z_callSp CX hN dL_law_30 cs_L_204 (c_errors i1 OKs.zero hl9) rfl rfl (Nat.le_of_ble_eq_true rfl) ⟨Nat.le_of_ble_eq_true rfl, Nat.le_of_ble_eq_true rfl⟩ ⟨by omega, by omega⟩ ?_
    intro H8 v8 hv8
    obtain ⟨rfl, rfl⟩ := hv8
    refine z_if_eq CX 47 dL_law_33 (by decide) (fun q9 => absurd q9 (by decide)) (fun _ => ?_)
    refine z_aload_n CX 1 dL_law_36 rfl rfl ?_
    refine z_callSp CX hN dL_law_37 cs_L_208 (c_kept i1 OKs.zero (by omega)) rfl rfl (Nat.le_of_ble_eq_true rfl) ⟨Nat.le_of_ble_eq_true rfl, Nat.le_of_ble_eq_true rfl⟩ ⟨by omega, by omega⟩ ?_
    intro H9 v9 hv9
    obtain ⟨rfl, rfl⟩ := hv9
    refine z_if_eq CX 47 dL_law_40 (by decide) (fun q9 => absurd q9 (by decide)) (fun _ => ?_)
    refine z_iconst CX (v := 1) dL_law_43 (by decide) ?_
    refine z_goto CX 48 dL_law_44 (by decide) ?_
    refine z_istore_n CX 3 dL_law_48 rfl (by decide) ?_
    refine z_iconst CX (v := 0) dL_law_49 (by decide) ?_
    refine z_istore CX dL_law_50 (by decide) ?_
    refine z_widen (k9 := (500 + 1000 * 0 + 0)) (n9 := (8000 + 6000 * 0 + 0)) (by omega) (by omega) ?_
    refine z_loc [(0, .ref b), (1, .ref (wB w + 0)), (2, .ref (wB w + 137)), (3, .int 1), (4, .int (nI 0))] ⟨rfl, rfl, rfl, rfl, rfl, trivial⟩ ?_
    exact law_loop CX hNX hSX hl9 EN _ _ (OKs.zero.mono (by omega)) hT7
  rw [lg_entry_eq]
  exact K s.heap [] _ ⟨fun k h => by cases h; exact hw.symm, fun i e h => (nomatch h)⟩ va_S.rf (lv_entry [.ref b] (Nat.le_of_ble_eq_true rfl))
