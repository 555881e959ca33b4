/-! the law's loop, and its start -/
theorem five {L : Nat} (hL : L ≤ 2560) : (nI L - 5).toInt = (L : Int) - 5 := by
  by_cases h : 5 ≤ L
  · rw [show nI L - 5 = nI (L - 5) from pk_sub (b := 5) h, nI_toInt (by omega)]; omega
  · rcases (show L = 0 ∨ L = 1 ∨ L = 2 ∨ L = 3 ∨ L = 4 by omega) with e | e | e | e | e <;> subst e <;> decide
theorem lw_gt {L j : Nat} (hL : L ≤ 2560) (hj : j ≤ 10000) : nI L - 5 < nI j ↔ L < j + 5 := by
  rw [lt_i, five hL, nI_toInt (by omega)]; omega
theorem and31 (x : Int32) : ∃ o, o < 32 ∧ x &&& 31 = nI o := by
  refine ⟨(x &&& 31).toBitVec.toNat, ?_, ?_⟩
  · rw [Int32.toBitVec_and, BitVec.toNat_and]
    exact Nat.lt_of_le_of_lt Nat.and_le_right (by decide)
  · apply Int32.toBitVec_inj.mp
    show (x &&& 31).toBitVec = BitVec.ofNat 32 (x &&& 31).toBitVec.toNat
    simp
theorem nc_mem0 : ∀ q ∈ [((1 : Nat), (2 : Nat)), (1, 3), (2, 1), (2, 3), (3, 1), (3, 2)], Cond.not (.castable (exN q.1) (exN q.2)) ∈ flatC (Jvm.Cond.and given_1 narrow_1) := by decide +kernel
theorem nc_mem (i : Nat) (h1 : i < 4) (j : Nat) (h2 : j < 4) (h3 : 1 ≤ i) (h4 : 1 ≤ j) (h5 : i ≠ j) : Cond.not (.castable (exN i) (exN j)) ∈ flatC (Jvm.Cond.and given_1 narrow_1) := by
  have h : (i = 1 ∧ j = 2) ∨ (i = 1 ∧ j = 3) ∨ (i = 2 ∧ j = 1) ∨ (i = 2 ∧ j = 3) ∨ (i = 3 ∧ j = 1) ∨ (i = 3 ∧ j = 2) := by omega
  rcases h with ⟨rfl, rfl⟩ | ⟨rfl, rfl⟩ | ⟨rfl, rfl⟩ | ⟨rfl, rfl⟩ | ⟨rfl, rfl⟩ | ⟨rfl, rfl⟩
  · exact nc_mem0 (1, 2) (by decide)
  · exact nc_mem0 (1, 3) (by decide)
  · exact nc_mem0 (2, 1) (by decide)
  · exact nc_mem0 (2, 3) (by decide)
  · exact nc_mem0 (3, 1) (by decide)
  · exact nc_mem0 (3, 2) (by decide)
theorem st_NX {s : State} {args : Array Value} (hts : ∀ w ∈ lw_tbl, w.before args s = true) (hgv : (Jvm.Cond.and given_1 narrow_1).before args s = true) : NX s :=
  ⟨fun i h1 j h2 h3 h4 h5 => va_Nc.of (flat_of_before _ hgv _ (nc_mem i h1 j h2 h3 h4 h5)), fun x hx => va_tabs (FWL_on hx).2 rfl (hts x (FWL_tb x hx))⟩
set_option maxHeartbeats 4000000 in
set_option maxRecDepth 100000 in
theorem law_loop {p : Program} {l : Launch} {e : Env} {R : Room} {s : State} {m : MethodId} {args : Array Value} {below : List Frame} {meth : Method} {c : Code} {w : Wt} {nm : String} {Q : State → Prop} {b L k : Nat} {xs : Nat → Int32} (CX : Ctx p s m args meth c R w RL nm cL_law 7 (some .boolean) 13 488 601024 7293033) (hN : NX s) (hX : SX b L xs w s) (hl9 : l.stackTraces = false)
    (EN : ∀ (hs : Hs) (n1 n2 : Nat) (lv : List (Nat × Value)), n1 ≤ 601024 → n2 ≤ 7293033 → ZW p l e R s m args below meth c w 7 hs none n1 n2 Q 1770 lv [.int 1]) : ∀ (j i : Nat) (hs : Hs) (g : Nat → Int64) (u : Nat → Int32) (A : Nat → Nat → Int32), i + j = 513 → LI w k g u A hs → ZW p l e R s m args below meth c w 7 hs none (146 + i) (6262 + 6 * i) Q 23 [(0, .ref b), (1, .ref (wB w + k)), (2, .ref (wB w + (k + 137))), (3, .ref (wB w + (k + 145))), (4, .int (nI (5 * i)))] [] := by
  have hL := hX.2.2.2
  have HD : ∀ (i : Nat) (hs : Hs), i ≤ 513 → (L < 5 * i + 5 → ZW p l e R s m args below meth c w 7 hs none (146 + i) (6262 + 6 * i) Q 23 [(0, .ref b), (1, .ref (wB w + k)), (2, .ref (wB w + (k + 137))), (3, .ref (wB w + (k + 145))), (4, .int (nI (5 * i)))] []) ∧ (5 * i + 5 ≤ L → ZW p l e R s m args below meth c w 7 hs none (146 + i) (6262 + 6 * i) Q 39 [(0, .ref b), (1, .ref (wB w + k)), (2, .ref (wB w + (k + 137))), (3, .ref (wB w + (k + 145))), (4, .int (nI (5 * i)))] [.int (xs (5 * i) &&& 31)] → ZW p l e R s m args below meth c w 7 hs none (146 + i) (6262 + 6 * i) Q 23 [(0, .ref b), (1, .ref (wB w + k)), (2, .ref (wB w + (k + 137))), (3, .ref (wB w + (k + 145))), (4, .int (nI (5 * i)))] []) := by
    intro i hs hi
    refine ⟨fun hc => ?_, fun hc K => ?_⟩
    · skip
      refine z_iload CX dL_law_23 rfl ?_
      refine z_aload_n CX 0 dL_law_25 rfl rfl ?_
      refine z_slen CX hX dL_law_26 ?_
      refine z_iconst CX (v := 5) dL_law_27 (by decide) ?_
      refine z_isub CX dL_law_28 ?_
      refine z_icmp_gt CX 1769 dL_law_29 (by decide) (fun _ => ?_) (fun q9 => absurd ((lw_gt hL (by omega)).mpr hc) q9)
      refine z_iconst CX (v := 1) dL_law_1769 (by decide) ?_
      exact EN hs _ _ _ (by omega) (by omega)
    · skip
      refine z_iload CX dL_law_23 rfl ?_
      refine z_aload_n CX 0 dL_law_25 rfl rfl ?_
      refine z_slen CX hX dL_law_26 ?_
      refine z_iconst CX (v := 5) dL_law_27 (by decide) ?_
      refine z_isub CX dL_law_28 ?_
      refine z_icmp_gt CX 1769 dL_law_29 (by decide) (fun q9 => absurd q9 (fun q => absurd ((lw_gt hL (by omega)).mp q) (by omega))) (fun _ => ?_)
      refine z_aload_n CX 0 dL_law_32 rfl rfl ?_
      refine z_iload CX dL_law_33 rfl ?_
      refine z_sl CX hX (j := 5 * i) dL_law_35 rfl (by omega) ?_
      refine z_bipush CX (v := 31) dL_law_36 (by decide) ?_
      refine z_iand CX dL_law_38 ?_
      exact K
  intro j
  induction j with
  | zero =>
    intro i hs g u A hi hI
    exact (HD i hs (by omega)).1 (by omega)
  | succ j ih =>
    intro i hs g u A hi hI
    by_cases hc : 5 * i + 5 ≤ L
    · refine (HD i hs (by omega)).2 hc ?_
      have TL : ∀ (hs2 : Hs) (u2 : Nat → Int32) (A2 : Nat → Nat → Int32) (g2 : Nat → Int64) (lv : List (Nat × Value)), LI w k g2 u2 A2 hs2 → subL [(0, .ref b), (1, .ref (wB w + k)), (2, .ref (wB w + (k + 137))), (3, .ref (wB w + (k + 145))), (4, .int (nI (5 * i)))] lv → ZW p l e R s m args below meth c w 7 hs2 none (146 + i + 1) (6262 + 6 * i + 6) Q 1763 lv [] := by
        intro hs2 u2 A2 g2 lv hI2 hsub
        refine z_loc [(0, .ref b), (1, .ref (wB w + k)), (2, .ref (wB w + (k + 137))), (3, .ref (wB w + (k + 145))), (4, .int (nI (5 * i)))] hsub ?_
        refine z_iinc CX (v := nI (5 * (i + 1))) dL_law_1763 rfl (nI_add (5 * i) 5) (by decide) ?_
        refine z_goto CX 23 dL_law_1766 (by decide) ?_
        refine z_loc [(0, .ref b), (1, .ref (wB w + k)), (2, .ref (wB w + (k + 137))), (3, .ref (wB w + (k + 145))), (4, .int (nI (5 * (i + 1))))] ⟨rfl, rfl, rfl, rfl, rfl, trivial⟩ ?_
        exact ih (i + 1) hs2 g2 u2 A2 (by omega) hI2
      obtain ⟨o, ho, eo⟩ := and31 (xs (5 * i))
      rw [eo]
      match o, ho with
      | 0, _ =>
        refine z_tabIn CX 156 dL_law_39 (by decide) (by decide) rfl (by decide) ?_
        exact lc_append CX hN hX hc (by omega) (by omega) (st_append hl9 hI _) TL
      | 1, _ =>
        refine z_tabIn CX 212 dL_law_39 (by decide) (by decide) rfl (by decide) ?_
        exact lc_clearText CX hX hc (by omega) (by omega) (sn_clearText hI) ⟨_, li_x hI⟩ TL
      | 2, _ =>
        refine z_tabIn CX 225 dL_law_39 (by decide) (by decide) rfl (by decide) ?_
        exact lc_errorPosition CX hX hc (by omega) (by omega) (sn_errorPosition hI) ⟨_, li_x hI⟩ TL
      | 3, _ =>
        refine z_tabIn CX 238 dL_law_39 (by decide) (by decide) rfl (by decide) ?_
        exact lc_load CX hN hX hc (by omega) (by omega) (st_load hl9 hI ) TL
      | 4, _ =>
        refine z_tabIn CX 282 dL_law_39 (by decide) (by decide) rfl (by decide) ?_
        exact lc_about CX hN hX hc (by omega) (by omega) (st_about hl9 hI _) TL
      | 5, _ =>
        refine z_tabIn CX 338 dL_law_39 (by decide) (by decide) rfl (by decide) ?_
        exact lc_gutterOf CX hN hX hc (by omega) (by omega) (st_gutterOf hl9 hI _ _) TL
      | 6, _ =>
        refine z_tabIn CX 406 dL_law_39 (by decide) (by decide) rfl (by decide) ?_
        exact lc_boatOf CX hN hX hc (by omega) (by omega) (st_boatOf hl9 hI _ _) TL
      | 7, _ =>
        refine z_tabIn CX 474 dL_law_39 (by decide) (by decide) rfl (by decide) ?_
        exact lc_ownerOf CX hN hX hc (by omega) (by omega) (st_ownerOf hl9 hI _ _) TL
      | 8, _ =>
        refine z_tabIn CX 542 dL_law_39 (by decide) (by decide) rfl (by decide) ?_
        exact lc_way CX hN hX hc (by omega) (by omega) (st_way hl9 hI _ _ _) TL
      | 9, _ =>
        refine z_tabIn CX 622 dL_law_39 (by decide) (by decide) rfl (by decide) ?_
        exact lc_setting CX hN hX hc (by omega) (by omega) (st_setting hl9 hI _) TL
      | 10, _ =>
        refine z_tabIn CX 678 dL_law_39 (by decide) (by decide) rfl (by decide) ?_
        exact lc_gutter CX hN hX hc (by omega) (by omega) (st_gutter hl9 hI _ _ _ _) TL
      | 11, _ =>
        refine z_tabIn CX 770 dL_law_39 (by decide) (by decide) rfl (by decide) ?_
        exact lc_boat CX hN hX hc (by omega) (by omega) (st_boat hl9 hI _ _ _) TL
      | 12, _ =>
        refine z_tabIn CX 850 dL_law_39 (by decide) (by decide) rfl (by decide) ?_
        exact lc_launch CX hN hX hc (by omega) (by omega) (st_launch hl9 hI _ _) TL
      | 13, _ =>
        refine z_tabIn CX 918 dL_law_39 (by decide) (by decide) rfl (by decide) ?_
        exact lc_hook CX hN hX hc (by omega) (by omega) (st_hook hl9 hI _ _ _) TL
      | 14, _ =>
        refine z_tabIn CX 998 dL_law_39 (by decide) (by decide) rfl (by decide) ?_
        exact lc_claim CX hN hX hc (by omega) (by omega) (st_claim hl9 hI _ _) TL
      | 15, _ =>
        refine z_tabIn CX 1066 dL_law_39 (by decide) (by decide) rfl (by decide) ?_
        exact lc_minutes CX hN hX hc (by omega) (by omega) (st_minutes hl9 hI _) TL
      | 16, _ =>
        refine z_tabIn CX 1122 dL_law_39 (by decide) (by decide) rfl (by decide) ?_
        exact lc_set CX hN hX hc (by omega) (by omega) (st_set hl9 hI _ _) TL
      | 17, _ =>
        refine z_tabIn CX 1190 dL_law_39 (by decide) (by decide) rfl (by decide) ?_
        exact lc_undo CX hN hX hc (by omega) (by omega) (st_undo hl9 hI ) TL
      | 18, _ =>
        refine z_tabIn CX 1234 dL_law_39 (by decide) (by decide) rfl (by decide) ?_
        exact lc_why CX hN hX hc (by omega) (by omega) (st_why hl9 hI _ _) TL
      | 19, _ =>
        refine z_tabIn CX 1302 dL_law_39 (by decide) (by decide) rfl (by decide) ?_
        exact lc_endsIn CX hN hX hc (by omega) (by omega) (st_endsIn hl9 hI _ _) TL
      | 20, _ =>
        refine z_tabIn CX 1370 dL_law_39 (by decide) (by decide) rfl (by decide) ?_
        exact lc_winner CX hX hc (by omega) (by omega) (sn_winner hI) ⟨_, li_x hI⟩ TL
      | 21, _ =>
        refine z_tabIn CX 1383 dL_law_39 (by decide) (by decide) rfl (by decide) ?_
        exact lc_leastFolds CX hN hX hc (by omega) (by omega) (st_leastFolds hl9 hI _ _) TL
      | 22, _ =>
        refine z_tabIn CX 1451 dL_law_39 (by decide) (by decide) rfl (by decide) ?_
        exact lc_runScript CX hN hX hc (by omega) (by omega) (fun y => st_runScript hl9 hI _ y) TL
      | 23, _ =>
        refine z_tabIn CX 1551 dL_law_39 (by decide) (by decide) rfl (by decide) ?_
        exact lc_simulate CX hN hX hc (by omega) (by omega) (fun y => st_simulate hl9 hI y _) TL
      | 24, _ =>
        refine z_tabIn CX 1651 dL_law_39 (by decide) (by decide) rfl (by decide) ?_
        exact lc_save CX hN hX hc (by omega) (by omega) (st_save hl9 hI _) TL
      | 25, _ =>
        refine z_tabIn CX 1707 dL_law_39 (by decide) (by decide) rfl (by decide) ?_
        exact lc_restore CX hN hX hc (by omega) (by omega) (st_restore hl9 hI _) TL
      | 26, _ =>
        refine z_tabOut CX 1763 dL_law_39 (by decide) (by decide) ?_
        refine z_widen (k9 := 146 + i + 1) (n9 := 6262 + 6 * i + 6) (by omega) (by omega) ?_
        exact TL hs u A g _ hI ⟨rfl, rfl, rfl, rfl, rfl, trivial⟩
      | 27, _ =>
        refine z_tabOut CX 1763 dL_law_39 (by decide) (by decide) ?_
        refine z_widen (k9 := 146 + i + 1) (n9 := 6262 + 6 * i + 6) (by omega) (by omega) ?_
        exact TL hs u A g _ hI ⟨rfl, rfl, rfl, rfl, rfl, trivial⟩
      | 28, _ =>
        refine z_tabOut CX 1763 dL_law_39 (by decide) (by decide) ?_
        refine z_widen (k9 := 146 + i + 1) (n9 := 6262 + 6 * i + 6) (by omega) (by omega) ?_
        exact TL hs u A g _ hI ⟨rfl, rfl, rfl, rfl, rfl, trivial⟩
      | 29, _ =>
        refine z_tabOut CX 1763 dL_law_39 (by decide) (by decide) ?_
        refine z_widen (k9 := 146 + i + 1) (n9 := 6262 + 6 * i + 6) (by omega) (by omega) ?_
        exact TL hs u A g _ hI ⟨rfl, rfl, rfl, rfl, rfl, trivial⟩
      | 30, _ =>
        refine z_tabOut CX 1763 dL_law_39 (by decide) (by decide) ?_
        refine z_widen (k9 := 146 + i + 1) (n9 := 6262 + 6 * i + 6) (by omega) (by omega) ?_
        exact TL hs u A g _ hI ⟨rfl, rfl, rfl, rfl, rfl, trivial⟩
      | 31, _ =>
        refine z_tabOut CX 1763 dL_law_39 (by decide) (by decide) ?_
        refine z_widen (k9 := 146 + i + 1) (n9 := 6262 + 6 * i + 6) (by omega) (by omega) ?_
        exact TL hs u A g _ hI ⟨rfl, rfl, rfl, rfl, rfl, trivial⟩
      | o + 32, h => omega
    · exact (HD i hs (by omega)).1 (by omega)
theorem md_self {w : Wt} {hs : Hs} {k : Nat} {v : va_E} {u : Nat → Int32} {A : Nat → Nat → Int32} : modH w (upH hs k v) k u A = modH w hs k u A := by
  funext j; unfold modH
  by_cases h : k ≤ j ∧ j < k + 8
  · rw [if_pos h, if_pos h]
  · rw [if_neg h, if_neg h, upH_n (by omega)]
theorem li_0 {w : Wt} {k : Nat} : LI w k (fun _ => 0) (fun _ => 0) (upA (fun _ _ => 0) 0 (frF (fun _ => 0))) (LH w k (fun _ => 0) (fun _ => 0) (upA (fun _ _ => 0) 0 (frF (fun _ => 0))) ((fun _ => 0), (fun _ => 0), (fun _ => 0)) (nT (frF z00) 0 (fun _ _ => 0)) (nT (frF z00) 0 (fun _ _ => 0)) (0, 0, (fun _ => 0), (fun _ => frF z00), (fun _ => 0), (fun _ _ _ => 0)) ((fun _ => 0), (fun _ => frF z00), (fun _ => 0), (fun _ _ _ => 0))) := by
  have e0 : upA (fun _ _ => 0) 0 (frF (fun _ => 0)) 0 = frF z00 := upA_s
  have x0 : frF z00 152 = 0 := frF_0 (by omega) (fun o ho => by omega) (by omega) (by omega)
  have J : INV 0 0 0 (fun _ => 0) (fun _ => frF z00) (fun _ => 0) (fun _ => 0) (fun _ => frF z00) (fun _ => 0) (fun _ => 0) (upA (fun _ _ => 0) 0 (frF (fun _ => 0))) := ⟨rfl, by omega, rfl, by rw [e0]; exact OKr_fr, rfl, by omega, by omega, RG.zero, fun i hi => ⟨(congrFun (upA_n (A := fun _ _ => 0) (i := 0) (f := frF (fun _ => 0)) (show 5 ≠ 0 by decide)) i).symm, fun q => absurd (congrFun (upA_n (A := fun _ _ => 0) (i := 0) (f := frF (fun _ => 0)) (show 5 ≠ 0 by decide)) i) q⟩⟩
  have K := LI.of (w := w) (k := k) (g := fun _ => 0) (d9 := fun _ => 0) (z := fun _ _ => 0) (C := nT (frF z00) 0 (fun _ _ => 0)) (b9 := fun _ => 0) (Z := fun _ _ _ => 0) (Zs := fun _ _ _ => 0) J
  rw [e0, x0] at K
  exact K
set_option maxHeartbeats 4000000 in
set_option maxRecDepth 100000 in
theorem whole_start {p : Program} {e : Env} {s : State} {m : MethodId} {below : List Frame} {meth : Method} {c : Code} (l : Launch) (hflags : l.flags = flags0) {b L : Nat} {xs : Nat → Int32} (hL : L ≤ 2560) (C0 : lw_At p s m meth c b L xs) : W p l e room_1 s m #[Value.ref b] below meth c s.heap [] 0 0 (lw_Z below #[Value.ref b] s) (entryFrame m ([Value.ref b] : List Value).toArray 7) := by
  obtain ⟨hx, hb, hr, hml, hown, hts, hXX, hbl, hlocks, hgv⟩ := C0
  obtain ⟨w, hw, hK, hO⟩ := st_world hts hgv
  have hNX := st_NX hts hgv
  have hl9 : l.stackTraces = false := by unfold Launch.stackTraces; rw [hflags]; decide +kernel
  have hwa : ∀ x ∈ WA, x.before #[Value.ref b] s = true := fun x hx => hts x (List.mem_filter.mp hx).1
  have hSX : SX b L xs w s := ⟨hXX, hbl, hw, hL⟩
  have CX : Ctx p s m #[Value.ref b] meth c room_1 w RL meth.name cL_law 7 (some .boolean) 13 488 601024 7293033 := ⟨hx, hb, hml, hown, hwa, hlocks, hr, ⟨rfl, rfl, rfl, rfl⟩, hK, hO, rfl⟩
  have EN : ∀ (hs : Hs) (n1 n2 : Nat) (lv : List (Nat × Value)), n1 ≤ 601024 → n2 ≤ 7293033 → ZW p l e room_1 s m #[Value.ref b] below meth c w 7 hs none n1 n2 (lw_Z below #[Value.ref b] s) 1770 lv [.int 1] := by
    intro hs n1 n2 lv h1 h2 H locs ls hP hS hl
    exact va_forget (fun q hq => Nat.le_trans (Nat.le_of_eq hw.symm) (hS.2.2 q hq)) (W.widen h1 h2 (lw_ret hx hb hr hlocks dL_law_1770))
  have K : ZW p l e room_1 s m #[Value.ref b] below meth c w 7 (fun _ => none) (some 0) 0 0 (lw_Z below #[Value.ref b] s) 0 [(0, .ref b)] [] := by
    refine z_new CX (k := 0) dL_law_0 fn_L_8 (by omega) (by omega) ?_
    refine z_dup CX dL_law_3 rfl ?_
    refine z_callI CX dL_law_4 ci_L_91 (g_init (k := 0) (upH_s _ _ _)) rfl rfl (Nat.le_of_ble_eq_true rfl) ⟨Nat.le_of_ble_eq_true rfl, Nat.le_of_ble_eq_true rfl⟩ ⟨by omega, by omega⟩ ?_
    refine z_heap (show _ = (GB w (fun _ => none) 0 ((fun _ => 0), (fun _ => 0), (fun _ => 0)) (nT (frF z00) 0 (fun _ _ => 0)) (nT (frF z00) 0 (fun _ _ => 0)) (0, 0, (fun _ => 0), (fun _ => frF z00), (fun _ => 0), (fun _ _ _ => 0)) ((fun _ => 0), (fun _ => frF z00), (fun _ => 0), (fun _ _ _ => 0))) from by unfold GB; rw [upH_up]) ?_
    refine z_astore_n CX 1 dL_law_7 rfl (by decide) ?_
    refine z_new CX (k := 0 + 137) dL_law_8 fn_L_92 (by omega) (by omega) ?_
    refine z_dup CX dL_law_11 rfl ?_
    refine z_callI CX dL_law_12 ci_L_94 (m_init (k := 0 + 137) (upH_s _ _ _)) rfl rfl (Nat.le_of_ble_eq_true rfl) ⟨Nat.le_of_ble_eq_true rfl, Nat.le_of_ble_eq_true rfl⟩ ⟨by omega, by omega⟩ ?_
    refine z_heap (show _ = modH w (GB w (fun _ => none) 0 ((fun _ => 0), (fun _ => 0), (fun _ => 0)) (nT (frF z00) 0 (fun _ _ => 0)) (nT (frF z00) 0 (fun _ _ => 0)) (0, 0, (fun _ => 0), (fun _ => frF z00), (fun _ => 0), (fun _ _ _ => 0)) ((fun _ => 0), (fun _ => frF z00), (fun _ => 0), (fun _ _ _ => 0))) (0 + 137) (fun _ => 0) (upA (fun _ _ => 0) 0 (frF (fun _ => 0))) from md_self) ?_
    refine z_astore_n CX 2 dL_law_15 rfl (by decide) ?_
    refine z_iconst CX (v := 1) dL_law_16 (by decide) ?_
    refine z_newJ CX (k := 0 + 145) (N := 1) dL_law_17 (wa_mem 1177 (by decide +kernel) rfl) (by decide) (by decide) (by omega) (by omega) (by omega) ?_
    refine z_heap (show _ = LH w 0 (fun _ => 0) (fun _ => 0) (upA (fun _ _ => 0) 0 (frF (fun _ => 0))) ((fun _ => 0), (fun _ => 0), (fun _ => 0)) (nT (frF z00) 0 (fun _ _ => 0)) (nT (frF z00) 0 (fun _ _ => 0)) (0, 0, (fun _ => 0), (fun _ => frF z00), (fun _ => 0), (fun _ _ _ => 0)) ((fun _ => 0), (fun _ => frF z00), (fun _ => 0), (fun _ _ _ => 0)) from by unfold LH; rw [gb_M (by omega), gb_U (by omega), sw_UP_MD (by omega)]) ?_
    refine z_astore_n CX 3 dL_law_19 rfl (by decide) ?_
    refine z_iconst CX (v := 0) dL_law_20 (by decide) ?_
    refine z_istore CX dL_law_21 (by decide) ?_
    refine z_none ?_
    refine z_widen (k9 := 146 + 0) (n9 := 6262 + 6 * 0) (by omega) (by omega) ?_
    refine z_loc [(0, .ref b), (1, .ref (wB w + 0)), (2, .ref (wB w + (0 + 137))), (3, .ref (wB w + (0 + 145))), (4, .int (nI (5 * 0)))] ⟨rfl, rfl, rfl, rfl, rfl, trivial⟩ ?_
    exact law_loop (k := 0) CX hNX hSX hl9 EN 513 0 _ _ _ _ (by omega) li_0
  rw [lg_entry_eq]
  exact K s.heap [] _ ⟨fun k h => by cases h; exact hw.symm, fun i e h => (nomatch h)⟩ va_S.rf (lv_entry [.ref b] (Nat.le_of_ble_eq_true rfl))
