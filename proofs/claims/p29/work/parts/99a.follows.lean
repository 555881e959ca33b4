/-! what would be is so when it is done; what is taken back is as it was -/
theorem OKs.tk {M : Nat} {a : Nat × (Nat → Int32)} {f : Nat → Int32} {B : List (Nat → Int32)} {Kk : Nat → Option (Nat → Int32)} (h : OKs M (a, f, B, Kk)) (n : Nat) : OKs M (a, f, B.take n, Kk) := by
  refine ⟨h.1, h.2.1, ?_, fun g hg => h.2.2.2.1 g (List.mem_of_mem_take hg), h.2.2.2.2⟩
  show (B.take n).length ≤ 14
  have := h.2.2.1
  rw [List.length_take]
  exact Nat.le_trans (Nat.min_le_right _ _) this
theorem lc0 {a : Nat} (ha : a < 2 ^ 31) : ¬ lg_cmp (lN a) 0 < 0 := fun z9 => absurd ((lcLt (a := a) (b := 0) ha (by omega)).mp z9) (by omega)
theorem lc1 {a : Nat} (ha : a < 2 ^ 31) (h : 1 ≤ a) : ¬ lg_cmp (lN a) 1 < 0 := fun z9 => absurd ((lcLt (a := a) (b := 1) ha (by omega)).mp z9) (by omega)
theorem eiV_a {s x n : Int32} (h : s = 3) (hx : x = 1) : eiV s x n = n := by unfold eiV; rw [if_pos (by rw [decide_eq_true h, decide_eq_true hx])]
theorem eiV_b {s x n : Int32} (h : s ≠ 3) (hx : x ≠ 1) : eiV s x n = n := by unfold eiV; rw [if_pos (by rw [decide_eq_false h, decide_eq_false hx])]
theorem eiV_c {s x n : Int32} (h : s = 3) (hx : x ≠ 1) : eiV s x n = -1 := by unfold eiV; rw [if_neg (by rw [decide_eq_true h, decide_eq_false hx]; decide)]
theorem eiV_d {s x n : Int32} (h : s ≠ 3) (hx : x = 1) : eiV s x n = -1 := by unfold eiV; rw [if_neg (by rw [decide_eq_false h, decide_eq_true hx]; decide)]
theorem whyF_4 {f : Nat → Int32} {o b : Nat} : ∃ r, r ≤ 3 ∧ whyF f o b = nI r := by
  unfold whyF
  split
  · exact ⟨1, by omega, rfl⟩
  split
  · exact ⟨2, by omega, rfl⟩
  split
  · exact ⟨3, by omega, rfl⟩
  · exact ⟨0, by omega, rfl⟩
section
variable {l : Launch} {w : Wt} {hs0 : Hs} {k M : Nat} {σ : ZS} {H : Hs}
set_option maxHeartbeats 4000000 in
set_option maxRecDepth 100000 in
theorem trial {σ1 : ZS} {H3 : Hs} {g wx F i : Nat} (hI3 : IS w hs0 k σ1 H3) (hσ1 : OKs M σ1) (hb9 : bN (zsF σ1) < 10) (hg : g < gN (zsF σ1)) (hwx : wx < 4) (hF : 1 ≤ F ∧ F ≤ 9) (hi : i ≤ 1) : ∃ (H4 H5 H6 H7 H8 : Hs) (B3 : List (Nat → Int32)) (m1 m2 : Nat), m1 < 100 ∧ m2 < 100 ∧ OKs M ((σ1.1, zsF σ1, B3, zsK σ1) : ZS) ∧ IS w hs0 k ((σ1.1, zsF σ1, B3, zsK σ1) : ZS) H8 ∧
    Cw l w mL_boat [(0, 8, 9, 34), (0, 8, 15, 15), (0, 8, 21, 19)] 1 6 [.ref (wB w + k), .int (nI F), .int (nI wx), .int 0] H3 none H4 none (some (.long (lN (bN (zsF σ1))))) ∧ Cw l w mL_launch [(0, 7, 8, 34), (0, 7, 13, 19)] 1 6 [.ref (wB w + k), .int (nI (bN (zsF σ1))), .int (nI g)] H4 none H5 none (some (.long (lN (wayN (zsF σ1) g 0)))) ∧ Cw l w mL_way [(0, 8, 9, 34), (0, 8, 15, 15)] 0 0 [.ref (wB w + k), .int (nI g), .int 0, .int 0] H5 none H5 none (some (.long (lN (wayN (zsF σ1) g 0)))) ∧
    Cw l w mL_endsIn [(0, 7, 8, 34), (0, 7, 13, 15), (0, 7, 18, 19)] 1 6 [.ref (wB w + k), .int (nI (bN (zsF σ1))), .int (nI i)] H5 none H6 none (some (.long (eiV ((lfT (zsF σ1) g (nI wx) F).2 (24 + 10 * bN (zsF σ1) + 3)) (nI i) (nI (lfT (zsF σ1) g (nI wx) F).1)).toInt64)) ∧
    Cw l w mL_undo [(0, 5, 6, 19)] 1 6 [.ref (wB w + k)] H6 none H7 none (some (.long (lN m1))) ∧ Cw l w mL_undo [(0, 5, 6, 19)] 1 6 [.ref (wB w + k)] H7 none H8 none (some (.long (lN m2))) ∧
    ∃ x, x + 1 = (lfT (zsF σ1) g (nI wx) F).1 ∧ x + 1 ≤ 94 := by
  have hO := hσ1.2.1
  have hR := hO.1.1
  have hGG := hR.1
  have h6 : gN (zsF σ1) ≤ 6 := hGG.2.1
  have hfB : fltB (zsF σ1) (nI F) (nI wx) 0 = 0 := fltB_i.mpr ⟨by decide, ⟨⟨nI_le (a := 1) hF.1 (by omega), nI_le (b := 9) hF.2 (by omega)⟩, ⟨nI_pos' (by omega), nI_le (b := 3) (by omega) (by omega)⟩⟩, hb9⟩
  obtain ⟨H4, hI4, hC4⟩ := s_boat (l := l) hI3 hσ1 hfB
  rw [nI_l (by omega)] at hC4
  obtain ⟨hKa, hBa, hGa⟩ := adb_K hO hfB
  have hσ4 := hσ1.act (Nat.le_refl M) hKa
  have hst : adbF (zsF σ1) (bN (zsF σ1)) (nI F) (nI wx) 0 (24 + 10 * bN (zsF σ1) + 3) = 0 := adbF_c (by omega) (by omega) (by omega)
  have hnb : bN (zsF σ1) < bN (adbF (zsF σ1) (bN (zsF σ1)) (nI F) (nI wx) 0) := by rw [hBa]; omega
  have hng : g < gN (adbF (zsF σ1) (bN (zsF σ1)) (nI F) (nI wx) 0) := by rw [hGa]; exact hg
  obtain ⟨H5, hI5, hC5⟩ := s_launch (l := l) (j := bN (zsF σ1)) (i := g) hI4 hσ4 hnb hng hst
  obtain ⟨hKb, hBb, hGb⟩ := ln_K hKa hnb hng hst
  have hσ5 := hσ4.act (Nat.le_add_right M 60) hKb
  have hw := way_e hGG hg (Nat.zero_le _)
  have ea : ∀ j, j < 24 → adbF (zsF σ1) (bN (zsF σ1)) (nI F) (nI wx) 0 j = zsF σ1 j := fun j hj => adbF_n (by omega) (by omega)
  have eb : ∀ j, j < 24 → lnF (adbF (zsF σ1) (bN (zsF σ1)) (nI F) (nI wx) 0) (bN (adbF (zsF σ1) (bN (zsF σ1)) (nI F) (nI wx) 0)) (bN (zsF σ1)) (nI g) j = zsF σ1 j := fun j hj => (lnF_n (by omega) (by omega) (by omega) (by omega)).trans (ea j hj)
  have w1 := drn_c hGG ea 6 g 0 0 hg
  rw [nI_clamp (show g < 2 ^ 31 by omega)] at w1
  have w2 := drn_c hGG eb 6 g 0 0 hg
  rw [nI_clamp (show g < 2 ^ 31 by omega)] at w2
  have hw0 : drn (zsF σ1) 6 0 g 0 = nI (wayN (zsF σ1) g 0) := hw.1
  rw [show drn (zsF (actS σ1 (adbF (zsF σ1) (bN (zsF σ1)) (nI F) (nI wx) 0))) 6 0 g 0 = nI (wayN (zsF σ1) g 0) from w1.trans hw0, nI_l (by omega)] at hC5
  have hL := gLN_e hGG hg
  have q := q_way (l := l) (a := nI g) (b := 0) (y := 0) hI5 hσ5 (by
    refine (icl_at (i := g) (L := gLN (zsF σ1) g) ?_ (by show gN _ < 1000; rw [hGb, hGa]; omega) ?_).trans (decide_eq_true ⟨by decide, nI_lt (a := 0) (by omega) (by omega)⟩)
    · show g < gN _; rw [hGb, hGa]; exact hg
    · exact (eb _ (by omega)).trans hL.1) (by decide)
  rw [show drn (zsF (actS (actS σ1 (adbF (zsF σ1) (bN (zsF σ1)) (nI F) (nI wx) 0)) (lnF (adbF (zsF σ1) (bN (zsF σ1)) (nI F) (nI wx) 0) (bN (adbF (zsF σ1) (bN (zsF σ1)) (nI F) (nI wx) 0)) (bN (zsF σ1)) (nI g)))) 6 0 (nI g).toNatClampNeg 0 = nI (wayN (zsF σ1) g 0) from (by rw [nI_clamp (show g < 2 ^ 31 by omega)]; exact w2.trans hw0), nI_l (by omega)] at q
  have hs1 : lnF (adbF (zsF σ1) (bN (zsF σ1)) (nI F) (nI wx) 0) (bN (adbF (zsF σ1) (bN (zsF σ1)) (nI F) (nI wx) 0)) (bN (zsF σ1)) (nI g) (24 + 10 * bN (zsF σ1) + 3) = 1 := by
    unfold lnF; rw [pk_un (by omega), pk_un (by omega), pk_un (by omega), pk_us]
  obtain ⟨H6, hI6, hC6⟩ := s_endsIn (l := l) (j := bN (zsF σ1)) (i := i) hI5 hσ5 (by show bN (zsF σ1) < bN _; rw [hBb]; exact hnb) hi hs1
  have eg : gtl (bN (lnF (adbF (zsF σ1) (bN (zsF σ1)) (nI F) (nI wx) 0) (bN (adbF (zsF σ1) (bN (zsF σ1)) (nI F) (nI wx) 0)) (bN (zsF σ1)) (nI g))) (bN (zsF σ1)) 94 (lnF (adbF (zsF σ1) (bN (zsF σ1)) (nI F) (nI wx) 0) (bN (adbF (zsF σ1) (bN (zsF σ1)) (nI F) (nI wx) 0)) (bN (zsF σ1)) (nI g)) = lfT (zsF σ1) g (nI wx) F := by
    rw [hBb, hBa]; rfl
  have hv := voyage (b := bN (zsF σ1)) hKb.1.1 (by rw [hBb]; exact hnb) hs1
  rw [eg] at hv
  obtain ⟨x, x1, x2, -⟩ := hv
  rw [show gtl (bN (zsF (actS (actS σ1 (adbF (zsF σ1) (bN (zsF σ1)) (nI F) (nI wx) 0)) (lnF (adbF (zsF σ1) (bN (zsF σ1)) (nI F) (nI wx) 0) (bN (adbF (zsF σ1) (bN (zsF σ1)) (nI F) (nI wx) 0)) (bN (zsF σ1)) (nI g))))) (bN (zsF σ1)) 94 (zsF (actS (actS σ1 (adbF (zsF σ1) (bN (zsF σ1)) (nI F) (nI wx) 0)) (lnF (adbF (zsF σ1) (bN (zsF σ1)) (nI F) (nI wx) 0) (bN (adbF (zsF σ1) (bN (zsF σ1)) (nI F) (nI wx) 0)) (bN (zsF σ1)) (nI g)))) = lfT (zsF σ1) g (nI wx) F from eg] at hC6
  obtain ⟨H7, hI7, hC7⟩ := s_undo (l := l) hI6 hσ5 (f0 := adbF (zsF σ1) (bN (zsF σ1)) (nI F) (nI wx) 0) (B := (remL (zsF σ1) (zsB σ1)).take 13) rfl
  have hσ7 : OKs M ((σ1.1, adbF (zsF σ1) (bN (zsF σ1)) (nI F) (nI wx) 0, (remL (zsF σ1) (zsB σ1)).take 13, zsK σ1) : ZS) := hσ4.tk 13
  obtain ⟨H8, hI8, hC8⟩ := s_undo (l := l) hI7 hσ7 (f0 := zsF σ1) (B := ((zsB σ1).take 13).take 12) rfl
  have hσ8 : OKs M ((σ1.1, zsF σ1, ((zsB σ1).take 13).take 12, zsK σ1) : ZS) := OKs.tk (OKs.tk hσ1 13) 12
  have n1 : ((remL (zsF σ1) (zsB σ1)).take 13).length < 100 := Nat.lt_of_le_of_lt hσ7.2.2.1 (by omega)
  have n2 : (((zsB σ1).take 13).take 12).length < 100 := Nat.lt_of_le_of_lt hσ8.2.2.1 (by omega)
  rw [nI_l (by omega)] at hC7 hC8
  exact ⟨H4, H5, H6, H7, H8, _, _, _, n1, n2, hσ8, hI8, hC4, hC5, q, hC6, hC7, hC8, x, x1, x2⟩
set_option maxHeartbeats 4000000 in
set_option maxRecDepth 100000 in
theorem claimU {σ1 : ZS} {H3 : Hs} {o b9 : Nat} (hI3 : IS w hs0 k σ1 H3) (hσ1 : OKs M σ1) (ho : o < 4) (hb : b9 < bN (zsF σ1)) : ∃ (H4 H5 : Hs) (B3 : List (Nat → Int32)) (m1 : Nat), m1 < 100 ∧ OKs M ((σ1.1, zsF σ1, B3, zsK σ1) : ZS) ∧ IS w hs0 k ((σ1.1, zsF σ1, B3, zsK σ1) : ZS) H5 ∧
    Cw l w mL_claim [(0, 7, 8, 34)] 1 6 [.ref (wB w + k), .int (nI o), .int (nI b9)] H3 none H4 none (some (.long (whyF (zsF σ1) o b9).toInt64)) ∧ (whyF (zsF σ1) o b9 = 0 → Cw l w mL_boatOf [(0, 7, 8, 34), (0, 7, 13, 15)] 0 0 [.ref (wB w + k), .int (nI b9), .int (nI 3)] H4 none H4 none (some (.long (lN 4)))) ∧ Cw l w mL_undo [(0, 5, 6, 19)] 1 6 [.ref (wB w + k)] H4 none H5 none (some (.long (lN m1))) := by
  have hO := hσ1.2.1
  have h9 : bN (zsF σ1) ≤ 10 := hO.1.2.2
  obtain ⟨H4, hI4, hC4⟩ := s_claim (l := l) hI3 hσ1 ho hb
  obtain ⟨hKa, hBa⟩ := clm_K2 hO ho hb
  have hσ4 := hσ1.act (Nat.le_add_right M 60) hKa
  obtain ⟨H5, hI5, hC5⟩ := s_undo (l := l) hI4 hσ4 (f0 := zsF σ1) (B := (zsB σ1).take 13) rfl
  have hσ5 : OKs M ((σ1.1, zsF σ1, (zsB σ1).take 13, zsK σ1) : ZS) := OKs.tk hσ1 13
  have n1 : ((zsB σ1).take 13).length < 100 := Nat.lt_of_le_of_lt hσ5.2.2.1 (by omega)
  rw [nI_l (by omega)] at hC5
  refine ⟨H4, H5, _, _, n1, hσ5, hI5, hC4, fun h0 => ?_, hC5⟩
  have q := q_boatOf (l := l) (j := b9) (i := 3) hI4 hσ4 (by show b9 < bN (clmF (zsF σ1) o b9); rw [hBa]; exact hb) (by omega)
  rw [l2l (show boV (zsF (actS σ1 (clmF (zsF σ1) o b9))) b9 3 = nI 4 from (by
    show clmF (zsF σ1) o b9 (24 + 10 * b9 + 3) = nI 4
    rw [clmF_3 (by omega), if_pos h0]; rfl)) (by omega)] at q
  exact q
set_option maxHeartbeats 4000000 in
set_option maxRecDepth 100000 in
theorem minU {σ1 : ZS} {H3 : Hs} {n9 b9 : Nat} (hI3 : IS w hs0 k σ1 H3) (hσ1 : OKs M σ1) (hn9 : 1 ≤ n9 ∧ n9 ≤ 60) (hb : b9 < bN (zsF σ1)) : ∃ (H4 H5 : Hs) (B3 : List (Nat → Int32)) (m1 m2 : Nat), m1 < 100 ∧ m2 < 1000 ∧ OKs M ((σ1.1, zsF σ1, B3, zsK σ1) : ZS) ∧ IS w hs0 k ((σ1.1, zsF σ1, B3, zsK σ1) : ZS) H5 ∧
    Cw l w mL_minutes [(0, 6, 7, 15)] 1 6 [.ref (wB w + k), .int (nI n9)] H3 none H4 none (some (.long (lN m2))) ∧ Cw l w mL_boatOf [(0, 7, 8, 34), (0, 7, 13, 15)] 0 0 [.ref (wB w + k), .int (nI b9), .int (nI 3)] H4 none H4 none (some (.long ((gms (bN (zsF σ1)) n9 (zsF σ1)).2 (24 + 10 * b9 + 3)).toInt64)) ∧ Cw l w mL_undo [(0, 5, 6, 19)] 1 6 [.ref (wB w + k)] H4 none H5 none (some (.long (lN m1))) := by
  have hO := hσ1.2.1
  have h9 : bN (zsF σ1) ≤ 10 := hO.1.2.2
  obtain ⟨H4, hI4, hC4⟩ := s_minutes (l := l) hI3 hσ1 hn9
  obtain ⟨hKa, hBa⟩ := gms_K hO hn9
  have hσ4 := hσ1.act (Nat.le_add_right M 60) hKa
  obtain ⟨H5, hI5, hC5⟩ := s_undo (l := l) hI4 hσ4 (f0 := zsF σ1) (B := (zsB σ1).take 13) rfl
  have hσ5 : OKs M ((σ1.1, zsF σ1, (zsB σ1).take 13, zsK σ1) : ZS) := OKs.tk hσ1 13
  have n1 : ((zsB σ1).take 13).length < 100 := Nat.lt_of_le_of_lt hσ5.2.2.1 (by omega)
  have n2 := gms_le (nb := bN (zsF σ1)) n9 (zsF σ1)
  have n3 : n9 * bN (zsF σ1) ≤ 60 * 10 := Nat.mul_le_mul hn9.2 h9
  rw [nI_l (by omega)] at hC5
  rw [nI_l (by omega)] at hC4
  have q := q_boatOf (l := l) (j := b9) (i := 3) hI4 hσ4 (by show b9 < bN (gms (bN (zsF σ1)) n9 (zsF σ1)).2; rw [hBa]; exact hb) (by omega)
  exact ⟨H4, H5, _, _, _, n1, by omega, hσ5, hI5, hC4, q, hC5⟩
set_option maxHeartbeats 4000000 in
set_option maxRecDepth 100000 in
theorem c_follows {x9 : Nat} (hI : IS w hs0 k σ H) (hσ : OKs M σ) (hM : M ≤ 20000) (hx9 : x9 < 2 ^ 31) (hl9 : l.stackTraces = false) : Cp l w mL_follows 40 240 [.ref (wB w + k), .int (nI x9)] H (fun h v => IS w hs0 k (σ.1, zsF σ, [], (fun q => if q = 1 then some (zsF σ) else zsK σ q)) h ∧ v = .int 1) := by
  refine Cp.of (d := mL_follows) (by decide +kernel) (Nat.le_of_ble_eq_true rfl) ?_
  intro p e R s m args below meth c CX hN
  replace CX : Ctx p s m args meth c R w RL "follows" cL_follows 14 (some .boolean) 10 193 40 240 := CX
  show ZW p l e R s m args below meth c w 14 H none 0 0 (MQ below (QP w (fun h v => IS w hs0 k (σ.1, zsF σ, [], (fun q => if q = 1 then some (zsF σ) else zsK σ q)) h ∧ v = .int 1)) args s 40 240 (wA w)) 0 [(0, .ref (wB w + k)), (1, .int (nI x9))] []
  have hO2 := hσ.2.1
  have hR : RI (zsF σ) (gN (zsF σ)) (bN (zsF σ)) := hσ.2.1.1.1
  have hGG := hR.1
  have e146 : zsF σ 146 = nI (gN (zsF σ)) := hR.1.1
  have e147 : zsF σ 147 = nI (bN (zsF σ)) := hR.2.1
  have h6 : gN (zsF σ) ≤ 6 := hR.1.2.1
  have h9 : bN (zsF σ) ≤ 10 := hσ.2.1.1.2.2
  have K610 : ∀ B1 H1, OKs M ((σ.1, zsF σ, B1, (fun q => if q = 1 then some (zsF σ) else zsK σ q)) : ZS) → IS w hs0 k ((σ.1, zsF σ, B1, (fun q => if q = 1 then some (zsF σ) else zsK σ q)) : ZS) H1 → ZW p l e R s m args below meth c w 14 H1 none 34 204 (MQ below (QP w (fun h v => IS w hs0 k (σ.1, zsF σ, [], (fun q => if q = 1 then some (zsF σ) else zsK σ q)) h ∧ v = .int 1)) args s 40 240 (wA w)) 610 [(0, .ref (wB w + k)), (2, .long (nowF (zsF σ))), (4, .int 1)] [] := by
    intro B1 H1 hσ1 hI1
    obtain ⟨H2, hI2, hC2⟩ := s_restore (l := l) (i := 1) hI1 hσ1 (by omega) (f0 := zsF σ) rfl
    have hσ2 : OKs M ((σ.1, zsF σ, [], (fun q => if q = 1 then some (zsF σ) else zsK σ q)) : ZS) := hσ1.tk 0
    obtain ⟨m9, k9, dr, wn, pt, ⟨a1, a2⟩, -⟩ := hσ.2.1.2
    rw [l2l (show zsF σ 148 = nI m9 from a1) (by omega)] at hC2
    refine z_iload CX dL_follows_610 rfl ?_
    refine z_if_eq CX 658 dL_follows_612 (by decide) (fun q9 => absurd q9 (by decide)) (fun _ => ?_)
    refine z_aload_n CX 0 dL_follows_615 rfl rfl ?_
    refine z_callSp CX hN dL_follows_616 cs_L_119 (c_now hI1 hσ1) rfl rfl (Nat.le_of_ble_eq_true rfl) ⟨Nat.le_of_ble_eq_true rfl, Nat.le_of_ble_eq_true rfl⟩ ⟨by omega, by omega⟩ ?_
    intro H7 v7 hv7
    obtain ⟨rfl, rfl⟩ := hv7
    refine z_lload_n CX 2 dL_follows_619 rfl rfl ?_
    refine z_lcmp CX dL_follows_620 ?_
    refine z_if_ne CX 658 dL_follows_621 (by decide) (fun q9 => absurd q9 (fun z9 => z9 ((lg_cmp_eq _ _).mpr rfl))) (fun _ => ?_)
    refine z_aload_n CX 0 dL_follows_624 rfl rfl ?_
    refine z_iconst CX (v := 1) dL_follows_625 (by decide) ?_
    refine z_callSw CX hN dL_follows_626 csw_158 hC2 rfl rfl (Nat.le_of_ble_eq_true rfl) ⟨Nat.le_of_ble_eq_true rfl, Nat.le_of_ble_eq_true rfl⟩ ⟨by omega, by omega⟩ ?_
    refine z_lconst CX (v := 0) dL_follows_629 (by decide) ?_
    refine z_lcmp CX dL_follows_630 ?_
    refine z_if_lt CX 658 dL_follows_631 (by decide) (fun q9 => absurd q9 (lc0 (by omega))) (fun _ => ?_)
    refine z_aload_n CX 0 dL_follows_634 rfl rfl ?_
    refine z_callSp CX hN dL_follows_635 cs_L_119 (c_now hI2 hσ2) rfl rfl (Nat.le_of_ble_eq_true rfl) ⟨Nat.le_of_ble_eq_true rfl, Nat.le_of_ble_eq_true rfl⟩ ⟨by omega, by omega⟩ ?_
    intro H7 v7 hv7
    obtain ⟨rfl, rfl⟩ := hv7
    refine z_lload_n CX 2 dL_follows_638 rfl rfl ?_
    refine z_lcmp CX dL_follows_639 ?_
    refine z_if_ne CX 658 dL_follows_640 (by decide) (fun q9 => absurd q9 (fun z9 => z9 ((lg_cmp_eq _ _).mpr rfl))) (fun _ => ?_)
    refine z_aload_n CX 0 dL_follows_643 rfl rfl ?_
    refine z_callSw CX hN dL_follows_644 csw_174 (e_undo hI2 hσ2 rfl hl9) rfl rfl (Nat.le_of_ble_eq_true rfl) ⟨Nat.le_of_ble_eq_true rfl, Nat.le_of_ble_eq_true rfl⟩ ⟨by omega, by omega⟩ ?_
    refine z_ldc2 CX (v := -9000000000000000003) dL_follows_647 (wa_mem 487 (by decide +kernel) rfl) ?_
    refine z_lcmp CX dL_follows_650 ?_
    refine z_if_ne CX 658 dL_follows_651 (by decide) (fun q9 => absurd q9 (fun z9 => z9 ((lg_cmp_eq _ _).mpr rfl))) (fun _ => ?_)
    refine z_iconst CX (v := 1) dL_follows_654 (by decide) ?_
    refine z_goto CX 659 dL_follows_655 (by decide) ?_
    exact z_zretP CX dL_follows_659 rfl rfl ⟨hI2, rfl⟩ (by omega) (by omega)
  have K373 : ∀ B1 H1, OKs M ((σ.1, zsF σ, B1, (fun q => if q = 1 then some (zsF σ) else zsK σ q)) : ZS) → IS w hs0 k ((σ.1, zsF σ, B1, (fun q => if q = 1 then some (zsF σ) else zsK σ q)) : ZS) H1 → ZW p l e R s m args below meth c w 14 H1 none 15 90 (MQ below (QP w (fun h v => IS w hs0 k (σ.1, zsF σ, [], (fun q => if q = 1 then some (zsF σ) else zsK σ q)) h ∧ v = .int 1)) args s 40 240 (wA w)) 373 [(0, .ref (wB w + k)), (1, .int (nI x9)), (2, .long (nowF (zsF σ))), (4, .int 1)] [] := by
    intro B1 H1 hσ1 hI1
    have qa0 := q_about (l := l) (i := 0) hI1 hσ1 (by omega)
    rw [l2l (show abV (zsF σ) 0 = nI (gN (zsF σ)) from e146) (by omega)] at qa0
    have qa1 := q_about (l := l) (i := 1) hI1 hσ1 (by omega)
    rw [l2l (show abV (zsF σ) 1 = nI (bN (zsF σ)) from e147) (by omega)] at qa1
    by_cases hg0 : 0 < gN (zsF σ)
    · by_cases hb9 : bN (zsF σ) < 10
      · skip
        have hgm : x9 / 3 % gN (zsF σ) < gN (zsF σ) := Nat.mod_lt _ hg0
        have eg : nI x9 / 3 - nI x9 / 3 / nI (gN (zsF σ)) * nI (gN (zsF σ)) = nI (x9 / 3 % gN (zsF σ)) := by
          rw [show nI x9 / 3 = nI (x9 / 3) from pk_div (d := 3) (by omega) (by omega) (by omega)]
          exact pk_rem (by omega) (by omega) (by omega)
        have ew : nI x9 / 5 - nI x9 / 5 / 4 * 4 = nI (x9 / 5 % 4) := by
          rw [show nI x9 / 5 = nI (x9 / 5) from pk_div (d := 5) (by omega) (by omega) (by omega)]
          exact pk_rem (d := 4) (by omega) (by omega) (by omega)
        have hw4 : x9 / 5 % 4 < 4 := Nat.mod_lt _ (by omega)
        generalize x9 / 3 % gN (zsF σ) = g at hgm eg
        generalize x9 / 5 % 4 = wx at hw4 ew
        have hwx : 0 ≤ nI wx ∧ nI wx ≤ 3 := ⟨nI_pos' (by omega), nI_le (b := 3) (by omega) (by omega)⟩
        obtain ⟨H2, hI2, hC2⟩ := s_leastFolds (l := l) hI1 hσ1 (j9 := g) (y := nI wx) hgm hwx
        have qb0 := q_about (l := l) (i := 0) hI2 hσ1 (by omega)
        have qb1 := q_about (l := l) (i := 1) hI2 hσ1 (by omega)
        rw [l2l (show abV (zsF σ) 1 = nI (bN (zsF σ)) from e147) (by omega)] at qb1
        have qw : ∀ {σ9 : ZS}, True := fun {_} => trivial
        have hF9 := lfR_f (f := zsF σ) (g := g) (x := nI wx) 9 1 (zsF σ)
        rcases hF9 with hF | ⟨F, f1, f2, hF, hs3, hq3⟩
        · rw [l2m hF] at hC2
          refine z_aload_n CX 0 dL_follows_373 rfl rfl ?_
          refine z_iconst CX (v := 0) dL_follows_374 (by decide) ?_
          refine z_callSw CX hN dL_follows_375 csw_103 qa0 rfl rfl (Nat.le_of_ble_eq_true rfl) ⟨Nat.le_of_ble_eq_true rfl, Nat.le_of_ble_eq_true rfl⟩ ⟨by omega, by omega⟩ ?_
          refine z_lconst CX (v := 0) dL_follows_378 (by decide) ?_
          refine z_lcmp CX dL_follows_379 ?_
          refine z_if_le CX 610 dL_follows_380 (by decide) (fun q9 => absurd q9 (fun z9 => absurd ((lg_cmp_le _ _).mp z9) (by rw [show (0 : Int64) = lN 0 from rfl, lN_le (by omega) (by omega)]; omega))) (fun _ => ?_)
          refine z_aload_n CX 0 dL_follows_383 rfl rfl ?_
          refine z_iconst CX (v := 1) dL_follows_384 (by decide) ?_
          refine z_callSw CX hN dL_follows_385 csw_103 qa1 rfl rfl (Nat.le_of_ble_eq_true rfl) ⟨Nat.le_of_ble_eq_true rfl, Nat.le_of_ble_eq_true rfl⟩ ⟨by omega, by omega⟩ ?_
          refine z_ldc2 CX (v := 10) dL_follows_388 (wa_mem 796 (by decide +kernel) rfl) ?_
          refine z_lcmp CX dL_follows_391 ?_
          refine z_if_ge CX 610 dL_follows_392 (by decide) (fun q9 => absurd q9 (fun z9 => absurd ((lcGe (b := 10) (by omega) (by omega)).mp z9) (by omega))) (fun _ => ?_)
          refine z_iload CX dL_follows_395 rfl ?_
          refine z_if_eq CX 610 dL_follows_397 (by decide) (fun q9 => absurd q9 (by decide)) (fun _ => ?_)
          refine z_iload_n CX 1 dL_follows_400 rfl rfl ?_
          refine z_iconst CX (v := 3) dL_follows_401 (by decide) ?_
          refine z_idiv CX dL_follows_402 (by decide) ?_
          refine z_aload_n CX 0 dL_follows_403 rfl rfl ?_
          refine z_iconst CX (v := 0) dL_follows_404 (by decide) ?_
          refine z_callSw CX hN dL_follows_405 csw_103 qa0 rfl rfl (Nat.le_of_ble_eq_true rfl) ⟨Nat.le_of_ble_eq_true rfl, Nat.le_of_ble_eq_true rfl⟩ ⟨by omega, by omega⟩ ?_
          refine z_l2i CX dL_follows_408 (lN_32) ?_
          refine z_irem CX dL_follows_409 (nI_ne0 (by omega) (by omega)) ?_
          refine z_stk (congrArg (fun q9 => [Value.int q9]) eg) ?_
          refine z_istore CX dL_follows_410 (by decide) ?_
          refine z_iload_n CX 1 dL_follows_412 rfl rfl ?_
          refine z_iconst CX (v := 5) dL_follows_413 (by decide) ?_
          refine z_idiv CX dL_follows_414 (by decide) ?_
          refine z_iconst CX (v := 4) dL_follows_415 (by decide) ?_
          refine z_irem CX dL_follows_416 (by decide) ?_
          refine z_stk (congrArg (fun q9 => [Value.int q9]) ew) ?_
          refine z_istore CX dL_follows_417 (by decide) ?_
          refine z_aload_n CX 0 dL_follows_419 rfl rfl ?_
          refine z_iload CX dL_follows_420 rfl ?_
          refine z_iload CX dL_follows_422 rfl ?_
          refine z_callSw CX hN dL_follows_424 csw_145 hC2 rfl rfl (Nat.le_of_ble_eq_true rfl) ⟨Nat.le_of_ble_eq_true rfl, Nat.le_of_ble_eq_true rfl⟩ ⟨by omega, by omega⟩ ?_
          refine z_lstore CX dL_follows_427 (by decide) ?_
          refine z_aload_n CX 0 dL_follows_429 rfl rfl ?_
          refine z_iconst CX (v := 1) dL_follows_430 (by decide) ?_
          refine z_callSw CX hN dL_follows_431 csw_103 qb1 rfl rfl (Nat.le_of_ble_eq_true rfl) ⟨Nat.le_of_ble_eq_true rfl, Nat.le_of_ble_eq_true rfl⟩ ⟨by omega, by omega⟩ ?_
          refine z_l2i CX dL_follows_434 (lN_32) ?_
          refine z_istore CX dL_follows_435 (by decide) ?_
          refine z_lload CX dL_follows_437 rfl ?_
          refine z_ldc2 CX (v := -1) dL_follows_439 (wa_mem 774 (by decide +kernel) rfl) ?_
          refine z_lcmp CX dL_follows_442 ?_
          refine z_if_eq CX 513 dL_follows_443 (by decide) (fun _ => ?_) (fun q9 => absurd ((lg_cmp_eq _ _).mpr rfl) q9)
          refine z_iconst CX (v := 1) dL_follows_513 (by decide) ?_
          refine z_goto CX 518 dL_follows_514 (by decide) ?_
          refine z_istore CX dL_follows_518 (by decide) ?_
          refine z_iload CX dL_follows_520 rfl ?_
          refine z_if_eq CX 607 dL_follows_522 (by decide) (fun q9 => absurd q9 (by decide)) (fun _ => ?_)
          refine z_lload CX dL_follows_525 rfl ?_
          refine z_ldc2 CX (v := -1) dL_follows_527 (wa_mem 774 (by decide +kernel) rfl) ?_
          refine z_lcmp CX dL_follows_530 ?_
          refine z_if_eq CX 603 dL_follows_531 (by decide) (fun _ => ?_) (fun q9 => absurd ((lg_cmp_eq _ _).mpr rfl) q9)
          refine z_iconst CX (v := 1) dL_follows_603 (by decide) ?_
          refine z_goto CX 608 dL_follows_604 (by decide) ?_
          refine z_istore CX dL_follows_608 (by decide) ?_
          refine z_widen (k9 := 34) (n9 := 204) (by omega) (by omega) ?_
          refine z_loc [(0, .ref (wB w + k)), (2, .long (nowF (zsF σ))), (4, .int 1)] ⟨rfl, rfl, rfl, trivial⟩ ?_
          exact (K610 _ _ hσ1 hI2)
        · rw [l2l hF (by omega)] at hC2
          obtain ⟨H4, H5, H6, H7, H8, B3, m1, m2, n1, n2, hσ8, hI8, hC4, hC5, hCw, hC6, hC7, hC8, x8, x1, x2⟩ := trial (l := l) (i := 0) hI2 hσ1 hb9 hgm hw4 (show 1 ≤ F ∧ F ≤ 9 by omega) (by omega)
          rw [eiV_b hs3 (by decide), ← x1, nI_l (by omega)] at hC6
          have hway : wayN (zsF σ) g 0 ≤ 280 := (way_e hGG hgm (Nat.zero_le _)).2
          have hwp : 1 ≤ wayN (zsF σ) g 0 := by
            have := way_1 (f := zsF σ) (g := g) (c := 0) (by have := (gLN_e hGG hgm).2.1; omega)
            omega
          by_cases hF1 : F = 1
          · subst hF1
            refine z_aload_n CX 0 dL_follows_373 rfl rfl ?_
            refine z_iconst CX (v := 0) dL_follows_374 (by decide) ?_
            refine z_callSw CX hN dL_follows_375 csw_103 qa0 rfl rfl (Nat.le_of_ble_eq_true rfl) ⟨Nat.le_of_ble_eq_true rfl, Nat.le_of_ble_eq_true rfl⟩ ⟨by omega, by omega⟩ ?_
            refine z_lconst CX (v := 0) dL_follows_378 (by decide) ?_
            refine z_lcmp CX dL_follows_379 ?_
            refine z_if_le CX 610 dL_follows_380 (by decide) (fun q9 => absurd q9 (fun z9 => absurd ((lg_cmp_le _ _).mp z9) (by rw [show (0 : Int64) = lN 0 from rfl, lN_le (by omega) (by omega)]; omega))) (fun _ => ?_)
            refine z_aload_n CX 0 dL_follows_383 rfl rfl ?_
            refine z_iconst CX (v := 1) dL_follows_384 (by decide) ?_
            refine z_callSw CX hN dL_follows_385 csw_103 qa1 rfl rfl (Nat.le_of_ble_eq_true rfl) ⟨Nat.le_of_ble_eq_true rfl, Nat.le_of_ble_eq_true rfl⟩ ⟨by omega, by omega⟩ ?_
            refine z_ldc2 CX (v := 10) dL_follows_388 (wa_mem 796 (by decide +kernel) rfl) ?_
            refine z_lcmp CX dL_follows_391 ?_
            refine z_if_ge CX 610 dL_follows_392 (by decide) (fun q9 => absurd q9 (fun z9 => absurd ((lcGe (b := 10) (by omega) (by omega)).mp z9) (by omega))) (fun _ => ?_)
            refine z_iload CX dL_follows_395 rfl ?_
            refine z_if_eq CX 610 dL_follows_397 (by decide) (fun q9 => absurd q9 (by decide)) (fun _ => ?_)
            refine z_iload_n CX 1 dL_follows_400 rfl rfl ?_
            refine z_iconst CX (v := 3) dL_follows_401 (by decide) ?_
            refine z_idiv CX dL_follows_402 (by decide) ?_
            refine z_aload_n CX 0 dL_follows_403 rfl rfl ?_
            refine z_iconst CX (v := 0) dL_follows_404 (by decide) ?_
            refine z_callSw CX hN dL_follows_405 csw_103 qa0 rfl rfl (Nat.le_of_ble_eq_true rfl) ⟨Nat.le_of_ble_eq_true rfl, Nat.le_of_ble_eq_true rfl⟩ ⟨by omega, by omega⟩ ?_
            refine z_l2i CX dL_follows_408 (lN_32) ?_
            refine z_irem CX dL_follows_409 (nI_ne0 (by omega) (by omega)) ?_
            refine z_stk (congrArg (fun q9 => [Value.int q9]) eg) ?_
            refine z_istore CX dL_follows_410 (by decide) ?_
            refine z_iload_n CX 1 dL_follows_412 rfl rfl ?_
            refine z_iconst CX (v := 5) dL_follows_413 (by decide) ?_
            refine z_idiv CX dL_follows_414 (by decide) ?_
            refine z_iconst CX (v := 4) dL_follows_415 (by decide) ?_
            refine z_irem CX dL_follows_416 (by decide) ?_
            refine z_stk (congrArg (fun q9 => [Value.int q9]) ew) ?_
            refine z_istore CX dL_follows_417 (by decide) ?_
            refine z_aload_n CX 0 dL_follows_419 rfl rfl ?_
            refine z_iload CX dL_follows_420 rfl ?_
            refine z_iload CX dL_follows_422 rfl ?_
            refine z_callSw CX hN dL_follows_424 csw_145 hC2 rfl rfl (Nat.le_of_ble_eq_true rfl) ⟨Nat.le_of_ble_eq_true rfl, Nat.le_of_ble_eq_true rfl⟩ ⟨by omega, by omega⟩ ?_
            refine z_lstore CX dL_follows_427 (by decide) ?_
            refine z_aload_n CX 0 dL_follows_429 rfl rfl ?_
            refine z_iconst CX (v := 1) dL_follows_430 (by decide) ?_
            refine z_callSw CX hN dL_follows_431 csw_103 qb1 rfl rfl (Nat.le_of_ble_eq_true rfl) ⟨Nat.le_of_ble_eq_true rfl, Nat.le_of_ble_eq_true rfl⟩ ⟨by omega, by omega⟩ ?_
            refine z_l2i CX dL_follows_434 (lN_32) ?_
            refine z_istore CX dL_follows_435 (by decide) ?_
            refine z_lload CX dL_follows_437 rfl ?_
            refine z_ldc2 CX (v := -1) dL_follows_439 (wa_mem 774 (by decide +kernel) rfl) ?_
            refine z_lcmp CX dL_follows_442 ?_
            refine z_if_eq CX 513 dL_follows_443 (by decide) (fun q9 => absurd q9 (lcN (by omega))) (fun _ => ?_)
            refine z_aload_n CX 0 dL_follows_446 rfl rfl ?_
            refine z_lload CX dL_follows_447 rfl ?_
            refine z_l2i CX dL_follows_449 (lN_32) ?_
            refine z_iload CX dL_follows_450 rfl ?_
            refine z_iconst CX (v := 0) dL_follows_452 (by decide) ?_
            refine z_callSw CX hN dL_follows_453 csw_129 hC4 rfl rfl (Nat.le_of_ble_eq_true rfl) ⟨Nat.le_of_ble_eq_true rfl, Nat.le_of_ble_eq_true rfl⟩ ⟨by omega, by omega⟩ ?_
            refine z_iload CX dL_follows_456 rfl ?_
            refine z_i2l CX dL_follows_458 (nI_l (by omega)) ?_
            refine z_lcmp CX dL_follows_459 ?_
            refine z_if_ne CX 517 dL_follows_460 (by decide) (fun q9 => absurd q9 (fun z9 => z9 ((lg_cmp_eq _ _).mpr rfl))) (fun _ => ?_)
            refine z_aload_n CX 0 dL_follows_463 rfl rfl ?_
            refine z_iload CX dL_follows_464 rfl ?_
            refine z_iload CX dL_follows_466 rfl ?_
            refine z_callSw CX hN dL_follows_468 csw_131 hC5 rfl rfl (Nat.le_of_ble_eq_true rfl) ⟨Nat.le_of_ble_eq_true rfl, Nat.le_of_ble_eq_true rfl⟩ ⟨by omega, by omega⟩ ?_
            refine z_aload_n CX 0 dL_follows_471 rfl rfl ?_
            refine z_iload CX dL_follows_472 rfl ?_
            refine z_iconst CX (v := 0) dL_follows_474 (by decide) ?_
            refine z_iconst CX (v := 0) dL_follows_475 (by decide) ?_
            refine z_callSw CX hN dL_follows_476 csw_123 hCw rfl rfl (Nat.le_of_ble_eq_true rfl) ⟨Nat.le_of_ble_eq_true rfl, Nat.le_of_ble_eq_true rfl⟩ ⟨by omega, by omega⟩ ?_
            refine z_lcmp CX dL_follows_479 ?_
            refine z_if_ne CX 517 dL_follows_480 (by decide) (fun q9 => absurd q9 (fun z9 => z9 ((lg_cmp_eq _ _).mpr rfl))) (fun _ => ?_)
            refine z_aload_n CX 0 dL_follows_483 rfl rfl ?_
            refine z_iload CX dL_follows_484 rfl ?_
            refine z_iconst CX (v := 0) dL_follows_486 (by decide) ?_
            refine z_callSw CX hN dL_follows_487 csw_143 hC6 rfl rfl (Nat.le_of_ble_eq_true rfl) ⟨Nat.le_of_ble_eq_true rfl, Nat.le_of_ble_eq_true rfl⟩ ⟨by omega, by omega⟩ ?_
            refine z_lconst CX (v := 1) dL_follows_490 (by decide) ?_
            refine z_lcmp CX dL_follows_491 ?_
            refine z_if_lt CX 517 dL_follows_492 (by decide) (fun q9 => absurd q9 (lc1 (by omega) (by omega))) (fun _ => ?_)
            refine z_aload_n CX 0 dL_follows_495 rfl rfl ?_
            refine z_callSw CX hN dL_follows_496 csw_174 hC7 rfl rfl (Nat.le_of_ble_eq_true rfl) ⟨Nat.le_of_ble_eq_true rfl, Nat.le_of_ble_eq_true rfl⟩ ⟨by omega, by omega⟩ ?_
            refine z_lconst CX (v := 0) dL_follows_499 (by decide) ?_
            refine z_lcmp CX dL_follows_500 ?_
            refine z_if_lt CX 517 dL_follows_501 (by decide) (fun q9 => absurd q9 (lc0 (by omega))) (fun _ => ?_)
            refine z_aload_n CX 0 dL_follows_504 rfl rfl ?_
            refine z_callSw CX hN dL_follows_505 csw_174 hC8 rfl rfl (Nat.le_of_ble_eq_true rfl) ⟨Nat.le_of_ble_eq_true rfl, Nat.le_of_ble_eq_true rfl⟩ ⟨by omega, by omega⟩ ?_
            refine z_lconst CX (v := 0) dL_follows_508 (by decide) ?_
            refine z_lcmp CX dL_follows_509 ?_
            refine z_if_lt CX 517 dL_follows_510 (by decide) (fun q9 => absurd q9 (lc0 (by omega))) (fun _ => ?_)
            refine z_iconst CX (v := 1) dL_follows_513 (by decide) ?_
            refine z_goto CX 518 dL_follows_514 (by decide) ?_
            refine z_istore CX dL_follows_518 (by decide) ?_
            refine z_iload CX dL_follows_520 rfl ?_
            refine z_if_eq CX 607 dL_follows_522 (by decide) (fun q9 => absurd q9 (by decide)) (fun _ => ?_)
            refine z_lload CX dL_follows_525 rfl ?_
            refine z_ldc2 CX (v := -1) dL_follows_527 (wa_mem 774 (by decide +kernel) rfl) ?_
            refine z_lcmp CX dL_follows_530 ?_
            refine z_if_eq CX 603 dL_follows_531 (by decide) (fun q9 => absurd q9 (lcN (by omega))) (fun _ => ?_)
            refine z_lload CX dL_follows_534 rfl ?_
            refine z_lconst CX (v := 1) dL_follows_536 (by decide) ?_
            refine z_lcmp CX dL_follows_537 ?_
            refine z_if_eq CX 603 dL_follows_538 (by decide) (fun _ => ?_) (fun q9 => absurd ((lcE (a := 1) (b := 1) (by omega) (by omega)).mpr rfl) q9)
            refine z_iconst CX (v := 1) dL_follows_603 (by decide) ?_
            refine z_goto CX 608 dL_follows_604 (by decide) ?_
            refine z_istore CX dL_follows_608 (by decide) ?_
            refine z_widen (k9 := 34) (n9 := 204) (by omega) (by omega) ?_
            refine z_loc [(0, .ref (wB w + k)), (2, .long (nowF (zsF σ))), (4, .int 1)] ⟨rfl, rfl, rfl, trivial⟩ ?_
            exact (K610 _ _ hσ8 hI8)
          · obtain ⟨F2, rfl⟩ : ∃ F2, F = F2 + 1 := ⟨F - 1, by omega⟩
            obtain ⟨J4, J5, J6, J7, J8, C3, j1, j2, y1, y2, hσ9, hI9, hD4, hD5, hDw, hD6, hD7, hD8, x9', z1, z2⟩ := trial (l := l) (i := 1) hI8 hσ8 hb9 hgm hw4 (show 1 ≤ F2 ∧ F2 ≤ 9 by omega) (by omega)
            rw [eiV_a (hq3 F2 (by omega) (by omega)) (by decide), ← z1, nI_l (by omega)] at hD6
            refine z_aload_n CX 0 dL_follows_373 rfl rfl ?_
            refine z_iconst CX (v := 0) dL_follows_374 (by decide) ?_
            refine z_callSw CX hN dL_follows_375 csw_103 qa0 rfl rfl (Nat.le_of_ble_eq_true rfl) ⟨Nat.le_of_ble_eq_true rfl, Nat.le_of_ble_eq_true rfl⟩ ⟨by omega, by omega⟩ ?_
            refine z_lconst CX (v := 0) dL_follows_378 (by decide) ?_
            refine z_lcmp CX dL_follows_379 ?_
            refine z_if_le CX 610 dL_follows_380 (by decide) (fun q9 => absurd q9 (fun z9 => absurd ((lg_cmp_le _ _).mp z9) (by rw [show (0 : Int64) = lN 0 from rfl, lN_le (by omega) (by omega)]; omega))) (fun _ => ?_)
            refine z_aload_n CX 0 dL_follows_383 rfl rfl ?_
            refine z_iconst CX (v := 1) dL_follows_384 (by decide) ?_
            refine z_callSw CX hN dL_follows_385 csw_103 qa1 rfl rfl (Nat.le_of_ble_eq_true rfl) ⟨Nat.le_of_ble_eq_true rfl, Nat.le_of_ble_eq_true rfl⟩ ⟨by omega, by omega⟩ ?_
            refine z_ldc2 CX (v := 10) dL_follows_388 (wa_mem 796 (by decide +kernel) rfl) ?_
            refine z_lcmp CX dL_follows_391 ?_
            refine z_if_ge CX 610 dL_follows_392 (by decide) (fun q9 => absurd q9 (fun z9 => absurd ((lcGe (b := 10) (by omega) (by omega)).mp z9) (by omega))) (fun _ => ?_)
            refine z_iload CX dL_follows_395 rfl ?_
            refine z_if_eq CX 610 dL_follows_397 (by decide) (fun q9 => absurd q9 (by decide)) (fun _ => ?_)
            refine z_iload_n CX 1 dL_follows_400 rfl rfl ?_
            refine z_iconst CX (v := 3) dL_follows_401 (by decide) ?_
            refine z_idiv CX dL_follows_402 (by decide) ?_
            refine z_aload_n CX 0 dL_follows_403 rfl rfl ?_
            refine z_iconst CX (v := 0) dL_follows_404 (by decide) ?_
            refine z_callSw CX hN dL_follows_405 csw_103 qa0 rfl rfl (Nat.le_of_ble_eq_true rfl) ⟨Nat.le_of_ble_eq_true rfl, Nat.le_of_ble_eq_true rfl⟩ ⟨by omega, by omega⟩ ?_
            refine z_l2i CX dL_follows_408 (lN_32) ?_
            refine z_irem CX dL_follows_409 (nI_ne0 (by omega) (by omega)) ?_
            refine z_stk (congrArg (fun q9 => [Value.int q9]) eg) ?_
            refine z_istore CX dL_follows_410 (by decide) ?_
            refine z_iload_n CX 1 dL_follows_412 rfl rfl ?_
            refine z_iconst CX (v := 5) dL_follows_413 (by decide) ?_
            refine z_idiv CX dL_follows_414 (by decide) ?_
            refine z_iconst CX (v := 4) dL_follows_415 (by decide) ?_
            refine z_irem CX dL_follows_416 (by decide) ?_
            refine z_stk (congrArg (fun q9 => [Value.int q9]) ew) ?_
            refine z_istore CX dL_follows_417 (by decide) ?_
            refine z_aload_n CX 0 dL_follows_419 rfl rfl ?_
            refine z_iload CX dL_follows_420 rfl ?_
            refine z_iload CX dL_follows_422 rfl ?_
            refine z_callSw CX hN dL_follows_424 csw_145 hC2 rfl rfl (Nat.le_of_ble_eq_true rfl) ⟨Nat.le_of_ble_eq_true rfl, Nat.le_of_ble_eq_true rfl⟩ ⟨by omega, by omega⟩ ?_
            refine z_lstore CX dL_follows_427 (by decide) ?_
            refine z_aload_n CX 0 dL_follows_429 rfl rfl ?_
            refine z_iconst CX (v := 1) dL_follows_430 (by decide) ?_
            refine z_callSw CX hN dL_follows_431 csw_103 qb1 rfl rfl (Nat.le_of_ble_eq_true rfl) ⟨Nat.le_of_ble_eq_true rfl, Nat.le_of_ble_eq_true rfl⟩ ⟨by omega, by omega⟩ ?_
            refine z_l2i CX dL_follows_434 (lN_32) ?_
            refine z_istore CX dL_follows_435 (by decide) ?_
            refine z_lload CX dL_follows_437 rfl ?_
            refine z_ldc2 CX (v := -1) dL_follows_439 (wa_mem 774 (by decide +kernel) rfl) ?_
            refine z_lcmp CX dL_follows_442 ?_
            refine z_if_eq CX 513 dL_follows_443 (by decide) (fun q9 => absurd q9 (lcN (by omega))) (fun _ => ?_)
            refine z_aload_n CX 0 dL_follows_446 rfl rfl ?_
            refine z_lload CX dL_follows_447 rfl ?_
            refine z_l2i CX dL_follows_449 (lN_32) ?_
            refine z_iload CX dL_follows_450 rfl ?_
            refine z_iconst CX (v := 0) dL_follows_452 (by decide) ?_
            refine z_callSw CX hN dL_follows_453 csw_129 hC4 rfl rfl (Nat.le_of_ble_eq_true rfl) ⟨Nat.le_of_ble_eq_true rfl, Nat.le_of_ble_eq_true rfl⟩ ⟨by omega, by omega⟩ ?_
            refine z_iload CX dL_follows_456 rfl ?_
            refine z_i2l CX dL_follows_458 (nI_l (by omega)) ?_
            refine z_lcmp CX dL_follows_459 ?_
            refine z_if_ne CX 517 dL_follows_460 (by decide) (fun q9 => absurd q9 (fun z9 => z9 ((lg_cmp_eq _ _).mpr rfl))) (fun _ => ?_)
            refine z_aload_n CX 0 dL_follows_463 rfl rfl ?_
            refine z_iload CX dL_follows_464 rfl ?_
            refine z_iload CX dL_follows_466 rfl ?_
            refine z_callSw CX hN dL_follows_468 csw_131 hC5 rfl rfl (Nat.le_of_ble_eq_true rfl) ⟨Nat.le_of_ble_eq_true rfl, Nat.le_of_ble_eq_true rfl⟩ ⟨by omega, by omega⟩ ?_
            refine z_aload_n CX 0 dL_follows_471 rfl rfl ?_
            refine z_iload CX dL_follows_472 rfl ?_
            refine z_iconst CX (v := 0) dL_follows_474 (by decide) ?_
            refine z_iconst CX (v := 0) dL_follows_475 (by decide) ?_
            refine z_callSw CX hN dL_follows_476 csw_123 hCw rfl rfl (Nat.le_of_ble_eq_true rfl) ⟨Nat.le_of_ble_eq_true rfl, Nat.le_of_ble_eq_true rfl⟩ ⟨by omega, by omega⟩ ?_
            refine z_lcmp CX dL_follows_479 ?_
            refine z_if_ne CX 517 dL_follows_480 (by decide) (fun q9 => absurd q9 (fun z9 => z9 ((lg_cmp_eq _ _).mpr rfl))) (fun _ => ?_)
            refine z_aload_n CX 0 dL_follows_483 rfl rfl ?_
            refine z_iload CX dL_follows_484 rfl ?_
            refine z_iconst CX (v := 0) dL_follows_486 (by decide) ?_
            refine z_callSw CX hN dL_follows_487 csw_143 hC6 rfl rfl (Nat.le_of_ble_eq_true rfl) ⟨Nat.le_of_ble_eq_true rfl, Nat.le_of_ble_eq_true rfl⟩ ⟨by omega, by omega⟩ ?_
            refine z_lconst CX (v := 1) dL_follows_490 (by decide) ?_
            refine z_lcmp CX dL_follows_491 ?_
            refine z_if_lt CX 517 dL_follows_492 (by decide) (fun q9 => absurd q9 (lc1 (by omega) (by omega))) (fun _ => ?_)
            refine z_aload_n CX 0 dL_follows_495 rfl rfl ?_
            refine z_callSw CX hN dL_follows_496 csw_174 hC7 rfl rfl (Nat.le_of_ble_eq_true rfl) ⟨Nat.le_of_ble_eq_true rfl, Nat.le_of_ble_eq_true rfl⟩ ⟨by omega, by omega⟩ ?_
            refine z_lconst CX (v := 0) dL_follows_499 (by decide) ?_
            refine z_lcmp CX dL_follows_500 ?_
            refine z_if_lt CX 517 dL_follows_501 (by decide) (fun q9 => absurd q9 (lc0 (by omega))) (fun _ => ?_)
            refine z_aload_n CX 0 dL_follows_504 rfl rfl ?_
            refine z_callSw CX hN dL_follows_505 csw_174 hC8 rfl rfl (Nat.le_of_ble_eq_true rfl) ⟨Nat.le_of_ble_eq_true rfl, Nat.le_of_ble_eq_true rfl⟩ ⟨by omega, by omega⟩ ?_
            refine z_lconst CX (v := 0) dL_follows_508 (by decide) ?_
            refine z_lcmp CX dL_follows_509 ?_
            refine z_if_lt CX 517 dL_follows_510 (by decide) (fun q9 => absurd q9 (lc0 (by omega))) (fun _ => ?_)
            refine z_iconst CX (v := 1) dL_follows_513 (by decide) ?_
            refine z_goto CX 518 dL_follows_514 (by decide) ?_
            refine z_istore CX dL_follows_518 (by decide) ?_
            refine z_iload CX dL_follows_520 rfl ?_
            refine z_if_eq CX 607 dL_follows_522 (by decide) (fun q9 => absurd q9 (by decide)) (fun _ => ?_)
            refine z_lload CX dL_follows_525 rfl ?_
            refine z_ldc2 CX (v := -1) dL_follows_527 (wa_mem 774 (by decide +kernel) rfl) ?_
            refine z_lcmp CX dL_follows_530 ?_
            refine z_if_eq CX 603 dL_follows_531 (by decide) (fun q9 => absurd q9 (lcN (by omega))) (fun _ => ?_)
            refine z_lload CX dL_follows_534 rfl ?_
            refine z_lconst CX (v := 1) dL_follows_536 (by decide) ?_
            refine z_lcmp CX dL_follows_537 ?_
            refine z_if_eq CX 603 dL_follows_538 (by decide) (fun q9 => absurd q9 (fun z9 => absurd ((lcE (b := 1) (by omega) (by omega)).mp z9) (by omega))) (fun _ => ?_)
            refine z_aload_n CX 0 dL_follows_541 rfl rfl ?_
            refine z_lload CX dL_follows_542 rfl ?_
            refine z_l2i CX dL_follows_544 (lN_32) ?_
            refine z_iconst CX (v := 1) dL_follows_545 (by decide) ?_
            refine z_isub CX dL_follows_546 ?_
            refine z_stk (congrArg (fun q9 => [Value.int q9, Value.ref (wB w + k)]) (nI_pred F2)) ?_
            refine z_iload CX dL_follows_547 rfl ?_
            refine z_iconst CX (v := 0) dL_follows_549 (by decide) ?_
            refine z_callSw CX hN dL_follows_550 csw_129 hD4 rfl rfl (Nat.le_of_ble_eq_true rfl) ⟨Nat.le_of_ble_eq_true rfl, Nat.le_of_ble_eq_true rfl⟩ ⟨by omega, by omega⟩ ?_
            refine z_iload CX dL_follows_553 rfl ?_
            refine z_i2l CX dL_follows_555 (nI_l (by omega)) ?_
            refine z_lcmp CX dL_follows_556 ?_
            refine z_if_ne CX 607 dL_follows_557 (by decide) (fun q9 => absurd q9 (fun z9 => z9 ((lg_cmp_eq _ _).mpr rfl))) (fun _ => ?_)
            refine z_aload_n CX 0 dL_follows_560 rfl rfl ?_
            refine z_iload CX dL_follows_561 rfl ?_
            refine z_iload CX dL_follows_563 rfl ?_
            refine z_callSw CX hN dL_follows_565 csw_131 hD5 rfl rfl (Nat.le_of_ble_eq_true rfl) ⟨Nat.le_of_ble_eq_true rfl, Nat.le_of_ble_eq_true rfl⟩ ⟨by omega, by omega⟩ ?_
            refine z_lconst CX (v := 0) dL_follows_568 (by decide) ?_
            refine z_lcmp CX dL_follows_569 ?_
            refine z_if_le CX 607 dL_follows_570 (by decide) (fun q9 => absurd q9 (fun z9 => absurd ((lN_le (a := wayN (zsF σ) g 0) (b := 0) (by omega) (by omega)).mp ((lg_cmp_le _ _).mp z9)) (by omega))) (fun _ => ?_)
            refine z_aload_n CX 0 dL_follows_573 rfl rfl ?_
            refine z_iload CX dL_follows_574 rfl ?_
            refine z_iconst CX (v := 1) dL_follows_576 (by decide) ?_
            refine z_callSw CX hN dL_follows_577 csw_143 hD6 rfl rfl (Nat.le_of_ble_eq_true rfl) ⟨Nat.le_of_ble_eq_true rfl, Nat.le_of_ble_eq_true rfl⟩ ⟨by omega, by omega⟩ ?_
            refine z_lconst CX (v := 1) dL_follows_580 (by decide) ?_
            refine z_lcmp CX dL_follows_581 ?_
            refine z_if_lt CX 607 dL_follows_582 (by decide) (fun q9 => absurd q9 (lc1 (by omega) (by omega))) (fun _ => ?_)
            refine z_aload_n CX 0 dL_follows_585 rfl rfl ?_
            refine z_callSw CX hN dL_follows_586 csw_174 hD7 rfl rfl (Nat.le_of_ble_eq_true rfl) ⟨Nat.le_of_ble_eq_true rfl, Nat.le_of_ble_eq_true rfl⟩ ⟨by omega, by omega⟩ ?_
            refine z_lconst CX (v := 0) dL_follows_589 (by decide) ?_
            refine z_lcmp CX dL_follows_590 ?_
            refine z_if_lt CX 607 dL_follows_591 (by decide) (fun q9 => absurd q9 (lc0 (by omega))) (fun _ => ?_)
            refine z_aload_n CX 0 dL_follows_594 rfl rfl ?_
            refine z_callSw CX hN dL_follows_595 csw_174 hD8 rfl rfl (Nat.le_of_ble_eq_true rfl) ⟨Nat.le_of_ble_eq_true rfl, Nat.le_of_ble_eq_true rfl⟩ ⟨by omega, by omega⟩ ?_
            refine z_lconst CX (v := 0) dL_follows_598 (by decide) ?_
            refine z_lcmp CX dL_follows_599 ?_
            refine z_if_lt CX 607 dL_follows_600 (by decide) (fun q9 => absurd q9 (lc0 (by omega))) (fun _ => ?_)
            refine z_iconst CX (v := 1) dL_follows_603 (by decide) ?_
            refine z_goto CX 608 dL_follows_604 (by decide) ?_
            refine z_istore CX dL_follows_608 (by decide) ?_
            refine z_widen (k9 := 34) (n9 := 204) (by omega) (by omega) ?_
            refine z_loc [(0, .ref (wB w + k)), (2, .long (nowF (zsF σ))), (4, .int 1)] ⟨rfl, rfl, rfl, trivial⟩ ?_
            exact (K610 _ _ hσ9 hI9)
      · skip
        refine z_aload_n CX 0 dL_follows_373 rfl rfl ?_
        refine z_iconst CX (v := 0) dL_follows_374 (by decide) ?_
        refine z_callSw CX hN dL_follows_375 csw_103 qa0 rfl rfl (Nat.le_of_ble_eq_true rfl) ⟨Nat.le_of_ble_eq_true rfl, Nat.le_of_ble_eq_true rfl⟩ ⟨by omega, by omega⟩ ?_
        refine z_lconst CX (v := 0) dL_follows_378 (by decide) ?_
        refine z_lcmp CX dL_follows_379 ?_
        refine z_if_le CX 610 dL_follows_380 (by decide) (fun q9 => absurd q9 (fun z9 => absurd ((lg_cmp_le _ _).mp z9) (by rw [show (0 : Int64) = lN 0 from rfl, lN_le (by omega) (by omega)]; omega))) (fun _ => ?_)
        refine z_aload_n CX 0 dL_follows_383 rfl rfl ?_
        refine z_iconst CX (v := 1) dL_follows_384 (by decide) ?_
        refine z_callSw CX hN dL_follows_385 csw_103 qa1 rfl rfl (Nat.le_of_ble_eq_true rfl) ⟨Nat.le_of_ble_eq_true rfl, Nat.le_of_ble_eq_true rfl⟩ ⟨by omega, by omega⟩ ?_
        refine z_ldc2 CX (v := 10) dL_follows_388 (wa_mem 796 (by decide +kernel) rfl) ?_
        refine z_lcmp CX dL_follows_391 ?_
        refine z_if_ge CX 610 dL_follows_392 (by decide) (fun _ => ?_) (fun q9 => absurd ((lcGe (b := 10) (by omega) (by omega)).mpr (by omega)) q9)
        refine z_widen (k9 := 34) (n9 := 204) (by omega) (by omega) ?_
        refine z_loc [(0, .ref (wB w + k)), (2, .long (nowF (zsF σ))), (4, .int 1)] ⟨rfl, rfl, rfl, trivial⟩ ?_
        exact (K610 _ _ hσ1 hI1)
    · skip
      refine z_aload_n CX 0 dL_follows_373 rfl rfl ?_
      refine z_iconst CX (v := 0) dL_follows_374 (by decide) ?_
      refine z_callSw CX hN dL_follows_375 csw_103 qa0 rfl rfl (Nat.le_of_ble_eq_true rfl) ⟨Nat.le_of_ble_eq_true rfl, Nat.le_of_ble_eq_true rfl⟩ ⟨by omega, by omega⟩ ?_
      refine z_lconst CX (v := 0) dL_follows_378 (by decide) ?_
      refine z_lcmp CX dL_follows_379 ?_
      refine z_if_le CX 610 dL_follows_380 (by decide) (fun _ => ?_) (fun q9 => absurd ((lg_cmp_le _ _).mpr (by rw [show (0 : Int64) = lN 0 from rfl]; exact (lN_le (by omega) (by omega)).mpr (by omega))) q9)
      refine z_widen (k9 := 34) (n9 := 204) (by omega) (by omega) ?_
      refine z_loc [(0, .ref (wB w + k)), (2, .long (nowF (zsF σ))), (4, .int 1)] ⟨rfl, rfl, rfl, trivial⟩ ?_
      exact (K610 _ _ hσ1 hI1)
  have K56 : ∀ B1 H1, OKs M ((σ.1, zsF σ, B1, (fun q => if q = 1 then some (zsF σ) else zsK σ q)) : ZS) → IS w hs0 k ((σ.1, zsF σ, B1, (fun q => if q = 1 then some (zsF σ) else zsK σ q)) : ZS) H1 → ZW p l e R s m args below meth c w 14 H1 none 5 30 (MQ below (QP w (fun h v => IS w hs0 k (σ.1, zsF σ, [], (fun q => if q = 1 then some (zsF σ) else zsK σ q)) h ∧ v = .int 1)) args s 40 240 (wA w)) 56 [(0, .ref (wB w + k)), (1, .int (nI x9)), (2, .long (nowF (zsF σ))), (4, .int 1)] [] := by
    intro B1 H1 hσ1 hI1
    have qa1 := q_about (l := l) (i := 1) hI1 hσ1 (by omega)
    rw [l2l (show abV (zsF σ) 1 = nI (bN (zsF σ)) from e147) (by omega)] at qa1
    by_cases hb0 : 0 < bN (zsF σ)
    · skip
      have hbm : x9 % bN (zsF σ) < bN (zsF σ) := Nat.mod_lt _ hb0
      have eb : nI x9 - nI x9 / nI (bN (zsF σ)) * nI (bN (zsF σ)) = nI (x9 % bN (zsF σ)) := pk_rem (by omega) (by omega) (by omega)
      have eo : nI x9 / 11 - nI x9 / 11 / 4 * 4 = nI (x9 / 11 % 4) := by
        rw [show nI x9 / 11 = nI (x9 / 11) from pk_div (d := 11) (by omega) (by omega) (by omega)]
        exact pk_rem (d := 4) (by omega) (by omega) (by omega)
      have ho4 : x9 / 11 % 4 < 4 := Nat.mod_lt _ (by omega)
      generalize x9 % bN (zsF σ) = b9 at hbm eb
      generalize x9 / 11 % 4 = o at ho4 eo
      obtain ⟨H4, H5, B3, m1, n1, hσ5, hI5, hC4, hC4b, hC5⟩ := claimU (l := l) hI1 hσ1 ho4 hbm
      have qy := q_why (l := l) hI1 hσ1 ho4 hbm
      have qs := q_boatOf (l := l) (j := b9) (i := 3) hI5 hσ5 hbm (by omega)
      have K150 : ZW p l e R s m args below meth c w 14 H5 none 9 54 (MQ below (QP w (fun h v => IS w hs0 k (σ.1, zsF σ, [], (fun q => if q = 1 then some (zsF σ) else zsK σ q)) h ∧ v = .int 1)) args s 40 240 (wA w)) 150 [(0, .ref (wB w + k)), (1, .int (nI x9)), (2, .long (nowF (zsF σ))), (4, .int 1), (5, .int (nI b9))] [] := by
        by_cases hs1 : zsF σ (24 + 10 * b9 + 3) = 1
        · rw [l2l (show boV (zsF σ) b9 3 = nI 1 from hs1) (by omega)] at qs
          obtain ⟨x, v1, v2, v3, v4, v5⟩ := voyage hR hbm hs1
          obtain ⟨J1, hJ1, hD1⟩ := s_endsIn (l := l) (j := b9) (i := 0) hI5 hσ5 hbm (by omega) hs1
          obtain ⟨J2, hJ2, hD2⟩ := s_endsIn (l := l) (j := b9) (i := 1) hJ1 hσ5 hbm (by omega) hs1
          have hD1' : Cw l w mL_endsIn [(0, 7, 8, 34), (0, 7, 13, 15), (0, 7, 18, 19)] 1 6 [.ref (wB w + k), .int (nI b9), .int (nI 0)] H5 none J1 none (some (.long (eiV ((gtl (bN (zsF σ)) b9 94 (zsF σ)).2 (24 + 10 * b9 + 3)) (nI 0) (nI (x + 1))).toInt64)) := by rw [v1]; exact hD1
          have hD2' : Cw l w mL_endsIn [(0, 7, 8, 34), (0, 7, 13, 15), (0, 7, 18, 19)] 1 6 [.ref (wB w + k), .int (nI b9), .int (nI 1)] J1 none J2 none (some (.long (eiV ((gtl (bN (zsF σ)) b9 94 (zsF σ)).2 (24 + 10 * b9 + 3)) (nI 1) (nI (x + 1))).toInt64)) := by rw [v1]; exact hD2
          clear hD1 hD2
          have ix : nI (x + 1) - 1 = nI x := nI_pred x
          by_cases h3 : (gtl (bN (zsF σ)) b9 94 (zsF σ)).2 (24 + 10 * b9 + 3) = 3
          · rw [eiV_c h3 (by decide), l2m rfl] at hD1'
            rw [eiV_a h3 (by decide), nI_l (by omega)] at hD2'
            by_cases hn60 : x + 1 ≤ 60
            · skip
              obtain ⟨E4, E5, C3, e1, e2, u1, u2, hσe, hIe, hE4, hE5, hE6⟩ := minU (l := l) (n9 := x + 1) (b9 := b9) hJ2 hσ5 (by omega) hbm
              have e3 : (gms (bN (zsF σ)) (x + 1) (zsF σ)).2 (24 + 10 * b9 + 3) = (gtl (bN (zsF σ)) b9 94 (zsF σ)).2 (24 + 10 * b9 + 3) := by rw [v3]
              rw [l2l (show (gms (bN (zsF σ)) (x + 1) (zsF σ)).2 (24 + 10 * b9 + 3) = nI 3 from e3.trans h3) (by omega)] at hE5
              by_cases hx0 : x = 0
              · skip
                refine z_aload_n CX 0 dL_follows_150 rfl rfl ?_
                refine z_iload CX dL_follows_151 rfl ?_
                refine z_iconst CX (v := 3) dL_follows_153 (by decide) ?_
                refine z_callSw CX hN dL_follows_154 csw_115 qs rfl rfl (Nat.le_of_ble_eq_true rfl) ⟨Nat.le_of_ble_eq_true rfl, Nat.le_of_ble_eq_true rfl⟩ ⟨by omega, by omega⟩ ?_
                refine z_lconst CX (v := 1) dL_follows_157 (by decide) ?_
                refine z_lcmp CX dL_follows_158 ?_
                refine z_if_ne CX 373 dL_follows_159 (by decide) (fun q9 => absurd q9 (fun z9 => z9 ((lcE (a := 1) (b := 1) (by omega) (by omega)).mpr rfl))) (fun _ => ?_)
                refine z_iload CX dL_follows_162 rfl ?_
                refine z_if_eq CX 373 dL_follows_164 (by decide) (fun q9 => absurd q9 (by decide)) (fun _ => ?_)
                refine z_aload_n CX 0 dL_follows_167 rfl rfl ?_
                refine z_iload CX dL_follows_168 rfl ?_
                refine z_iconst CX (v := 0) dL_follows_170 (by decide) ?_
                refine z_callSw CX hN dL_follows_171 csw_143 hD1' rfl rfl (Nat.le_of_ble_eq_true rfl) ⟨Nat.le_of_ble_eq_true rfl, Nat.le_of_ble_eq_true rfl⟩ ⟨by omega, by omega⟩ ?_
                refine z_lstore CX dL_follows_174 (by decide) ?_
                refine z_aload_n CX 0 dL_follows_176 rfl rfl ?_
                refine z_iload CX dL_follows_177 rfl ?_
                refine z_iconst CX (v := 1) dL_follows_179 (by decide) ?_
                refine z_callSw CX hN dL_follows_180 csw_143 hD2' rfl rfl (Nat.le_of_ble_eq_true rfl) ⟨Nat.le_of_ble_eq_true rfl, Nat.le_of_ble_eq_true rfl⟩ ⟨by omega, by omega⟩ ?_
                refine z_lstore CX dL_follows_183 (by decide) ?_
                refine z_lload CX dL_follows_185 rfl ?_
                refine z_ldc2 CX (v := -1) dL_follows_187 (wa_mem 774 (by decide +kernel) rfl) ?_
                refine z_lcmp CX dL_follows_190 ?_
                refine z_if_ne CX 199 dL_follows_191 (by decide) (fun q9 => absurd q9 (fun z9 => z9 ((lg_cmp_eq _ _).mpr rfl))) (fun _ => ?_)
                refine z_lload CX dL_follows_194 rfl ?_
                refine z_goto CX 201 dL_follows_196 (by decide) ?_
                refine z_l2i CX dL_follows_201 (lN_32) ?_
                refine z_istore CX dL_follows_202 (by decide) ?_
                refine z_lload CX dL_follows_204 rfl ?_
                refine z_ldc2 CX (v := -1) dL_follows_206 (wa_mem 774 (by decide +kernel) rfl) ?_
                refine z_lcmp CX dL_follows_209 ?_
                refine z_if_ne CX 217 dL_follows_210 (by decide) (fun q9 => absurd q9 (fun z9 => z9 ((lg_cmp_eq _ _).mpr rfl))) (fun _ => ?_)
                refine z_iconst CX (v := 1) dL_follows_213 (by decide) ?_
                refine z_goto CX 218 dL_follows_214 (by decide) ?_
                refine z_lload CX dL_follows_218 rfl ?_
                refine z_ldc2 CX (v := -1) dL_follows_220 (wa_mem 774 (by decide +kernel) rfl) ?_
                refine z_lcmp CX dL_follows_223 ?_
                refine z_if_ne CX 231 dL_follows_224 (by decide) (fun _ => ?_) (fun q9 => absurd q9 (lcN (by omega)))
                refine z_iconst CX (v := 0) dL_follows_231 (by decide) ?_
                refine z_icmp_eq CX 239 dL_follows_232 (by decide) (fun q9 => absurd q9 (by decide)) (fun _ => ?_)
                refine z_iconst CX (v := 1) dL_follows_235 (by decide) ?_
                refine z_goto CX 240 dL_follows_236 (by decide) ?_
                refine z_istore CX dL_follows_240 (by decide) ?_
                refine z_iload CX dL_follows_242 rfl ?_
                refine z_bipush CX (v := 60) dL_follows_244 (by decide) ?_
                refine z_icmp_gt CX 373 dL_follows_246 (by decide) (fun q9 => absurd q9 (nI_nlt (a := 60) (b := x + 1) (by omega) (by omega))) (fun _ => ?_)
                refine z_iload CX dL_follows_249 rfl ?_
                refine z_if_eq CX 373 dL_follows_251 (by decide) (fun q9 => absurd q9 (by decide)) (fun _ => ?_)
                refine z_aload_n CX 0 dL_follows_254 rfl rfl ?_
                refine z_iload CX dL_follows_255 rfl ?_
                refine z_callSw CX hN dL_follows_257 csw_137 hE4 rfl rfl (Nat.le_of_ble_eq_true rfl) ⟨Nat.le_of_ble_eq_true rfl, Nat.le_of_ble_eq_true rfl⟩ ⟨by omega, by omega⟩ ?_
                refine z_lconst CX (v := 0) dL_follows_260 (by decide) ?_
                refine z_lcmp CX dL_follows_261 ?_
                refine z_if_lt CX 370 dL_follows_262 (by decide) (fun q9 => absurd q9 (lc0 (by omega))) (fun _ => ?_)
                refine z_lload CX dL_follows_265 rfl ?_
                refine z_ldc2 CX (v := -1) dL_follows_267 (wa_mem 774 (by decide +kernel) rfl) ?_
                refine z_lcmp CX dL_follows_270 ?_
                refine z_if_ne CX 303 dL_follows_271 (by decide) (fun _ => ?_) (fun q9 => absurd q9 (lcN (by omega)))
                refine z_aload_n CX 0 dL_follows_303 rfl rfl ?_
                refine z_iload CX dL_follows_304 rfl ?_
                refine z_iconst CX (v := 3) dL_follows_306 (by decide) ?_
                refine z_callSw CX hN dL_follows_307 csw_115 hE5 rfl rfl (Nat.le_of_ble_eq_true rfl) ⟨Nat.le_of_ble_eq_true rfl, Nat.le_of_ble_eq_true rfl⟩ ⟨by omega, by omega⟩ ?_
                refine z_ldc2 CX (v := 3) dL_follows_310 (wa_mem 775 (by decide +kernel) rfl) ?_
                refine z_lcmp CX dL_follows_313 ?_
                refine z_if_ne CX 370 dL_follows_314 (by decide) (fun q9 => absurd q9 (fun z9 => z9 ((lcE (a := 3) (b := 3) (by omega) (by omega)).mpr rfl))) (fun _ => ?_)
                refine z_aload_n CX 0 dL_follows_317 rfl rfl ?_
                refine z_callSw CX hN dL_follows_318 csw_174 hE6 rfl rfl (Nat.le_of_ble_eq_true rfl) ⟨Nat.le_of_ble_eq_true rfl, Nat.le_of_ble_eq_true rfl⟩ ⟨by omega, by omega⟩ ?_
                refine z_lconst CX (v := 0) dL_follows_321 (by decide) ?_
                refine z_lcmp CX dL_follows_322 ?_
                refine z_if_lt CX 370 dL_follows_323 (by decide) (fun q9 => absurd q9 (lc0 (by omega))) (fun _ => ?_)
                refine z_iload CX dL_follows_326 rfl ?_
                refine z_iconst CX (v := 1) dL_follows_328 (by decide) ?_
                refine z_icmp_eq CX 366 dL_follows_329 (by decide) (fun _ => ?_) (fun q9 => absurd (by rw [hx0]; rfl) q9)
                refine z_iconst CX (v := 1) dL_follows_366 (by decide) ?_
                refine z_goto CX 371 dL_follows_367 (by decide) ?_
                refine z_istore CX dL_follows_371 (by decide) ?_
                refine z_widen (k9 := 15) (n9 := 90) (by omega) (by omega) ?_
                refine z_loc [(0, .ref (wB w + k)), (1, .int (nI x9)), (2, .long (nowF (zsF σ))), (4, .int 1)] ⟨rfl, rfl, rfl, rfl, trivial⟩ ?_
                exact (K373 _ _ hσe hIe)
              · skip
                obtain ⟨G4, G5, D3, i1, i2, w1, w2, hσg, hIg, hG4, hG5, hG6⟩ := minU (l := l) (n9 := x) (b9 := b9) hIe hσe (by omega) hbm
                rw [l2l (show (gms (bN (zsF σ)) x (zsF σ)).2 (24 + 10 * b9 + 3) = nI 1 from v5) (by omega)] at hG5
                refine z_aload_n CX 0 dL_follows_150 rfl rfl ?_
                refine z_iload CX dL_follows_151 rfl ?_
                refine z_iconst CX (v := 3) dL_follows_153 (by decide) ?_
                refine z_callSw CX hN dL_follows_154 csw_115 qs rfl rfl (Nat.le_of_ble_eq_true rfl) ⟨Nat.le_of_ble_eq_true rfl, Nat.le_of_ble_eq_true rfl⟩ ⟨by omega, by omega⟩ ?_
                refine z_lconst CX (v := 1) dL_follows_157 (by decide) ?_
                refine z_lcmp CX dL_follows_158 ?_
                refine z_if_ne CX 373 dL_follows_159 (by decide) (fun q9 => absurd q9 (fun z9 => z9 ((lcE (a := 1) (b := 1) (by omega) (by omega)).mpr rfl))) (fun _ => ?_)
                refine z_iload CX dL_follows_162 rfl ?_
                refine z_if_eq CX 373 dL_follows_164 (by decide) (fun q9 => absurd q9 (by decide)) (fun _ => ?_)
                refine z_aload_n CX 0 dL_follows_167 rfl rfl ?_
                refine z_iload CX dL_follows_168 rfl ?_
                refine z_iconst CX (v := 0) dL_follows_170 (by decide) ?_
                refine z_callSw CX hN dL_follows_171 csw_143 hD1' rfl rfl (Nat.le_of_ble_eq_true rfl) ⟨Nat.le_of_ble_eq_true rfl, Nat.le_of_ble_eq_true rfl⟩ ⟨by omega, by omega⟩ ?_
                refine z_lstore CX dL_follows_174 (by decide) ?_
                refine z_aload_n CX 0 dL_follows_176 rfl rfl ?_
                refine z_iload CX dL_follows_177 rfl ?_
                refine z_iconst CX (v := 1) dL_follows_179 (by decide) ?_
                refine z_callSw CX hN dL_follows_180 csw_143 hD2' rfl rfl (Nat.le_of_ble_eq_true rfl) ⟨Nat.le_of_ble_eq_true rfl, Nat.le_of_ble_eq_true rfl⟩ ⟨by omega, by omega⟩ ?_
                refine z_lstore CX dL_follows_183 (by decide) ?_
                refine z_lload CX dL_follows_185 rfl ?_
                refine z_ldc2 CX (v := -1) dL_follows_187 (wa_mem 774 (by decide +kernel) rfl) ?_
                refine z_lcmp CX dL_follows_190 ?_
                refine z_if_ne CX 199 dL_follows_191 (by decide) (fun q9 => absurd q9 (fun z9 => z9 ((lg_cmp_eq _ _).mpr rfl))) (fun _ => ?_)
                refine z_lload CX dL_follows_194 rfl ?_
                refine z_goto CX 201 dL_follows_196 (by decide) ?_
                refine z_l2i CX dL_follows_201 (lN_32) ?_
                refine z_istore CX dL_follows_202 (by decide) ?_
                refine z_lload CX dL_follows_204 rfl ?_
                refine z_ldc2 CX (v := -1) dL_follows_206 (wa_mem 774 (by decide +kernel) rfl) ?_
                refine z_lcmp CX dL_follows_209 ?_
                refine z_if_ne CX 217 dL_follows_210 (by decide) (fun q9 => absurd q9 (fun z9 => z9 ((lg_cmp_eq _ _).mpr rfl))) (fun _ => ?_)
                refine z_iconst CX (v := 1) dL_follows_213 (by decide) ?_
                refine z_goto CX 218 dL_follows_214 (by decide) ?_
                refine z_lload CX dL_follows_218 rfl ?_
                refine z_ldc2 CX (v := -1) dL_follows_220 (wa_mem 774 (by decide +kernel) rfl) ?_
                refine z_lcmp CX dL_follows_223 ?_
                refine z_if_ne CX 231 dL_follows_224 (by decide) (fun _ => ?_) (fun q9 => absurd q9 (lcN (by omega)))
                refine z_iconst CX (v := 0) dL_follows_231 (by decide) ?_
                refine z_icmp_eq CX 239 dL_follows_232 (by decide) (fun q9 => absurd q9 (by decide)) (fun _ => ?_)
                refine z_iconst CX (v := 1) dL_follows_235 (by decide) ?_
                refine z_goto CX 240 dL_follows_236 (by decide) ?_
                refine z_istore CX dL_follows_240 (by decide) ?_
                refine z_iload CX dL_follows_242 rfl ?_
                refine z_bipush CX (v := 60) dL_follows_244 (by decide) ?_
                refine z_icmp_gt CX 373 dL_follows_246 (by decide) (fun q9 => absurd q9 (nI_nlt (a := 60) (b := x + 1) (by omega) (by omega))) (fun _ => ?_)
                refine z_iload CX dL_follows_249 rfl ?_
                refine z_if_eq CX 373 dL_follows_251 (by decide) (fun q9 => absurd q9 (by decide)) (fun _ => ?_)
                refine z_aload_n CX 0 dL_follows_254 rfl rfl ?_
                refine z_iload CX dL_follows_255 rfl ?_
                refine z_callSw CX hN dL_follows_257 csw_137 hE4 rfl rfl (Nat.le_of_ble_eq_true rfl) ⟨Nat.le_of_ble_eq_true rfl, Nat.le_of_ble_eq_true rfl⟩ ⟨by omega, by omega⟩ ?_
                refine z_lconst CX (v := 0) dL_follows_260 (by decide) ?_
                refine z_lcmp CX dL_follows_261 ?_
                refine z_if_lt CX 370 dL_follows_262 (by decide) (fun q9 => absurd q9 (lc0 (by omega))) (fun _ => ?_)
                refine z_lload CX dL_follows_265 rfl ?_
                refine z_ldc2 CX (v := -1) dL_follows_267 (wa_mem 774 (by decide +kernel) rfl) ?_
                refine z_lcmp CX dL_follows_270 ?_
                refine z_if_ne CX 303 dL_follows_271 (by decide) (fun _ => ?_) (fun q9 => absurd q9 (lcN (by omega)))
                refine z_aload_n CX 0 dL_follows_303 rfl rfl ?_
                refine z_iload CX dL_follows_304 rfl ?_
                refine z_iconst CX (v := 3) dL_follows_306 (by decide) ?_
                refine z_callSw CX hN dL_follows_307 csw_115 hE5 rfl rfl (Nat.le_of_ble_eq_true rfl) ⟨Nat.le_of_ble_eq_true rfl, Nat.le_of_ble_eq_true rfl⟩ ⟨by omega, by omega⟩ ?_
                refine z_ldc2 CX (v := 3) dL_follows_310 (wa_mem 775 (by decide +kernel) rfl) ?_
                refine z_lcmp CX dL_follows_313 ?_
                refine z_if_ne CX 370 dL_follows_314 (by decide) (fun q9 => absurd q9 (fun z9 => z9 ((lcE (a := 3) (b := 3) (by omega) (by omega)).mpr rfl))) (fun _ => ?_)
                refine z_aload_n CX 0 dL_follows_317 rfl rfl ?_
                refine z_callSw CX hN dL_follows_318 csw_174 hE6 rfl rfl (Nat.le_of_ble_eq_true rfl) ⟨Nat.le_of_ble_eq_true rfl, Nat.le_of_ble_eq_true rfl⟩ ⟨by omega, by omega⟩ ?_
                refine z_lconst CX (v := 0) dL_follows_321 (by decide) ?_
                refine z_lcmp CX dL_follows_322 ?_
                refine z_if_lt CX 370 dL_follows_323 (by decide) (fun q9 => absurd q9 (lc0 (by omega))) (fun _ => ?_)
                refine z_iload CX dL_follows_326 rfl ?_
                refine z_iconst CX (v := 1) dL_follows_328 (by decide) ?_
                refine z_icmp_eq CX 366 dL_follows_329 (by decide) (fun q9 => absurd q9 (fun z9 => hx0 (by have := (nI_eq (b := 1) (by omega) (by omega)).mp z9; omega))) (fun _ => ?_)
                refine z_aload_n CX 0 dL_follows_332 rfl rfl ?_
                refine z_iload CX dL_follows_333 rfl ?_
                refine z_iconst CX (v := 1) dL_follows_335 (by decide) ?_
                refine z_isub CX dL_follows_336 ?_
                refine z_stk (congrArg (fun q9 => [Value.int q9, Value.ref (wB w + k)]) ix) ?_
                refine z_callSw CX hN dL_follows_337 csw_137 hG4 rfl rfl (Nat.le_of_ble_eq_true rfl) ⟨Nat.le_of_ble_eq_true rfl, Nat.le_of_ble_eq_true rfl⟩ ⟨by omega, by omega⟩ ?_
                refine z_lconst CX (v := 0) dL_follows_340 (by decide) ?_
                refine z_lcmp CX dL_follows_341 ?_
                refine z_if_lt CX 370 dL_follows_342 (by decide) (fun q9 => absurd q9 (lc0 (by omega))) (fun _ => ?_)
                refine z_aload_n CX 0 dL_follows_345 rfl rfl ?_
                refine z_iload CX dL_follows_346 rfl ?_
                refine z_iconst CX (v := 3) dL_follows_348 (by decide) ?_
                refine z_callSw CX hN dL_follows_349 csw_115 hG5 rfl rfl (Nat.le_of_ble_eq_true rfl) ⟨Nat.le_of_ble_eq_true rfl, Nat.le_of_ble_eq_true rfl⟩ ⟨by omega, by omega⟩ ?_
                refine z_lconst CX (v := 1) dL_follows_352 (by decide) ?_
                refine z_lcmp CX dL_follows_353 ?_
                refine z_if_ne CX 370 dL_follows_354 (by decide) (fun q9 => absurd q9 (fun z9 => z9 ((lcE (a := 1) (b := 1) (by omega) (by omega)).mpr rfl))) (fun _ => ?_)
                refine z_aload_n CX 0 dL_follows_357 rfl rfl ?_
                refine z_callSw CX hN dL_follows_358 csw_174 hG6 rfl rfl (Nat.le_of_ble_eq_true rfl) ⟨Nat.le_of_ble_eq_true rfl, Nat.le_of_ble_eq_true rfl⟩ ⟨by omega, by omega⟩ ?_
                refine z_lconst CX (v := 0) dL_follows_361 (by decide) ?_
                refine z_lcmp CX dL_follows_362 ?_
                refine z_if_lt CX 370 dL_follows_363 (by decide) (fun q9 => absurd q9 (lc0 (by omega))) (fun _ => ?_)
                refine z_iconst CX (v := 1) dL_follows_366 (by decide) ?_
                refine z_goto CX 371 dL_follows_367 (by decide) ?_
                refine z_istore CX dL_follows_371 (by decide) ?_
                refine z_widen (k9 := 15) (n9 := 90) (by omega) (by omega) ?_
                refine z_loc [(0, .ref (wB w + k)), (1, .int (nI x9)), (2, .long (nowF (zsF σ))), (4, .int 1)] ⟨rfl, rfl, rfl, rfl, trivial⟩ ?_
                exact (K373 _ _ hσg hIg)
            · skip
              refine z_aload_n CX 0 dL_follows_150 rfl rfl ?_
              refine z_iload CX dL_follows_151 rfl ?_
              refine z_iconst CX (v := 3) dL_follows_153 (by decide) ?_
              refine z_callSw CX hN dL_follows_154 csw_115 qs rfl rfl (Nat.le_of_ble_eq_true rfl) ⟨Nat.le_of_ble_eq_true rfl, Nat.le_of_ble_eq_true rfl⟩ ⟨by omega, by omega⟩ ?_
              refine z_lconst CX (v := 1) dL_follows_157 (by decide) ?_
              refine z_lcmp CX dL_follows_158 ?_
              refine z_if_ne CX 373 dL_follows_159 (by decide) (fun q9 => absurd q9 (fun z9 => z9 ((lcE (a := 1) (b := 1) (by omega) (by omega)).mpr rfl))) (fun _ => ?_)
              refine z_iload CX dL_follows_162 rfl ?_
              refine z_if_eq CX 373 dL_follows_164 (by decide) (fun q9 => absurd q9 (by decide)) (fun _ => ?_)
              refine z_aload_n CX 0 dL_follows_167 rfl rfl ?_
              refine z_iload CX dL_follows_168 rfl ?_
              refine z_iconst CX (v := 0) dL_follows_170 (by decide) ?_
              refine z_callSw CX hN dL_follows_171 csw_143 hD1' rfl rfl (Nat.le_of_ble_eq_true rfl) ⟨Nat.le_of_ble_eq_true rfl, Nat.le_of_ble_eq_true rfl⟩ ⟨by omega, by omega⟩ ?_
              refine z_lstore CX dL_follows_174 (by decide) ?_
              refine z_aload_n CX 0 dL_follows_176 rfl rfl ?_
              refine z_iload CX dL_follows_177 rfl ?_
              refine z_iconst CX (v := 1) dL_follows_179 (by decide) ?_
              refine z_callSw CX hN dL_follows_180 csw_143 hD2' rfl rfl (Nat.le_of_ble_eq_true rfl) ⟨Nat.le_of_ble_eq_true rfl, Nat.le_of_ble_eq_true rfl⟩ ⟨by omega, by omega⟩ ?_
              refine z_lstore CX dL_follows_183 (by decide) ?_
              refine z_lload CX dL_follows_185 rfl ?_
              refine z_ldc2 CX (v := -1) dL_follows_187 (wa_mem 774 (by decide +kernel) rfl) ?_
              refine z_lcmp CX dL_follows_190 ?_
              refine z_if_ne CX 199 dL_follows_191 (by decide) (fun q9 => absurd q9 (fun z9 => z9 ((lg_cmp_eq _ _).mpr rfl))) (fun _ => ?_)
              refine z_lload CX dL_follows_194 rfl ?_
              refine z_goto CX 201 dL_follows_196 (by decide) ?_
              refine z_l2i CX dL_follows_201 (lN_32) ?_
              refine z_istore CX dL_follows_202 (by decide) ?_
              refine z_lload CX dL_follows_204 rfl ?_
              refine z_ldc2 CX (v := -1) dL_follows_206 (wa_mem 774 (by decide +kernel) rfl) ?_
              refine z_lcmp CX dL_follows_209 ?_
              refine z_if_ne CX 217 dL_follows_210 (by decide) (fun q9 => absurd q9 (fun z9 => z9 ((lg_cmp_eq _ _).mpr rfl))) (fun _ => ?_)
              refine z_iconst CX (v := 1) dL_follows_213 (by decide) ?_
              refine z_goto CX 218 dL_follows_214 (by decide) ?_
              refine z_lload CX dL_follows_218 rfl ?_
              refine z_ldc2 CX (v := -1) dL_follows_220 (wa_mem 774 (by decide +kernel) rfl) ?_
              refine z_lcmp CX dL_follows_223 ?_
              refine z_if_ne CX 231 dL_follows_224 (by decide) (fun _ => ?_) (fun q9 => absurd q9 (lcN (by omega)))
              refine z_iconst CX (v := 0) dL_follows_231 (by decide) ?_
              refine z_icmp_eq CX 239 dL_follows_232 (by decide) (fun q9 => absurd q9 (by decide)) (fun _ => ?_)
              refine z_iconst CX (v := 1) dL_follows_235 (by decide) ?_
              refine z_goto CX 240 dL_follows_236 (by decide) ?_
              refine z_istore CX dL_follows_240 (by decide) ?_
              refine z_iload CX dL_follows_242 rfl ?_
              refine z_bipush CX (v := 60) dL_follows_244 (by decide) ?_
              refine z_icmp_gt CX 373 dL_follows_246 (by decide) (fun _ => ?_) (fun q9 => absurd (nI_lt (a := 60) (by omega) (by omega)) q9)
              refine z_widen (k9 := 15) (n9 := 90) (by omega) (by omega) ?_
              refine z_loc [(0, .ref (wB w + k)), (1, .int (nI x9)), (2, .long (nowF (zsF σ))), (4, .int 1)] ⟨rfl, rfl, rfl, rfl, trivial⟩ ?_
              exact (K373 _ _ hσ5 hJ2)
          · rw [eiV_d h3 (by decide), l2m rfl] at hD2'
            rw [eiV_b h3 (by decide), nI_l (by omega)] at hD1'
            by_cases hn60 : x + 1 ≤ 60
            · skip
              obtain ⟨E4, E5, C3, e1, e2, u1, u2, hσe, hIe, hE4, hE5, hE6⟩ := minU (l := l) (n9 := x + 1) (b9 := b9) hJ2 hσ5 (by omega) hbm
              have e3 : (gms (bN (zsF σ)) (x + 1) (zsF σ)).2 (24 + 10 * b9 + 3) = (gtl (bN (zsF σ)) b9 94 (zsF σ)).2 (24 + 10 * b9 + 3) := by rw [v3]
              rcases v4 with v4 | v4 | v4
              · rw [l2l (show (gms (bN (zsF σ)) (x + 1) (zsF σ)).2 (24 + 10 * b9 + 3) = nI 0 from e3.trans v4) (by omega)] at hE5
                by_cases hx0 : x = 0
                · skip
                  refine z_aload_n CX 0 dL_follows_150 rfl rfl ?_
                  refine z_iload CX dL_follows_151 rfl ?_
                  refine z_iconst CX (v := 3) dL_follows_153 (by decide) ?_
                  refine z_callSw CX hN dL_follows_154 csw_115 qs rfl rfl (Nat.le_of_ble_eq_true rfl) ⟨Nat.le_of_ble_eq_true rfl, Nat.le_of_ble_eq_true rfl⟩ ⟨by omega, by omega⟩ ?_
                  refine z_lconst CX (v := 1) dL_follows_157 (by decide) ?_
                  refine z_lcmp CX dL_follows_158 ?_
                  refine z_if_ne CX 373 dL_follows_159 (by decide) (fun q9 => absurd q9 (fun z9 => z9 ((lcE (a := 1) (b := 1) (by omega) (by omega)).mpr rfl))) (fun _ => ?_)
                  refine z_iload CX dL_follows_162 rfl ?_
                  refine z_if_eq CX 373 dL_follows_164 (by decide) (fun q9 => absurd q9 (by decide)) (fun _ => ?_)
                  refine z_aload_n CX 0 dL_follows_167 rfl rfl ?_
                  refine z_iload CX dL_follows_168 rfl ?_
                  refine z_iconst CX (v := 0) dL_follows_170 (by decide) ?_
                  refine z_callSw CX hN dL_follows_171 csw_143 hD1' rfl rfl (Nat.le_of_ble_eq_true rfl) ⟨Nat.le_of_ble_eq_true rfl, Nat.le_of_ble_eq_true rfl⟩ ⟨by omega, by omega⟩ ?_
                  refine z_lstore CX dL_follows_174 (by decide) ?_
                  refine z_aload_n CX 0 dL_follows_176 rfl rfl ?_
                  refine z_iload CX dL_follows_177 rfl ?_
                  refine z_iconst CX (v := 1) dL_follows_179 (by decide) ?_
                  refine z_callSw CX hN dL_follows_180 csw_143 hD2' rfl rfl (Nat.le_of_ble_eq_true rfl) ⟨Nat.le_of_ble_eq_true rfl, Nat.le_of_ble_eq_true rfl⟩ ⟨by omega, by omega⟩ ?_
                  refine z_lstore CX dL_follows_183 (by decide) ?_
                  refine z_lload CX dL_follows_185 rfl ?_
                  refine z_ldc2 CX (v := -1) dL_follows_187 (wa_mem 774 (by decide +kernel) rfl) ?_
                  refine z_lcmp CX dL_follows_190 ?_
                  refine z_if_ne CX 199 dL_follows_191 (by decide) (fun _ => ?_) (fun q9 => absurd q9 (lcN (by omega)))
                  refine z_lload CX dL_follows_199 rfl ?_
                  refine z_l2i CX dL_follows_201 (lN_32) ?_
                  refine z_istore CX dL_follows_202 (by decide) ?_
                  refine z_lload CX dL_follows_204 rfl ?_
                  refine z_ldc2 CX (v := -1) dL_follows_206 (wa_mem 774 (by decide +kernel) rfl) ?_
                  refine z_lcmp CX dL_follows_209 ?_
                  refine z_if_ne CX 217 dL_follows_210 (by decide) (fun _ => ?_) (fun q9 => absurd q9 (lcN (by omega)))
                  refine z_iconst CX (v := 0) dL_follows_217 (by decide) ?_
                  refine z_lload CX dL_follows_218 rfl ?_
                  refine z_ldc2 CX (v := -1) dL_follows_220 (wa_mem 774 (by decide +kernel) rfl) ?_
                  refine z_lcmp CX dL_follows_223 ?_
                  refine z_if_ne CX 231 dL_follows_224 (by decide) (fun q9 => absurd q9 (fun z9 => z9 ((lg_cmp_eq _ _).mpr rfl))) (fun _ => ?_)
                  refine z_iconst CX (v := 1) dL_follows_227 (by decide) ?_
                  refine z_goto CX 232 dL_follows_228 (by decide) ?_
                  refine z_icmp_eq CX 239 dL_follows_232 (by decide) (fun q9 => absurd q9 (by decide)) (fun _ => ?_)
                  refine z_iconst CX (v := 1) dL_follows_235 (by decide) ?_
                  refine z_goto CX 240 dL_follows_236 (by decide) ?_
                  refine z_istore CX dL_follows_240 (by decide) ?_
                  refine z_iload CX dL_follows_242 rfl ?_
                  refine z_bipush CX (v := 60) dL_follows_244 (by decide) ?_
                  refine z_icmp_gt CX 373 dL_follows_246 (by decide) (fun q9 => absurd q9 (nI_nlt (a := 60) (b := x + 1) (by omega) (by omega))) (fun _ => ?_)
                  refine z_iload CX dL_follows_249 rfl ?_
                  refine z_if_eq CX 373 dL_follows_251 (by decide) (fun q9 => absurd q9 (by decide)) (fun _ => ?_)
                  refine z_aload_n CX 0 dL_follows_254 rfl rfl ?_
                  refine z_iload CX dL_follows_255 rfl ?_
                  refine z_callSw CX hN dL_follows_257 csw_137 hE4 rfl rfl (Nat.le_of_ble_eq_true rfl) ⟨Nat.le_of_ble_eq_true rfl, Nat.le_of_ble_eq_true rfl⟩ ⟨by omega, by omega⟩ ?_
                  refine z_lconst CX (v := 0) dL_follows_260 (by decide) ?_
                  refine z_lcmp CX dL_follows_261 ?_
                  refine z_if_lt CX 370 dL_follows_262 (by decide) (fun q9 => absurd q9 (lc0 (by omega))) (fun _ => ?_)
                  refine z_lload CX dL_follows_265 rfl ?_
                  refine z_ldc2 CX (v := -1) dL_follows_267 (wa_mem 774 (by decide +kernel) rfl) ?_
                  refine z_lcmp CX dL_follows_270 ?_
                  refine z_if_ne CX 303 dL_follows_271 (by decide) (fun q9 => absurd q9 (fun z9 => z9 ((lg_cmp_eq _ _).mpr rfl))) (fun _ => ?_)
                  refine z_aload_n CX 0 dL_follows_274 rfl rfl ?_
                  refine z_iload CX dL_follows_275 rfl ?_
                  refine z_iconst CX (v := 3) dL_follows_277 (by decide) ?_
                  refine z_callSw CX hN dL_follows_278 csw_115 hE5 rfl rfl (Nat.le_of_ble_eq_true rfl) ⟨Nat.le_of_ble_eq_true rfl, Nat.le_of_ble_eq_true rfl⟩ ⟨by omega, by omega⟩ ?_
                  refine z_ldc2 CX (v := 2) dL_follows_281 (wa_mem 780 (by decide +kernel) rfl) ?_
                  refine z_lcmp CX dL_follows_284 ?_
                  refine z_if_eq CX 317 dL_follows_285 (by decide) (fun q9 => absurd q9 (fun z9 => absurd ((lcE (a := 0) (b := 2) (by omega) (by omega)).mp z9) (by omega))) (fun _ => ?_)
                  refine z_aload_n CX 0 dL_follows_288 rfl rfl ?_
                  refine z_iload CX dL_follows_289 rfl ?_
                  refine z_iconst CX (v := 3) dL_follows_291 (by decide) ?_
                  refine z_callSw CX hN dL_follows_292 csw_115 hE5 rfl rfl (Nat.le_of_ble_eq_true rfl) ⟨Nat.le_of_ble_eq_true rfl, Nat.le_of_ble_eq_true rfl⟩ ⟨by omega, by omega⟩ ?_
                  refine z_lconst CX (v := 0) dL_follows_295 (by decide) ?_
                  refine z_lcmp CX dL_follows_296 ?_
                  refine z_if_ne CX 370 dL_follows_297 (by decide) (fun q9 => absurd q9 (fun z9 => z9 ((lcE (a := 0) (b := 0) (by omega) (by omega)).mpr rfl))) (fun _ => ?_)
                  refine z_goto CX 317 dL_follows_300 (by decide) ?_
                  refine z_aload_n CX 0 dL_follows_317 rfl rfl ?_
                  refine z_callSw CX hN dL_follows_318 csw_174 hE6 rfl rfl (Nat.le_of_ble_eq_true rfl) ⟨Nat.le_of_ble_eq_true rfl, Nat.le_of_ble_eq_true rfl⟩ ⟨by omega, by omega⟩ ?_
                  refine z_lconst CX (v := 0) dL_follows_321 (by decide) ?_
                  refine z_lcmp CX dL_follows_322 ?_
                  refine z_if_lt CX 370 dL_follows_323 (by decide) (fun q9 => absurd q9 (lc0 (by omega))) (fun _ => ?_)
                  refine z_iload CX dL_follows_326 rfl ?_
                  refine z_iconst CX (v := 1) dL_follows_328 (by decide) ?_
                  refine z_icmp_eq CX 366 dL_follows_329 (by decide) (fun _ => ?_) (fun q9 => absurd (by rw [hx0]; rfl) q9)
                  refine z_iconst CX (v := 1) dL_follows_366 (by decide) ?_
                  refine z_goto CX 371 dL_follows_367 (by decide) ?_
                  refine z_istore CX dL_follows_371 (by decide) ?_
                  refine z_widen (k9 := 15) (n9 := 90) (by omega) (by omega) ?_
                  refine z_loc [(0, .ref (wB w + k)), (1, .int (nI x9)), (2, .long (nowF (zsF σ))), (4, .int 1)] ⟨rfl, rfl, rfl, rfl, trivial⟩ ?_
                  exact (K373 _ _ hσe hIe)
                · skip
                  obtain ⟨G4, G5, D3, i1, i2, w1, w2, hσg, hIg, hG4, hG5, hG6⟩ := minU (l := l) (n9 := x) (b9 := b9) hIe hσe (by omega) hbm
                  rw [l2l (show (gms (bN (zsF σ)) x (zsF σ)).2 (24 + 10 * b9 + 3) = nI 1 from v5) (by omega)] at hG5
                  refine z_aload_n CX 0 dL_follows_150 rfl rfl ?_
                  refine z_iload CX dL_follows_151 rfl ?_
                  refine z_iconst CX (v := 3) dL_follows_153 (by decide) ?_
                  refine z_callSw CX hN dL_follows_154 csw_115 qs rfl rfl (Nat.le_of_ble_eq_true rfl) ⟨Nat.le_of_ble_eq_true rfl, Nat.le_of_ble_eq_true rfl⟩ ⟨by omega, by omega⟩ ?_
                  refine z_lconst CX (v := 1) dL_follows_157 (by decide) ?_
                  refine z_lcmp CX dL_follows_158 ?_
                  refine z_if_ne CX 373 dL_follows_159 (by decide) (fun q9 => absurd q9 (fun z9 => z9 ((lcE (a := 1) (b := 1) (by omega) (by omega)).mpr rfl))) (fun _ => ?_)
                  refine z_iload CX dL_follows_162 rfl ?_
                  refine z_if_eq CX 373 dL_follows_164 (by decide) (fun q9 => absurd q9 (by decide)) (fun _ => ?_)
                  refine z_aload_n CX 0 dL_follows_167 rfl rfl ?_
                  refine z_iload CX dL_follows_168 rfl ?_
                  refine z_iconst CX (v := 0) dL_follows_170 (by decide) ?_
                  refine z_callSw CX hN dL_follows_171 csw_143 hD1' rfl rfl (Nat.le_of_ble_eq_true rfl) ⟨Nat.le_of_ble_eq_true rfl, Nat.le_of_ble_eq_true rfl⟩ ⟨by omega, by omega⟩ ?_
                  refine z_lstore CX dL_follows_174 (by decide) ?_
                  refine z_aload_n CX 0 dL_follows_176 rfl rfl ?_
                  refine z_iload CX dL_follows_177 rfl ?_
                  refine z_iconst CX (v := 1) dL_follows_179 (by decide) ?_
                  refine z_callSw CX hN dL_follows_180 csw_143 hD2' rfl rfl (Nat.le_of_ble_eq_true rfl) ⟨Nat.le_of_ble_eq_true rfl, Nat.le_of_ble_eq_true rfl⟩ ⟨by omega, by omega⟩ ?_
                  refine z_lstore CX dL_follows_183 (by decide) ?_
                  refine z_lload CX dL_follows_185 rfl ?_
                  refine z_ldc2 CX (v := -1) dL_follows_187 (wa_mem 774 (by decide +kernel) rfl) ?_
                  refine z_lcmp CX dL_follows_190 ?_
                  refine z_if_ne CX 199 dL_follows_191 (by decide) (fun _ => ?_) (fun q9 => absurd q9 (lcN (by omega)))
                  refine z_lload CX dL_follows_199 rfl ?_
                  refine z_l2i CX dL_follows_201 (lN_32) ?_
                  refine z_istore CX dL_follows_202 (by decide) ?_
                  refine z_lload CX dL_follows_204 rfl ?_
                  refine z_ldc2 CX (v := -1) dL_follows_206 (wa_mem 774 (by decide +kernel) rfl) ?_
                  refine z_lcmp CX dL_follows_209 ?_
                  refine z_if_ne CX 217 dL_follows_210 (by decide) (fun _ => ?_) (fun q9 => absurd q9 (lcN (by omega)))
                  refine z_iconst CX (v := 0) dL_follows_217 (by decide) ?_
                  refine z_lload CX dL_follows_218 rfl ?_
                  refine z_ldc2 CX (v := -1) dL_follows_220 (wa_mem 774 (by decide +kernel) rfl) ?_
                  refine z_lcmp CX dL_follows_223 ?_
                  refine z_if_ne CX 231 dL_follows_224 (by decide) (fun q9 => absurd q9 (fun z9 => z9 ((lg_cmp_eq _ _).mpr rfl))) (fun _ => ?_)
                  refine z_iconst CX (v := 1) dL_follows_227 (by decide) ?_
                  refine z_goto CX 232 dL_follows_228 (by decide) ?_
                  refine z_icmp_eq CX 239 dL_follows_232 (by decide) (fun q9 => absurd q9 (by decide)) (fun _ => ?_)
                  refine z_iconst CX (v := 1) dL_follows_235 (by decide) ?_
                  refine z_goto CX 240 dL_follows_236 (by decide) ?_
                  refine z_istore CX dL_follows_240 (by decide) ?_
                  refine z_iload CX dL_follows_242 rfl ?_
                  refine z_bipush CX (v := 60) dL_follows_244 (by decide) ?_
                  refine z_icmp_gt CX 373 dL_follows_246 (by decide) (fun q9 => absurd q9 (nI_nlt (a := 60) (b := x + 1) (by omega) (by omega))) (fun _ => ?_)
                  refine z_iload CX dL_follows_249 rfl ?_
                  refine z_if_eq CX 373 dL_follows_251 (by decide) (fun q9 => absurd q9 (by decide)) (fun _ => ?_)
                  refine z_aload_n CX 0 dL_follows_254 rfl rfl ?_
                  refine z_iload CX dL_follows_255 rfl ?_
                  refine z_callSw CX hN dL_follows_257 csw_137 hE4 rfl rfl (Nat.le_of_ble_eq_true rfl) ⟨Nat.le_of_ble_eq_true rfl, Nat.le_of_ble_eq_true rfl⟩ ⟨by omega, by omega⟩ ?_
                  refine z_lconst CX (v := 0) dL_follows_260 (by decide) ?_
                  refine z_lcmp CX dL_follows_261 ?_
                  refine z_if_lt CX 370 dL_follows_262 (by decide) (fun q9 => absurd q9 (lc0 (by omega))) (fun _ => ?_)
                  refine z_lload CX dL_follows_265 rfl ?_
                  refine z_ldc2 CX (v := -1) dL_follows_267 (wa_mem 774 (by decide +kernel) rfl) ?_
                  refine z_lcmp CX dL_follows_270 ?_
                  refine z_if_ne CX 303 dL_follows_271 (by decide) (fun q9 => absurd q9 (fun z9 => z9 ((lg_cmp_eq _ _).mpr rfl))) (fun _ => ?_)
                  refine z_aload_n CX 0 dL_follows_274 rfl rfl ?_
                  refine z_iload CX dL_follows_275 rfl ?_
                  refine z_iconst CX (v := 3) dL_follows_277 (by decide) ?_
                  refine z_callSw CX hN dL_follows_278 csw_115 hE5 rfl rfl (Nat.le_of_ble_eq_true rfl) ⟨Nat.le_of_ble_eq_true rfl, Nat.le_of_ble_eq_true rfl⟩ ⟨by omega, by omega⟩ ?_
                  refine z_ldc2 CX (v := 2) dL_follows_281 (wa_mem 780 (by decide +kernel) rfl) ?_
                  refine z_lcmp CX dL_follows_284 ?_
                  refine z_if_eq CX 317 dL_follows_285 (by decide) (fun q9 => absurd q9 (fun z9 => absurd ((lcE (a := 0) (b := 2) (by omega) (by omega)).mp z9) (by omega))) (fun _ => ?_)
                  refine z_aload_n CX 0 dL_follows_288 rfl rfl ?_
                  refine z_iload CX dL_follows_289 rfl ?_
                  refine z_iconst CX (v := 3) dL_follows_291 (by decide) ?_
                  refine z_callSw CX hN dL_follows_292 csw_115 hE5 rfl rfl (Nat.le_of_ble_eq_true rfl) ⟨Nat.le_of_ble_eq_true rfl, Nat.le_of_ble_eq_true rfl⟩ ⟨by omega, by omega⟩ ?_
                  refine z_lconst CX (v := 0) dL_follows_295 (by decide) ?_
                  refine z_lcmp CX dL_follows_296 ?_
                  refine z_if_ne CX 370 dL_follows_297 (by decide) (fun q9 => absurd q9 (fun z9 => z9 ((lcE (a := 0) (b := 0) (by omega) (by omega)).mpr rfl))) (fun _ => ?_)
                  refine z_goto CX 317 dL_follows_300 (by decide) ?_
                  refine z_aload_n CX 0 dL_follows_317 rfl rfl ?_
                  refine z_callSw CX hN dL_follows_318 csw_174 hE6 rfl rfl (Nat.le_of_ble_eq_true rfl) ⟨Nat.le_of_ble_eq_true rfl, Nat.le_of_ble_eq_true rfl⟩ ⟨by omega, by omega⟩ ?_
                  refine z_lconst CX (v := 0) dL_follows_321 (by decide) ?_
                  refine z_lcmp CX dL_follows_322 ?_
                  refine z_if_lt CX 370 dL_follows_323 (by decide) (fun q9 => absurd q9 (lc0 (by omega))) (fun _ => ?_)
                  refine z_iload CX dL_follows_326 rfl ?_
                  refine z_iconst CX (v := 1) dL_follows_328 (by decide) ?_
                  refine z_icmp_eq CX 366 dL_follows_329 (by decide) (fun q9 => absurd q9 (fun z9 => hx0 (by have := (nI_eq (b := 1) (by omega) (by omega)).mp z9; omega))) (fun _ => ?_)
                  refine z_aload_n CX 0 dL_follows_332 rfl rfl ?_
                  refine z_iload CX dL_follows_333 rfl ?_
                  refine z_iconst CX (v := 1) dL_follows_335 (by decide) ?_
                  refine z_isub CX dL_follows_336 ?_
                  refine z_stk (congrArg (fun q9 => [Value.int q9, Value.ref (wB w + k)]) ix) ?_
                  refine z_callSw CX hN dL_follows_337 csw_137 hG4 rfl rfl (Nat.le_of_ble_eq_true rfl) ⟨Nat.le_of_ble_eq_true rfl, Nat.le_of_ble_eq_true rfl⟩ ⟨by omega, by omega⟩ ?_
                  refine z_lconst CX (v := 0) dL_follows_340 (by decide) ?_
                  refine z_lcmp CX dL_follows_341 ?_
                  refine z_if_lt CX 370 dL_follows_342 (by decide) (fun q9 => absurd q9 (lc0 (by omega))) (fun _ => ?_)
                  refine z_aload_n CX 0 dL_follows_345 rfl rfl ?_
                  refine z_iload CX dL_follows_346 rfl ?_
                  refine z_iconst CX (v := 3) dL_follows_348 (by decide) ?_
                  refine z_callSw CX hN dL_follows_349 csw_115 hG5 rfl rfl (Nat.le_of_ble_eq_true rfl) ⟨Nat.le_of_ble_eq_true rfl, Nat.le_of_ble_eq_true rfl⟩ ⟨by omega, by omega⟩ ?_
                  refine z_lconst CX (v := 1) dL_follows_352 (by decide) ?_
                  refine z_lcmp CX dL_follows_353 ?_
                  refine z_if_ne CX 370 dL_follows_354 (by decide) (fun q9 => absurd q9 (fun z9 => z9 ((lcE (a := 1) (b := 1) (by omega) (by omega)).mpr rfl))) (fun _ => ?_)
                  refine z_aload_n CX 0 dL_follows_357 rfl rfl ?_
                  refine z_callSw CX hN dL_follows_358 csw_174 hG6 rfl rfl (Nat.le_of_ble_eq_true rfl) ⟨Nat.le_of_ble_eq_true rfl, Nat.le_of_ble_eq_true rfl⟩ ⟨by omega, by omega⟩ ?_
                  refine z_lconst CX (v := 0) dL_follows_361 (by decide) ?_
                  refine z_lcmp CX dL_follows_362 ?_
                  refine z_if_lt CX 370 dL_follows_363 (by decide) (fun q9 => absurd q9 (lc0 (by omega))) (fun _ => ?_)
                  refine z_iconst CX (v := 1) dL_follows_366 (by decide) ?_
                  refine z_goto CX 371 dL_follows_367 (by decide) ?_
                  refine z_istore CX dL_follows_371 (by decide) ?_
                  refine z_widen (k9 := 15) (n9 := 90) (by omega) (by omega) ?_
                  refine z_loc [(0, .ref (wB w + k)), (1, .int (nI x9)), (2, .long (nowF (zsF σ))), (4, .int 1)] ⟨rfl, rfl, rfl, rfl, trivial⟩ ?_
                  exact (K373 _ _ hσg hIg)
              · rw [l2l (show (gms (bN (zsF σ)) (x + 1) (zsF σ)).2 (24 + 10 * b9 + 3) = nI 2 from e3.trans v4) (by omega)] at hE5
                by_cases hx0 : x = 0
                · skip
                  refine z_aload_n CX 0 dL_follows_150 rfl rfl ?_
                  refine z_iload CX dL_follows_151 rfl ?_
                  refine z_iconst CX (v := 3) dL_follows_153 (by decide) ?_
                  refine z_callSw CX hN dL_follows_154 csw_115 qs rfl rfl (Nat.le_of_ble_eq_true rfl) ⟨Nat.le_of_ble_eq_true rfl, Nat.le_of_ble_eq_true rfl⟩ ⟨by omega, by omega⟩ ?_
                  refine z_lconst CX (v := 1) dL_follows_157 (by decide) ?_
                  refine z_lcmp CX dL_follows_158 ?_
                  refine z_if_ne CX 373 dL_follows_159 (by decide) (fun q9 => absurd q9 (fun z9 => z9 ((lcE (a := 1) (b := 1) (by omega) (by omega)).mpr rfl))) (fun _ => ?_)
                  refine z_iload CX dL_follows_162 rfl ?_
                  refine z_if_eq CX 373 dL_follows_164 (by decide) (fun q9 => absurd q9 (by decide)) (fun _ => ?_)
                  refine z_aload_n CX 0 dL_follows_167 rfl rfl ?_
                  refine z_iload CX dL_follows_168 rfl ?_
                  refine z_iconst CX (v := 0) dL_follows_170 (by decide) ?_
                  refine z_callSw CX hN dL_follows_171 csw_143 hD1' rfl rfl (Nat.le_of_ble_eq_true rfl) ⟨Nat.le_of_ble_eq_true rfl, Nat.le_of_ble_eq_true rfl⟩ ⟨by omega, by omega⟩ ?_
                  refine z_lstore CX dL_follows_174 (by decide) ?_
                  refine z_aload_n CX 0 dL_follows_176 rfl rfl ?_
                  refine z_iload CX dL_follows_177 rfl ?_
                  refine z_iconst CX (v := 1) dL_follows_179 (by decide) ?_
                  refine z_callSw CX hN dL_follows_180 csw_143 hD2' rfl rfl (Nat.le_of_ble_eq_true rfl) ⟨Nat.le_of_ble_eq_true rfl, Nat.le_of_ble_eq_true rfl⟩ ⟨by omega, by omega⟩ ?_
                  refine z_lstore CX dL_follows_183 (by decide) ?_
                  refine z_lload CX dL_follows_185 rfl ?_
                  refine z_ldc2 CX (v := -1) dL_follows_187 (wa_mem 774 (by decide +kernel) rfl) ?_
                  refine z_lcmp CX dL_follows_190 ?_
                  refine z_if_ne CX 199 dL_follows_191 (by decide) (fun _ => ?_) (fun q9 => absurd q9 (lcN (by omega)))
                  refine z_lload CX dL_follows_199 rfl ?_
                  refine z_l2i CX dL_follows_201 (lN_32) ?_
                  refine z_istore CX dL_follows_202 (by decide) ?_
                  refine z_lload CX dL_follows_204 rfl ?_
                  refine z_ldc2 CX (v := -1) dL_follows_206 (wa_mem 774 (by decide +kernel) rfl) ?_
                  refine z_lcmp CX dL_follows_209 ?_
                  refine z_if_ne CX 217 dL_follows_210 (by decide) (fun _ => ?_) (fun q9 => absurd q9 (lcN (by omega)))
                  refine z_iconst CX (v := 0) dL_follows_217 (by decide) ?_
                  refine z_lload CX dL_follows_218 rfl ?_
                  refine z_ldc2 CX (v := -1) dL_follows_220 (wa_mem 774 (by decide +kernel) rfl) ?_
                  refine z_lcmp CX dL_follows_223 ?_
                  refine z_if_ne CX 231 dL_follows_224 (by decide) (fun q9 => absurd q9 (fun z9 => z9 ((lg_cmp_eq _ _).mpr rfl))) (fun _ => ?_)
                  refine z_iconst CX (v := 1) dL_follows_227 (by decide) ?_
                  refine z_goto CX 232 dL_follows_228 (by decide) ?_
                  refine z_icmp_eq CX 239 dL_follows_232 (by decide) (fun q9 => absurd q9 (by decide)) (fun _ => ?_)
                  refine z_iconst CX (v := 1) dL_follows_235 (by decide) ?_
                  refine z_goto CX 240 dL_follows_236 (by decide) ?_
                  refine z_istore CX dL_follows_240 (by decide) ?_
                  refine z_iload CX dL_follows_242 rfl ?_
                  refine z_bipush CX (v := 60) dL_follows_244 (by decide) ?_
                  refine z_icmp_gt CX 373 dL_follows_246 (by decide) (fun q9 => absurd q9 (nI_nlt (a := 60) (b := x + 1) (by omega) (by omega))) (fun _ => ?_)
                  refine z_iload CX dL_follows_249 rfl ?_
                  refine z_if_eq CX 373 dL_follows_251 (by decide) (fun q9 => absurd q9 (by decide)) (fun _ => ?_)
                  refine z_aload_n CX 0 dL_follows_254 rfl rfl ?_
                  refine z_iload CX dL_follows_255 rfl ?_
                  refine z_callSw CX hN dL_follows_257 csw_137 hE4 rfl rfl (Nat.le_of_ble_eq_true rfl) ⟨Nat.le_of_ble_eq_true rfl, Nat.le_of_ble_eq_true rfl⟩ ⟨by omega, by omega⟩ ?_
                  refine z_lconst CX (v := 0) dL_follows_260 (by decide) ?_
                  refine z_lcmp CX dL_follows_261 ?_
                  refine z_if_lt CX 370 dL_follows_262 (by decide) (fun q9 => absurd q9 (lc0 (by omega))) (fun _ => ?_)
                  refine z_lload CX dL_follows_265 rfl ?_
                  refine z_ldc2 CX (v := -1) dL_follows_267 (wa_mem 774 (by decide +kernel) rfl) ?_
                  refine z_lcmp CX dL_follows_270 ?_
                  refine z_if_ne CX 303 dL_follows_271 (by decide) (fun q9 => absurd q9 (fun z9 => z9 ((lg_cmp_eq _ _).mpr rfl))) (fun _ => ?_)
                  refine z_aload_n CX 0 dL_follows_274 rfl rfl ?_
                  refine z_iload CX dL_follows_275 rfl ?_
                  refine z_iconst CX (v := 3) dL_follows_277 (by decide) ?_
                  refine z_callSw CX hN dL_follows_278 csw_115 hE5 rfl rfl (Nat.le_of_ble_eq_true rfl) ⟨Nat.le_of_ble_eq_true rfl, Nat.le_of_ble_eq_true rfl⟩ ⟨by omega, by omega⟩ ?_
                  refine z_ldc2 CX (v := 2) dL_follows_281 (wa_mem 780 (by decide +kernel) rfl) ?_
                  refine z_lcmp CX dL_follows_284 ?_
                  refine z_if_eq CX 317 dL_follows_285 (by decide) (fun _ => ?_) (fun q9 => absurd ((lcE (a := 2) (b := 2) (by omega) (by omega)).mpr rfl) q9)
                  refine z_aload_n CX 0 dL_follows_317 rfl rfl ?_
                  refine z_callSw CX hN dL_follows_318 csw_174 hE6 rfl rfl (Nat.le_of_ble_eq_true rfl) ⟨Nat.le_of_ble_eq_true rfl, Nat.le_of_ble_eq_true rfl⟩ ⟨by omega, by omega⟩ ?_
                  refine z_lconst CX (v := 0) dL_follows_321 (by decide) ?_
                  refine z_lcmp CX dL_follows_322 ?_
                  refine z_if_lt CX 370 dL_follows_323 (by decide) (fun q9 => absurd q9 (lc0 (by omega))) (fun _ => ?_)
                  refine z_iload CX dL_follows_326 rfl ?_
                  refine z_iconst CX (v := 1) dL_follows_328 (by decide) ?_
                  refine z_icmp_eq CX 366 dL_follows_329 (by decide) (fun _ => ?_) (fun q9 => absurd (by rw [hx0]; rfl) q9)
                  refine z_iconst CX (v := 1) dL_follows_366 (by decide) ?_
                  refine z_goto CX 371 dL_follows_367 (by decide) ?_
                  refine z_istore CX dL_follows_371 (by decide) ?_
                  refine z_widen (k9 := 15) (n9 := 90) (by omega) (by omega) ?_
                  refine z_loc [(0, .ref (wB w + k)), (1, .int (nI x9)), (2, .long (nowF (zsF σ))), (4, .int 1)] ⟨rfl, rfl, rfl, rfl, trivial⟩ ?_
                  exact (K373 _ _ hσe hIe)
                · skip
                  obtain ⟨G4, G5, D3, i1, i2, w1, w2, hσg, hIg, hG4, hG5, hG6⟩ := minU (l := l) (n9 := x) (b9 := b9) hIe hσe (by omega) hbm
                  rw [l2l (show (gms (bN (zsF σ)) x (zsF σ)).2 (24 + 10 * b9 + 3) = nI 1 from v5) (by omega)] at hG5
                  refine z_aload_n CX 0 dL_follows_150 rfl rfl ?_
                  refine z_iload CX dL_follows_151 rfl ?_
                  refine z_iconst CX (v := 3) dL_follows_153 (by decide) ?_
                  refine z_callSw CX hN dL_follows_154 csw_115 qs rfl rfl (Nat.le_of_ble_eq_true rfl) ⟨Nat.le_of_ble_eq_true rfl, Nat.le_of_ble_eq_true rfl⟩ ⟨by omega, by omega⟩ ?_
                  refine z_lconst CX (v := 1) dL_follows_157 (by decide) ?_
                  refine z_lcmp CX dL_follows_158 ?_
                  refine z_if_ne CX 373 dL_follows_159 (by decide) (fun q9 => absurd q9 (fun z9 => z9 ((lcE (a := 1) (b := 1) (by omega) (by omega)).mpr rfl))) (fun _ => ?_)
                  refine z_iload CX dL_follows_162 rfl ?_
                  refine z_if_eq CX 373 dL_follows_164 (by decide) (fun q9 => absurd q9 (by decide)) (fun _ => ?_)
                  refine z_aload_n CX 0 dL_follows_167 rfl rfl ?_
                  refine z_iload CX dL_follows_168 rfl ?_
                  refine z_iconst CX (v := 0) dL_follows_170 (by decide) ?_
                  refine z_callSw CX hN dL_follows_171 csw_143 hD1' rfl rfl (Nat.le_of_ble_eq_true rfl) ⟨Nat.le_of_ble_eq_true rfl, Nat.le_of_ble_eq_true rfl⟩ ⟨by omega, by omega⟩ ?_
                  refine z_lstore CX dL_follows_174 (by decide) ?_
                  refine z_aload_n CX 0 dL_follows_176 rfl rfl ?_
                  refine z_iload CX dL_follows_177 rfl ?_
                  refine z_iconst CX (v := 1) dL_follows_179 (by decide) ?_
                  refine z_callSw CX hN dL_follows_180 csw_143 hD2' rfl rfl (Nat.le_of_ble_eq_true rfl) ⟨Nat.le_of_ble_eq_true rfl, Nat.le_of_ble_eq_true rfl⟩ ⟨by omega, by omega⟩ ?_
                  refine z_lstore CX dL_follows_183 (by decide) ?_
                  refine z_lload CX dL_follows_185 rfl ?_
                  refine z_ldc2 CX (v := -1) dL_follows_187 (wa_mem 774 (by decide +kernel) rfl) ?_
                  refine z_lcmp CX dL_follows_190 ?_
                  refine z_if_ne CX 199 dL_follows_191 (by decide) (fun _ => ?_) (fun q9 => absurd q9 (lcN (by omega)))
                  refine z_lload CX dL_follows_199 rfl ?_
                  refine z_l2i CX dL_follows_201 (lN_32) ?_
                  refine z_istore CX dL_follows_202 (by decide) ?_
                  refine z_lload CX dL_follows_204 rfl ?_
                  refine z_ldc2 CX (v := -1) dL_follows_206 (wa_mem 774 (by decide +kernel) rfl) ?_
                  refine z_lcmp CX dL_follows_209 ?_
                  refine z_if_ne CX 217 dL_follows_210 (by decide) (fun _ => ?_) (fun q9 => absurd q9 (lcN (by omega)))
                  refine z_iconst CX (v := 0) dL_follows_217 (by decide) ?_
                  refine z_lload CX dL_follows_218 rfl ?_
                  refine z_ldc2 CX (v := -1) dL_follows_220 (wa_mem 774 (by decide +kernel) rfl) ?_
                  refine z_lcmp CX dL_follows_223 ?_
                  refine z_if_ne CX 231 dL_follows_224 (by decide) (fun q9 => absurd q9 (fun z9 => z9 ((lg_cmp_eq _ _).mpr rfl))) (fun _ => ?_)
                  refine z_iconst CX (v := 1) dL_follows_227 (by decide) ?_
                  refine z_goto CX 232 dL_follows_228 (by decide) ?_
                  refine z_icmp_eq CX 239 dL_follows_232 (by decide) (fun q9 => absurd q9 (by decide)) (fun _ => ?_)
                  refine z_iconst CX (v := 1) dL_follows_235 (by decide) ?_
                  refine z_goto CX 240 dL_follows_236 (by decide) ?_
                  refine z_istore CX dL_follows_240 (by decide) ?_
                  refine z_iload CX dL_follows_242 rfl ?_
                  refine z_bipush CX (v := 60) dL_follows_244 (by decide) ?_
                  refine z_icmp_gt CX 373 dL_follows_246 (by decide) (fun q9 => absurd q9 (nI_nlt (a := 60) (b := x + 1) (by omega) (by omega))) (fun _ => ?_)
                  refine z_iload CX dL_follows_249 rfl ?_
                  refine z_if_eq CX 373 dL_follows_251 (by decide) (fun q9 => absurd q9 (by decide)) (fun _ => ?_)
                  refine z_aload_n CX 0 dL_follows_254 rfl rfl ?_
                  refine z_iload CX dL_follows_255 rfl ?_
                  refine z_callSw CX hN dL_follows_257 csw_137 hE4 rfl rfl (Nat.le_of_ble_eq_true rfl) ⟨Nat.le_of_ble_eq_true rfl, Nat.le_of_ble_eq_true rfl⟩ ⟨by omega, by omega⟩ ?_
                  refine z_lconst CX (v := 0) dL_follows_260 (by decide) ?_
                  refine z_lcmp CX dL_follows_261 ?_
                  refine z_if_lt CX 370 dL_follows_262 (by decide) (fun q9 => absurd q9 (lc0 (by omega))) (fun _ => ?_)
                  refine z_lload CX dL_follows_265 rfl ?_
                  refine z_ldc2 CX (v := -1) dL_follows_267 (wa_mem 774 (by decide +kernel) rfl) ?_
                  refine z_lcmp CX dL_follows_270 ?_
                  refine z_if_ne CX 303 dL_follows_271 (by decide) (fun q9 => absurd q9 (fun z9 => z9 ((lg_cmp_eq _ _).mpr rfl))) (fun _ => ?_)
                  refine z_aload_n CX 0 dL_follows_274 rfl rfl ?_
                  refine z_iload CX dL_follows_275 rfl ?_
                  refine z_iconst CX (v := 3) dL_follows_277 (by decide) ?_
                  refine z_callSw CX hN dL_follows_278 csw_115 hE5 rfl rfl (Nat.le_of_ble_eq_true rfl) ⟨Nat.le_of_ble_eq_true rfl, Nat.le_of_ble_eq_true rfl⟩ ⟨by omega, by omega⟩ ?_
                  refine z_ldc2 CX (v := 2) dL_follows_281 (wa_mem 780 (by decide +kernel) rfl) ?_
                  refine z_lcmp CX dL_follows_284 ?_
                  refine z_if_eq CX 317 dL_follows_285 (by decide) (fun _ => ?_) (fun q9 => absurd ((lcE (a := 2) (b := 2) (by omega) (by omega)).mpr rfl) q9)
                  refine z_aload_n CX 0 dL_follows_317 rfl rfl ?_
                  refine z_callSw CX hN dL_follows_318 csw_174 hE6 rfl rfl (Nat.le_of_ble_eq_true rfl) ⟨Nat.le_of_ble_eq_true rfl, Nat.le_of_ble_eq_true rfl⟩ ⟨by omega, by omega⟩ ?_
                  refine z_lconst CX (v := 0) dL_follows_321 (by decide) ?_
                  refine z_lcmp CX dL_follows_322 ?_
                  refine z_if_lt CX 370 dL_follows_323 (by decide) (fun q9 => absurd q9 (lc0 (by omega))) (fun _ => ?_)
                  refine z_iload CX dL_follows_326 rfl ?_
                  refine z_iconst CX (v := 1) dL_follows_328 (by decide) ?_
                  refine z_icmp_eq CX 366 dL_follows_329 (by decide) (fun q9 => absurd q9 (fun z9 => hx0 (by have := (nI_eq (b := 1) (by omega) (by omega)).mp z9; omega))) (fun _ => ?_)
                  refine z_aload_n CX 0 dL_follows_332 rfl rfl ?_
                  refine z_iload CX dL_follows_333 rfl ?_
                  refine z_iconst CX (v := 1) dL_follows_335 (by decide) ?_
                  refine z_isub CX dL_follows_336 ?_
                  refine z_stk (congrArg (fun q9 => [Value.int q9, Value.ref (wB w + k)]) ix) ?_
                  refine z_callSw CX hN dL_follows_337 csw_137 hG4 rfl rfl (Nat.le_of_ble_eq_true rfl) ⟨Nat.le_of_ble_eq_true rfl, Nat.le_of_ble_eq_true rfl⟩ ⟨by omega, by omega⟩ ?_
                  refine z_lconst CX (v := 0) dL_follows_340 (by decide) ?_
                  refine z_lcmp CX dL_follows_341 ?_
                  refine z_if_lt CX 370 dL_follows_342 (by decide) (fun q9 => absurd q9 (lc0 (by omega))) (fun _ => ?_)
                  refine z_aload_n CX 0 dL_follows_345 rfl rfl ?_
                  refine z_iload CX dL_follows_346 rfl ?_
                  refine z_iconst CX (v := 3) dL_follows_348 (by decide) ?_
                  refine z_callSw CX hN dL_follows_349 csw_115 hG5 rfl rfl (Nat.le_of_ble_eq_true rfl) ⟨Nat.le_of_ble_eq_true rfl, Nat.le_of_ble_eq_true rfl⟩ ⟨by omega, by omega⟩ ?_
                  refine z_lconst CX (v := 1) dL_follows_352 (by decide) ?_
                  refine z_lcmp CX dL_follows_353 ?_
                  refine z_if_ne CX 370 dL_follows_354 (by decide) (fun q9 => absurd q9 (fun z9 => z9 ((lcE (a := 1) (b := 1) (by omega) (by omega)).mpr rfl))) (fun _ => ?_)
                  refine z_aload_n CX 0 dL_follows_357 rfl rfl ?_
                  refine z_callSw CX hN dL_follows_358 csw_174 hG6 rfl rfl (Nat.le_of_ble_eq_true rfl) ⟨Nat.le_of_ble_eq_true rfl, Nat.le_of_ble_eq_true rfl⟩ ⟨by omega, by omega⟩ ?_
                  refine z_lconst CX (v := 0) dL_follows_361 (by decide) ?_
                  refine z_lcmp CX dL_follows_362 ?_
                  refine z_if_lt CX 370 dL_follows_363 (by decide) (fun q9 => absurd q9 (lc0 (by omega))) (fun _ => ?_)
                  refine z_iconst CX (v := 1) dL_follows_366 (by decide) ?_
                  refine z_goto CX 371 dL_follows_367 (by decide) ?_
                  refine z_istore CX dL_follows_371 (by decide) ?_
                  refine z_widen (k9 := 15) (n9 := 90) (by omega) (by omega) ?_
                  refine z_loc [(0, .ref (wB w + k)), (1, .int (nI x9)), (2, .long (nowF (zsF σ))), (4, .int 1)] ⟨rfl, rfl, rfl, rfl, trivial⟩ ?_
                  exact (K373 _ _ hσg hIg)
              · exact absurd v4 h3
            · skip
              refine z_aload_n CX 0 dL_follows_150 rfl rfl ?_
              refine z_iload CX dL_follows_151 rfl ?_
              refine z_iconst CX (v := 3) dL_follows_153 (by decide) ?_
              refine z_callSw CX hN dL_follows_154 csw_115 qs rfl rfl (Nat.le_of_ble_eq_true rfl) ⟨Nat.le_of_ble_eq_true rfl, Nat.le_of_ble_eq_true rfl⟩ ⟨by omega, by omega⟩ ?_
              refine z_lconst CX (v := 1) dL_follows_157 (by decide) ?_
              refine z_lcmp CX dL_follows_158 ?_
              refine z_if_ne CX 373 dL_follows_159 (by decide) (fun q9 => absurd q9 (fun z9 => z9 ((lcE (a := 1) (b := 1) (by omega) (by omega)).mpr rfl))) (fun _ => ?_)
              refine z_iload CX dL_follows_162 rfl ?_
              refine z_if_eq CX 373 dL_follows_164 (by decide) (fun q9 => absurd q9 (by decide)) (fun _ => ?_)
              refine z_aload_n CX 0 dL_follows_167 rfl rfl ?_
              refine z_iload CX dL_follows_168 rfl ?_
              refine z_iconst CX (v := 0) dL_follows_170 (by decide) ?_
              refine z_callSw CX hN dL_follows_171 csw_143 hD1' rfl rfl (Nat.le_of_ble_eq_true rfl) ⟨Nat.le_of_ble_eq_true rfl, Nat.le_of_ble_eq_true rfl⟩ ⟨by omega, by omega⟩ ?_
              refine z_lstore CX dL_follows_174 (by decide) ?_
              refine z_aload_n CX 0 dL_follows_176 rfl rfl ?_
              refine z_iload CX dL_follows_177 rfl ?_
              refine z_iconst CX (v := 1) dL_follows_179 (by decide) ?_
              refine z_callSw CX hN dL_follows_180 csw_143 hD2' rfl rfl (Nat.le_of_ble_eq_true rfl) ⟨Nat.le_of_ble_eq_true rfl, Nat.le_of_ble_eq_true rfl⟩ ⟨by omega, by omega⟩ ?_
              refine z_lstore CX dL_follows_183 (by decide) ?_
              refine z_lload CX dL_follows_185 rfl ?_
              refine z_ldc2 CX (v := -1) dL_follows_187 (wa_mem 774 (by decide +kernel) rfl) ?_
              refine z_lcmp CX dL_follows_190 ?_
              refine z_if_ne CX 199 dL_follows_191 (by decide) (fun _ => ?_) (fun q9 => absurd q9 (lcN (by omega)))
              refine z_lload CX dL_follows_199 rfl ?_
              refine z_l2i CX dL_follows_201 (lN_32) ?_
              refine z_istore CX dL_follows_202 (by decide) ?_
              refine z_lload CX dL_follows_204 rfl ?_
              refine z_ldc2 CX (v := -1) dL_follows_206 (wa_mem 774 (by decide +kernel) rfl) ?_
              refine z_lcmp CX dL_follows_209 ?_
              refine z_if_ne CX 217 dL_follows_210 (by decide) (fun _ => ?_) (fun q9 => absurd q9 (lcN (by omega)))
              refine z_iconst CX (v := 0) dL_follows_217 (by decide) ?_
              refine z_lload CX dL_follows_218 rfl ?_
              refine z_ldc2 CX (v := -1) dL_follows_220 (wa_mem 774 (by decide +kernel) rfl) ?_
              refine z_lcmp CX dL_follows_223 ?_
              refine z_if_ne CX 231 dL_follows_224 (by decide) (fun q9 => absurd q9 (fun z9 => z9 ((lg_cmp_eq _ _).mpr rfl))) (fun _ => ?_)
              refine z_iconst CX (v := 1) dL_follows_227 (by decide) ?_
              refine z_goto CX 232 dL_follows_228 (by decide) ?_
              refine z_icmp_eq CX 239 dL_follows_232 (by decide) (fun q9 => absurd q9 (by decide)) (fun _ => ?_)
              refine z_iconst CX (v := 1) dL_follows_235 (by decide) ?_
              refine z_goto CX 240 dL_follows_236 (by decide) ?_
              refine z_istore CX dL_follows_240 (by decide) ?_
              refine z_iload CX dL_follows_242 rfl ?_
              refine z_bipush CX (v := 60) dL_follows_244 (by decide) ?_
              refine z_icmp_gt CX 373 dL_follows_246 (by decide) (fun _ => ?_) (fun q9 => absurd (nI_lt (a := 60) (by omega) (by omega)) q9)
              refine z_widen (k9 := 15) (n9 := 90) (by omega) (by omega) ?_
              refine z_loc [(0, .ref (wB w + k)), (1, .int (nI x9)), (2, .long (nowF (zsF σ))), (4, .int 1)] ⟨rfl, rfl, rfl, rfl, trivial⟩ ?_
              exact (K373 _ _ hσ5 hJ2)
        · have q1 : lg_cmp (boV (zsF σ) b9 3).toInt64 1 ≠ 0 := fun z9 => hs1 (by
            have z8 := (lg_cmp_eq _ _).mp z9
            rw [show (1 : Int64) = (1 : Int32).toInt64 by decide] at z8
            exact Int32.le_antisymm ((w_le _ _).mp (by rw [show zsF σ (24 + 10 * b9 + 3) = boV (zsF σ) b9 3 from rfl, z8]; exact Int64.le_refl _)) ((w_le _ _).mp (by rw [show zsF σ (24 + 10 * b9 + 3) = boV (zsF σ) b9 3 from rfl, z8]; exact Int64.le_refl _)))
          refine z_aload_n CX 0 dL_follows_150 rfl rfl ?_
          refine z_iload CX dL_follows_151 rfl ?_
          refine z_iconst CX (v := 3) dL_follows_153 (by decide) ?_
          refine z_callSw CX hN dL_follows_154 csw_115 qs rfl rfl (Nat.le_of_ble_eq_true rfl) ⟨Nat.le_of_ble_eq_true rfl, Nat.le_of_ble_eq_true rfl⟩ ⟨by omega, by omega⟩ ?_
          refine z_lconst CX (v := 1) dL_follows_157 (by decide) ?_
          refine z_lcmp CX dL_follows_158 ?_
          refine z_if_ne CX 373 dL_follows_159 (by decide) (fun _ => ?_) (fun q9 => absurd q9 q1)
          refine z_widen (k9 := 15) (n9 := 90) (by omega) (by omega) ?_
          refine z_loc [(0, .ref (wB w + k)), (1, .int (nI x9)), (2, .long (nowF (zsF σ))), (4, .int 1)] ⟨rfl, rfl, rfl, rfl, trivial⟩ ?_
          exact (K373 _ _ hσ5 hI5)
      by_cases hw0 : whyF (zsF σ) o b9 = 0
      · have hC4c := hC4b hw0
        rw [l2l (show whyF (zsF σ) o b9 = nI 0 from hw0) (by omega)] at qy hC4
        refine z_aload_n CX 0 dL_follows_56 rfl rfl ?_
        refine z_iconst CX (v := 1) dL_follows_57 (by decide) ?_
        refine z_callSw CX hN dL_follows_58 csw_103 qa1 rfl rfl (Nat.le_of_ble_eq_true rfl) ⟨Nat.le_of_ble_eq_true rfl, Nat.le_of_ble_eq_true rfl⟩ ⟨by omega, by omega⟩ ?_
        refine z_lconst CX (v := 0) dL_follows_61 (by decide) ?_
        refine z_lcmp CX dL_follows_62 ?_
        refine z_if_le CX 373 dL_follows_63 (by decide) (fun q9 => absurd q9 (fun z9 => absurd ((lg_cmp_le _ _).mp z9) (by rw [show (0 : Int64) = lN 0 from rfl, lN_le (by omega) (by omega)]; omega))) (fun _ => ?_)
        refine z_iload CX dL_follows_66 rfl ?_
        refine z_if_eq CX 373 dL_follows_68 (by decide) (fun q9 => absurd q9 (by decide)) (fun _ => ?_)
        refine z_iload_n CX 1 dL_follows_71 rfl rfl ?_
        refine z_aload_n CX 0 dL_follows_72 rfl rfl ?_
        refine z_iconst CX (v := 1) dL_follows_73 (by decide) ?_
        refine z_callSw CX hN dL_follows_74 csw_103 qa1 rfl rfl (Nat.le_of_ble_eq_true rfl) ⟨Nat.le_of_ble_eq_true rfl, Nat.le_of_ble_eq_true rfl⟩ ⟨by omega, by omega⟩ ?_
        refine z_l2i CX dL_follows_77 (lN_32) ?_
        refine z_irem CX dL_follows_78 (nI_ne0 (by omega) (by omega)) ?_
        refine z_stk (congrArg (fun q9 => [Value.int q9]) eb) ?_
        refine z_istore CX dL_follows_79 (by decide) ?_
        refine z_iload_n CX 1 dL_follows_81 rfl rfl ?_
        refine z_bipush CX (v := 11) dL_follows_82 (by decide) ?_
        refine z_idiv CX dL_follows_84 (by decide) ?_
        refine z_iconst CX (v := 4) dL_follows_85 (by decide) ?_
        refine z_irem CX dL_follows_86 (by decide) ?_
        refine z_stk (congrArg (fun q9 => [Value.int q9]) eo) ?_
        refine z_istore CX dL_follows_87 (by decide) ?_
        refine z_aload_n CX 0 dL_follows_89 rfl rfl ?_
        refine z_iload CX dL_follows_90 rfl ?_
        refine z_iload CX dL_follows_92 rfl ?_
        refine z_callSw CX hN dL_follows_94 csw_141 qy rfl rfl (Nat.le_of_ble_eq_true rfl) ⟨Nat.le_of_ble_eq_true rfl, Nat.le_of_ble_eq_true rfl⟩ ⟨by omega, by omega⟩ ?_
        refine z_lstore CX dL_follows_97 (by decide) ?_
        refine z_aload_n CX 0 dL_follows_99 rfl rfl ?_
        refine z_iload CX dL_follows_100 rfl ?_
        refine z_iload CX dL_follows_102 rfl ?_
        refine z_callSw CX hN dL_follows_104 csw_135 hC4 rfl rfl (Nat.le_of_ble_eq_true rfl) ⟨Nat.le_of_ble_eq_true rfl, Nat.le_of_ble_eq_true rfl⟩ ⟨by omega, by omega⟩ ?_
        refine z_lload CX dL_follows_107 rfl ?_
        refine z_lcmp CX dL_follows_109 ?_
        refine z_if_ne CX 147 dL_follows_110 (by decide) (fun q9 => absurd q9 (fun z9 => z9 ((lg_cmp_eq _ _).mpr rfl))) (fun _ => ?_)
        refine z_lload CX dL_follows_113 rfl ?_
        refine z_lconst CX (v := 0) dL_follows_115 (by decide) ?_
        refine z_lcmp CX dL_follows_116 ?_
        refine z_if_ne CX 134 dL_follows_117 (by decide) (fun q9 => absurd q9 (fun z9 => z9 ((lcE (a := 0) (b := 0) (by omega) (by omega)).mpr rfl))) (fun _ => ?_)
        refine z_aload_n CX 0 dL_follows_120 rfl rfl ?_
        refine z_iload CX dL_follows_121 rfl ?_
        refine z_iconst CX (v := 3) dL_follows_123 (by decide) ?_
        refine z_callSw CX hN dL_follows_124 csw_115 hC4c rfl rfl (Nat.le_of_ble_eq_true rfl) ⟨Nat.le_of_ble_eq_true rfl, Nat.le_of_ble_eq_true rfl⟩ ⟨by omega, by omega⟩ ?_
        refine z_ldc2 CX (v := 4) dL_follows_127 (wa_mem 776 (by decide +kernel) rfl) ?_
        refine z_lcmp CX dL_follows_130 ?_
        refine z_if_ne CX 147 dL_follows_131 (by decide) (fun q9 => absurd q9 (fun z9 => z9 ((lcE (a := 4) (b := 4) (by omega) (by omega)).mpr rfl))) (fun _ => ?_)
        refine z_aload_n CX 0 dL_follows_134 rfl rfl ?_
        refine z_callSw CX hN dL_follows_135 csw_174 hC5 rfl rfl (Nat.le_of_ble_eq_true rfl) ⟨Nat.le_of_ble_eq_true rfl, Nat.le_of_ble_eq_true rfl⟩ ⟨by omega, by omega⟩ ?_
        refine z_lconst CX (v := 0) dL_follows_138 (by decide) ?_
        refine z_lcmp CX dL_follows_139 ?_
        refine z_if_lt CX 147 dL_follows_140 (by decide) (fun q9 => absurd q9 (lc0 (by omega))) (fun _ => ?_)
        refine z_iconst CX (v := 1) dL_follows_143 (by decide) ?_
        refine z_goto CX 148 dL_follows_144 (by decide) ?_
        refine z_istore CX dL_follows_148 (by decide) ?_
        refine z_widen (k9 := 9) (n9 := 54) (by omega) (by omega) ?_
        refine z_loc [(0, .ref (wB w + k)), (1, .int (nI x9)), (2, .long (nowF (zsF σ))), (4, .int 1), (5, .int (nI b9))] ⟨rfl, rfl, rfl, rfl, rfl, trivial⟩ ?_
        exact K150
      · obtain ⟨r, r1, r2⟩ := whyF_4 (f := zsF σ) (o := o) (b := b9)
        rw [l2l r2 (by omega)] at qy hC4
        have hr0 : r ≠ 0 := fun z9 => hw0 (by rw [r2, z9]; rfl)
        refine z_aload_n CX 0 dL_follows_56 rfl rfl ?_
        refine z_iconst CX (v := 1) dL_follows_57 (by decide) ?_
        refine z_callSw CX hN dL_follows_58 csw_103 qa1 rfl rfl (Nat.le_of_ble_eq_true rfl) ⟨Nat.le_of_ble_eq_true rfl, Nat.le_of_ble_eq_true rfl⟩ ⟨by omega, by omega⟩ ?_
        refine z_lconst CX (v := 0) dL_follows_61 (by decide) ?_
        refine z_lcmp CX dL_follows_62 ?_
        refine z_if_le CX 373 dL_follows_63 (by decide) (fun q9 => absurd q9 (fun z9 => absurd ((lg_cmp_le _ _).mp z9) (by rw [show (0 : Int64) = lN 0 from rfl, lN_le (by omega) (by omega)]; omega))) (fun _ => ?_)
        refine z_iload CX dL_follows_66 rfl ?_
        refine z_if_eq CX 373 dL_follows_68 (by decide) (fun q9 => absurd q9 (by decide)) (fun _ => ?_)
        refine z_iload_n CX 1 dL_follows_71 rfl rfl ?_
        refine z_aload_n CX 0 dL_follows_72 rfl rfl ?_
        refine z_iconst CX (v := 1) dL_follows_73 (by decide) ?_
        refine z_callSw CX hN dL_follows_74 csw_103 qa1 rfl rfl (Nat.le_of_ble_eq_true rfl) ⟨Nat.le_of_ble_eq_true rfl, Nat.le_of_ble_eq_true rfl⟩ ⟨by omega, by omega⟩ ?_
        refine z_l2i CX dL_follows_77 (lN_32) ?_
        refine z_irem CX dL_follows_78 (nI_ne0 (by omega) (by omega)) ?_
        refine z_stk (congrArg (fun q9 => [Value.int q9]) eb) ?_
        refine z_istore CX dL_follows_79 (by decide) ?_
        refine z_iload_n CX 1 dL_follows_81 rfl rfl ?_
        refine z_bipush CX (v := 11) dL_follows_82 (by decide) ?_
        refine z_idiv CX dL_follows_84 (by decide) ?_
        refine z_iconst CX (v := 4) dL_follows_85 (by decide) ?_
        refine z_irem CX dL_follows_86 (by decide) ?_
        refine z_stk (congrArg (fun q9 => [Value.int q9]) eo) ?_
        refine z_istore CX dL_follows_87 (by decide) ?_
        refine z_aload_n CX 0 dL_follows_89 rfl rfl ?_
        refine z_iload CX dL_follows_90 rfl ?_
        refine z_iload CX dL_follows_92 rfl ?_
        refine z_callSw CX hN dL_follows_94 csw_141 qy rfl rfl (Nat.le_of_ble_eq_true rfl) ⟨Nat.le_of_ble_eq_true rfl, Nat.le_of_ble_eq_true rfl⟩ ⟨by omega, by omega⟩ ?_
        refine z_lstore CX dL_follows_97 (by decide) ?_
        refine z_aload_n CX 0 dL_follows_99 rfl rfl ?_
        refine z_iload CX dL_follows_100 rfl ?_
        refine z_iload CX dL_follows_102 rfl ?_
        refine z_callSw CX hN dL_follows_104 csw_135 hC4 rfl rfl (Nat.le_of_ble_eq_true rfl) ⟨Nat.le_of_ble_eq_true rfl, Nat.le_of_ble_eq_true rfl⟩ ⟨by omega, by omega⟩ ?_
        refine z_lload CX dL_follows_107 rfl ?_
        refine z_lcmp CX dL_follows_109 ?_
        refine z_if_ne CX 147 dL_follows_110 (by decide) (fun q9 => absurd q9 (fun z9 => z9 ((lg_cmp_eq _ _).mpr rfl))) (fun _ => ?_)
        refine z_lload CX dL_follows_113 rfl ?_
        refine z_lconst CX (v := 0) dL_follows_115 (by decide) ?_
        refine z_lcmp CX dL_follows_116 ?_
        refine z_if_ne CX 134 dL_follows_117 (by decide) (fun _ => ?_) (fun q9 => absurd q9 (fun z9 => hr0 ((lcE (b := 0) (by omega) (by omega)).mp z9)))
        refine z_aload_n CX 0 dL_follows_134 rfl rfl ?_
        refine z_callSw CX hN dL_follows_135 csw_174 hC5 rfl rfl (Nat.le_of_ble_eq_true rfl) ⟨Nat.le_of_ble_eq_true rfl, Nat.le_of_ble_eq_true rfl⟩ ⟨by omega, by omega⟩ ?_
        refine z_lconst CX (v := 0) dL_follows_138 (by decide) ?_
        refine z_lcmp CX dL_follows_139 ?_
        refine z_if_lt CX 147 dL_follows_140 (by decide) (fun q9 => absurd q9 (lc0 (by omega))) (fun _ => ?_)
        refine z_iconst CX (v := 1) dL_follows_143 (by decide) ?_
        refine z_goto CX 148 dL_follows_144 (by decide) ?_
        refine z_istore CX dL_follows_148 (by decide) ?_
        refine z_widen (k9 := 9) (n9 := 54) (by omega) (by omega) ?_
        refine z_loc [(0, .ref (wB w + k)), (1, .int (nI x9)), (2, .long (nowF (zsF σ))), (4, .int 1), (5, .int (nI b9))] ⟨rfl, rfl, rfl, rfl, rfl, trivial⟩ ?_
        exact K150
    · skip
      refine z_aload_n CX 0 dL_follows_56 rfl rfl ?_
      refine z_iconst CX (v := 1) dL_follows_57 (by decide) ?_
      refine z_callSw CX hN dL_follows_58 csw_103 qa1 rfl rfl (Nat.le_of_ble_eq_true rfl) ⟨Nat.le_of_ble_eq_true rfl, Nat.le_of_ble_eq_true rfl⟩ ⟨by omega, by omega⟩ ?_
      refine z_lconst CX (v := 0) dL_follows_61 (by decide) ?_
      refine z_lcmp CX dL_follows_62 ?_
      refine z_if_le CX 373 dL_follows_63 (by decide) (fun _ => ?_) (fun q9 => absurd ((lg_cmp_le _ _).mpr (by rw [show (0 : Int64) = lN 0 from rfl]; exact (lN_le (by omega) (by omega)).mpr (by omega))) q9)
      refine z_widen (k9 := 15) (n9 := 90) (by omega) (by omega) ?_
      refine z_loc [(0, .ref (wB w + k)), (1, .int (nI x9)), (2, .long (nowF (zsF σ))), (4, .int 1)] ⟨rfl, rfl, rfl, rfl, trivial⟩ ?_
      exact (K373 _ _ hσ1 hI1)
  obtain ⟨H1, hI1, hC1⟩ := s_save (l := l) (i := 1) hI hσ (by omega)
  have hσ1 : OKs M ((σ.1, zsF σ, zsB σ, (fun q => if q = 1 then some (zsF σ) else zsK σ q)) : ZS) := ⟨hσ.1, hσ.2.1, hσ.2.2.1, hσ.2.2.2.1, fun i f hi hf => by
    by_cases e9 : i = 1
    · have hf2 : (if i = 1 then some (zsF σ) else zsK σ i) = some f := hf
      rw [if_pos e9] at hf2
      rw [← Option.some.inj hf2]; exact hσ.2.1
    · have hf2 : (if i = 1 then some (zsF σ) else zsK σ i) = some f := hf
      rw [if_neg e9] at hf2
      exact hσ.2.2.2.2 i f hi hf2⟩
  have qa7 := q_about (l := l) (i := 7) hI1 hσ1 (by omega)
  obtain ⟨H2, hI2, hC2⟩ := s_simulate (l := l) (N9 := 6) hI1 hσ1 (by omega) (nI x9).toInt64
  obtain ⟨H3, hI3, hC3⟩ := s_simulate (l := l) (N9 := 6) hI2 hσ1 (by omega) (nI x9).toInt64
  refine z_aload_n CX 0 dL_follows_0 rfl rfl ?_
  refine z_callSp CX hN dL_follows_1 cs_L_119 (c_now hI hσ) rfl rfl (Nat.le_of_ble_eq_true rfl) ⟨Nat.le_of_ble_eq_true rfl, Nat.le_of_ble_eq_true rfl⟩ ⟨by omega, by omega⟩ ?_
  intro H7 v7 hv7
  obtain ⟨rfl, rfl⟩ := hv7
  refine z_lstore_n CX 2 dL_follows_4 rfl (by decide) ?_
  refine z_aload_n CX 0 dL_follows_5 rfl rfl ?_
  refine z_iconst CX (v := 1) dL_follows_6 (by decide) ?_
  refine z_callSw CX hN dL_follows_7 csw_156 hC1 rfl rfl (Nat.le_of_ble_eq_true rfl) ⟨Nat.le_of_ble_eq_true rfl, Nat.le_of_ble_eq_true rfl⟩ ⟨by omega, by omega⟩ ?_
  refine z_aload_n CX 0 dL_follows_10 rfl rfl ?_
  refine z_bipush CX (v := 7) dL_follows_11 (by decide) ?_
  refine z_callSw CX hN dL_follows_13 csw_103 qa7 rfl rfl (Nat.le_of_ble_eq_true rfl) ⟨Nat.le_of_ble_eq_true rfl, Nat.le_of_ble_eq_true rfl⟩ ⟨by omega, by omega⟩ ?_
  refine z_lcmp CX dL_follows_16 ?_
  refine z_if_ne CX 53 dL_follows_17 (by decide) (fun q9 => absurd q9 (fun z9 => z9 ((lg_cmp_eq _ _).mpr rfl))) (fun _ => ?_)
  refine z_aload_n CX 0 dL_follows_20 rfl rfl ?_
  refine z_iload_n CX 1 dL_follows_21 rfl rfl ?_
  refine z_i2l CX dL_follows_22 rfl ?_
  refine z_bipush CX (v := 6) dL_follows_23 (by decide) ?_
  refine z_callSw CX hN dL_follows_25 csw_153 hC2 rfl rfl (Nat.le_of_ble_eq_true rfl) ⟨Nat.le_of_ble_eq_true rfl, Nat.le_of_ble_eq_true rfl⟩ ⟨by omega, by omega⟩ ?_
  refine z_aload_n CX 0 dL_follows_28 rfl rfl ?_
  refine z_iload_n CX 1 dL_follows_29 rfl rfl ?_
  refine z_i2l CX dL_follows_30 rfl ?_
  refine z_bipush CX (v := 6) dL_follows_31 (by decide) ?_
  refine z_callSw CX hN dL_follows_33 csw_153 hC3 rfl rfl (Nat.le_of_ble_eq_true rfl) ⟨Nat.le_of_ble_eq_true rfl, Nat.le_of_ble_eq_true rfl⟩ ⟨by omega, by omega⟩ ?_
  refine z_lcmp CX dL_follows_36 ?_
  refine z_if_ne CX 53 dL_follows_37 (by decide) (fun q9 => absurd q9 (fun z9 => z9 ((lg_cmp_eq _ _).mpr rfl))) (fun _ => ?_)
  refine z_aload_n CX 0 dL_follows_40 rfl rfl ?_
  refine z_callSp CX hN dL_follows_41 cs_L_119 (c_now hI3 hσ1) rfl rfl (Nat.le_of_ble_eq_true rfl) ⟨Nat.le_of_ble_eq_true rfl, Nat.le_of_ble_eq_true rfl⟩ ⟨by omega, by omega⟩ ?_
  intro H7 v7 hv7
  obtain ⟨rfl, rfl⟩ := hv7
  refine z_lload_n CX 2 dL_follows_44 rfl rfl ?_
  refine z_lcmp CX dL_follows_45 ?_
  refine z_if_ne CX 53 dL_follows_46 (by decide) (fun q9 => absurd q9 (fun z9 => z9 ((lg_cmp_eq _ _).mpr rfl))) (fun _ => ?_)
  refine z_iconst CX (v := 1) dL_follows_49 (by decide) ?_
  refine z_goto CX 54 dL_follows_50 (by decide) ?_
  refine z_istore CX dL_follows_54 (by decide) ?_
  refine z_widen (k9 := 5) (n9 := 30) (by omega) (by omega) ?_
  refine z_loc [(0, .ref (wB w + k)), (1, .int (nI x9)), (2, .long (nowF (zsF σ))), (4, .int 1)] ⟨rfl, rfl, rfl, rfl, trivial⟩ ?_
  exact (K56 _ _ hσ1 hI3)
end
