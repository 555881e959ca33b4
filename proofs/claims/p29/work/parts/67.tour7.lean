/-! the tournament: the end of a heat -/
/-- the row as the class has it when the boats below i have been seen -/
def ehm (f : Nat → Int32) (i : Nat) : Nat → Int32 := upd (if (eht f i).1 = -1 then (eht f i).2 else ehw (eht f i).2 (eht f i).1.toNatClampNeg) 150 0
theorem ehm_n {f : Nat → Int32} {nb i j : Nat} (hnb : nb ≤ 11) (hi : i ≤ nb) (hO : ∀ b, b < nb → ∃ O, O ≤ 3 ∧ f (24 + 10 * b + 2) = nI O) (h3 : ∀ b, b < i → j ≠ 24 + 10 * b + 3) (h8 : ∀ b, b < i → j ≠ 24 + 10 * b + 8) (h4 : ∀ o, o < 4 → j ≠ 134 + 3 * o) (h0 : j ≠ 150) (h1 : j ≠ 151) : ehm f i j = f j := by
  unfold ehm
  rw [pk_un h0]
  rcases eht_1 (f := f) i with ⟨e, -⟩ | ⟨b, hb, e, e3, e7⟩
  · rw [if_pos e]; exact eht_n i h3
  · rw [if_neg (by rw [e]; exact nI_nm1 (by omega)), e, nI_clamp (by omega)]
    obtain ⟨O, o1, o2⟩ := hO b (by omega)
    have e2 : (eht f i).2 (24 + 10 * b + 2) = nI O := (eht_n i (fun b' hb' => by omega)).trans o2
    unfold ehw
    rw [e2, nI_clamp (by omega), pk_un h1, pk_un (h8 b hb), pk_un (h4 O (by omega))]
    exact eht_n i h3
/-- a boat that isn't first -/
theorem ehm_b {f : Nat → Int32} {nb i : Nat} (hnb : nb ≤ 11) (hi : i < nb) (hO : ∀ b, b < nb → ∃ O, O ≤ 3 ∧ f (24 + 10 * b + 2) = nI O) (hs : f (24 + 10 * i + 3) = 2) (hp : f (24 + 10 * i + 7) ≠ 1) : ehm f (i + 1) = upd (ehm f i) (24 + 10 * i + 3) 0 := by
  have e3 : (eht f i).2 (24 + 10 * i + 3) = 2 := (eht_n i (fun b hb => by omega)).trans hs
  have e7 : ¬ (eht f i).2 (24 + 10 * i + 7) = 1 := by rw [eht_n i (fun b hb => by omega)]; exact hp
  have e : eht f (i + 1) = ((eht f i).1, upd (eht f i).2 (24 + 10 * i + 3) 0) := by rw [eht, if_pos e3, if_neg e7]
  unfold ehm
  rw [e]
  dsimp only
  funext j
  rcases eht_1 (f := f) i with ⟨q, -⟩ | ⟨b, hb, q, q3, q7⟩
  · rw [if_pos q, if_pos q]
    by_cases c : j = 150
    · subst c; rw [pk_us, pk_un (by omega), pk_us]
    · rw [pk_un c]
      by_cases c2 : j = 24 + 10 * i + 3
      · subst c2; rw [pk_us, pk_us]
      · rw [pk_un c2, pk_un c2, pk_un c]
  · have qn : ¬ (eht f i).1 = -1 := by rw [q]; exact nI_nm1 (by omega)
    rw [if_neg qn, if_neg qn, q, nI_clamp (by omega)]
    obtain ⟨O, o1, o2⟩ := hO b (by omega)
    have x2 : (eht f i).2 (24 + 10 * b + 2) = nI O := (eht_n i (fun b' hb' => by omega)).trans o2
    unfold ehw
    rw [pk_un (show 24 + 10 * b + 2 ≠ 24 + 10 * i + 3 by omega), x2, nI_clamp (by omega)]
    rw [pk_un (show 134 + 3 * O ≠ 24 + 10 * i + 3 by omega), pk_un (show 24 + 10 * b + 8 ≠ 24 + 10 * i + 3 by omega), pk_un (show 151 ≠ 24 + 10 * i + 3 by omega)]
    unfold upd
    by_cases c2 : j = 24 + 10 * i + 3
    · subst c2
      rw [if_neg (by omega), if_neg (by omega), if_neg (by omega), if_neg (by omega), if_pos rfl, if_pos rfl]
    · rw [if_neg c2, if_neg c2]
/-- the first one -/
theorem ehm_f {f : Nat → Int32} {nb i O : Nat} (hnb : nb ≤ 11) (hi : i < nb) (hP : PLc f nb) (hO : f (24 + 10 * i + 2) = nI O) (ho : O ≤ 3) (hs : f (24 + 10 * i + 3) = 2) (hp : f (24 + 10 * i + 7) = 1) : ∀ j, j ≠ 151 → ehm f (i + 1) j = upd (upd (upd (ehm f i) (134 + 3 * O) (ehm f i (134 + 3 * O) + 3)) (24 + 10 * i + 8) (ehm f i (24 + 10 * i + 8) + 1)) (24 + 10 * i + 3) 0 j := by
  have e3 : (eht f i).2 (24 + 10 * i + 3) = 2 := (eht_n i (fun b hb => by omega)).trans hs
  have e7 : (eht f i).2 (24 + 10 * i + 7) = 1 := by rw [eht_n i (fun b hb => by omega)]; exact hp
  have e : eht f (i + 1) = (nI i, upd (eht f i).2 (24 + 10 * i + 3) 0) := by rw [eht, if_pos e3, if_pos e7]
  have q : (eht f i).1 = -1 := by
    rcases eht_1 (f := f) i with ⟨q, -⟩ | ⟨b, hb, q, q3, q7⟩
    · exact q
    · have := hP.2.2 b i (by omega) hi q3 hs (q7.trans hp.symm)
      omega
  intro j hj
  have x2 : (eht f i).2 (24 + 10 * i + 2) = nI O := (eht_n i (fun b' hb' => by omega)).trans hO
  unfold ehm
  rw [e]
  dsimp only
  rw [if_pos q, if_neg (show ¬ nI i = -1 from nI_nm1 (by omega)), nI_clamp (by omega)]
  unfold ehw
  rw [pk_un (show 24 + 10 * i + 2 ≠ 24 + 10 * i + 3 by omega), x2, nI_clamp (by omega)]
  rw [pk_un (show 134 + 3 * O ≠ 24 + 10 * i + 3 by omega), pk_un (show 24 + 10 * i + 8 ≠ 24 + 10 * i + 3 by omega)]
  rw [pk_un (show 134 + 3 * O ≠ 150 by omega), pk_un (show 24 + 10 * i + 8 ≠ 150 by omega)]
  unfold upd
  by_cases c2 : j = 24 + 10 * i + 3
  · subst c2
    rw [if_neg (by omega), if_neg (by omega), if_neg (by omega), if_neg (by omega), if_pos rfl, if_pos rfl]
  · rw [if_neg c2, if_neg hj, if_neg c2]
    by_cases c1 : j = 150
    · subst c1
      rw [if_pos rfl, if_neg (by omega), if_neg (by omega), if_pos rfl]
    · rw [if_neg c1]
      by_cases c3 : j = 24 + 10 * i + 8
      · rw [if_pos c3, if_pos c3]
      · rw [if_neg c3, if_neg c3]
        by_cases c4 : j = 134 + 3 * O
        · rw [if_pos c4, if_pos c4]
        · rw [if_neg c4, if_neg c4, if_neg c1]
theorem ehm_s {f : Nat → Int32} {i : Nat} (hs : f (24 + 10 * i + 3) ≠ 2) : ehm f (i + 1) = ehm f i := by
  have e3 : ¬ (eht f i).2 (24 + 10 * i + 3) = 2 := by rw [eht_n i (fun b hb => by omega)]; exact hs
  unfold ehm
  rw [eht, if_neg e3]
/-- owners and one boat changed -/
theorem TH_ob {w : Wt} {hs : Hs} {k : Nat} {G f' : Nat → Int32} {x : Int32} {z : Nat → Nat → Int32} {h2 h1 : Nat → Int32} {b : Nat} (h6 : gN G ≤ 6) (h9 : bN G ≤ 11) (hb : b < bN G) (E : ∀ j, (j < 24 + 10 * b ∨ 24 + 10 * b + 9 < j) → (j < 134 ∨ 146 ≤ j) → j ≠ 151 → j ≠ 152 → j ≠ 153 → f' j = G j) (o1 : ∀ j, j < 12 → h2 j = f' (134 + j)) (o2 : ∀ j, 12 ≤ j → h2 j = z 2 j) (b1 : ∀ c, c < 10 → h1 (b * 10 + c) = nv f' b c) (b2 : ∀ j, (j < b * 10 ∨ b * 10 + 9 < j) → h1 j = gF G z 1 j) : TT w hs k (sF G x) (upA (upA (gF G z) 2 h2) 1 h1) (rF G) = TH w hs k f' x z := by
  have e6 : gN f' = gN G := gN_e (E _ (by omega) (by omega) (by omega) (by omega) (by omega))
  have e7 : bN f' = bN G := bN_e (E _ (by omega) (by omega) (by omega) (by omega) (by omega))
  refine TH_of ⟨(E _ (by omega) (by omega) (by omega) (by omega) (by omega)).symm, (E _ (by omega) (by omega) (by omega) (by omega) (by omega)).symm, (E _ (by omega) (by omega) (by omega) (by omega) (by omega)).symm, (E _ (by omega) (by omega) (by omega) (by omega) (by omega)).symm, (E _ (by omega) (by omega) (by omega) (by omega) (by omega)).symm, (E _ (by omega) (by omega) (by omega) (by omega) (by omega)).symm, rfl⟩ ⟨e6.symm, e7.symm, rfl⟩ ⟨fun j hj => ?_, fun j hj => ?_⟩ ⟨fun b' c hb' hc => ?_, fun j hj => ?_⟩ ⟨o1, o2⟩
  · exact (gF_0 (by omega)).trans (E _ (by omega) (by omega) (by omega) (by omega) (by omega)).symm
  · exact gF_0n (by omega)
  · show h1 (b' * 10 + c) = _
    rw [e7] at hb'
    by_cases e : b' = b
    · subst e; exact b1 c hc
    · rw [b2 _ (by omega), gF_1 hb' hc]
      exact (nv_e (fun c hc => E _ (by omega) (by omega) (by omega) (by omega) (by omega)) hc).symm
  · show h1 j = _
    rw [e7] at hj
    rw [b2 _ (by omega)]; exact gF_1n hj
theorem nv_dry {f : Nat → Int32} {b : Nat} (h : f (24 + 10 * b + 3) = 0) : nv f b 4 = -1 ∧ nv f b 5 = -1 ∧ nv f b 7 = -1 := ⟨nv4n (by rw [h]; decide), nv5n (by rw [h]; decide), nv7n (by rw [h]; decide)⟩
theorem upA_12 {A : Nat → Nat → Int32} {f : Nat → Int32} : upA A 2 (A 2) = A := upA_id
set_option maxHeartbeats 4000000 in
set_option maxRecDepth 100000 in
theorem t_endH {l : Launch} {w : Wt} {hs : Hs} {n : Option Nat} {k : Nat} {f : Nat → Int32} {x : Int32} {z : Nat → Nat → Int32} (hR : RIs f) : Cn l w mX4_endHeat 0 0 [.ref (wB w + k)] (TH w hs k f x z) n (TH w hs k (ehe f (bN f)) x z) n none := by
  refine Cn.of (d := mX4_endHeat) (by decide +kernel) (Nat.le_of_ble_eq_true rfl) ?_
  intro p e R s m args below meth c CX
  replace CX : Ctx p s m args meth c R w RX4 "endHeat" cX4_endHeat 2 none 2 47 0 0 := CX
  show ZW p l e R s m args below meth c w 2 _ _ 0 0 (MQ below (Qn w _ _ _) args s 0 0 (wA w)) 0 [(0, .ref (wB w + k))] []
  have h9 := hR.2.2.1
  have h6 := hR.1.2.1
  have LP : ∀ (j i : Nat), i + j = bN f → ZW p l e R s m args below meth c w 2 (TH w hs k (ehm f i) x z) n 0 0 (MQ below (Qn w (TH w hs k (ehe f (bN f)) x z) n none) args s 0 0 (wA w)) 7 [(0, .ref (wB w + k)), (1, .int (nI i))] [] := by
    intro j
    induction j with
    | zero =>
      intro i hi
      have hgi : gN (ehm f i) = gN f := gN_e (ehm_n h9 (by omega) hR.own (fun b hb => by omega) (fun b hb => by omega) (fun o ho => by omega) (by omega) (by omega))
      have hbi : bN (ehm f i) = bN f := bN_e (ehm_n h9 (by omega) hR.own (fun b hb => by omega) (fun b hb => by omega) (fun o ho => by omega) (by omega) (by omega))
      refine z_iload_n CX 1 dX4_endHeat_7 rfl rfl ?_
      refine z_aload_n CX 0 dX4_endHeat_8 rfl rfl ?_
      refine z_get CX dX4_endHeat_9 fg_X4_20 to_0 rfl ?_
      refine z_get CX dX4_endHeat_12 fg_X4_29 to_3 rfl ?_
      refine z_icmp_ge CX 89 dX4_endHeat_15 (by decide) (fun _ => ?_) (fun q9 => absurd (show nI (bN (ehm f i)) ≤ nI i from nI_le (by omega) (by omega)) q9)
      exact z_vret CX dX4_endHeat_89 rfl (TH_ext (by omega) (by omega) (fun j h1 h2 h3 h4 => by rw [show i = bN f by omega]; show upd (ehm f (bN f)) 153 0 j = _; exact pk_un h4)) (Or.inl rfl)
    | succ j ih =>
      intro i hi
      have hgi : gN (ehm f i) = gN f := gN_e (ehm_n h9 (by omega) hR.own (fun b hb => by omega) (fun b hb => by omega) (fun o ho => by omega) (by omega) (by omega))
      have hbi : bN (ehm f i) = bN f := bN_e (ehm_n h9 (by omega) hR.own (fun b hb => by omega) (fun b hb => by omega) (fun o ho => by omega) (by omega) (by omega))
      have v : ∀ c, c < 10 → ehm f i (24 + 10 * i + c) = f (24 + 10 * i + c) := fun c hc => ehm_n h9 (by omega) hR.own (fun b hb => by omega) (fun b hb => by omega) (fun o ho => by omega) (by omega) (by omega)
      have a3 : gF (ehm f i) z 1 (i * 10 + 3) = f (24 + 10 * i + 3) := (gF_1 (by omega) (by omega)).trans ((nv_o (by omega)).trans (v 3 (by omega)))
      have a2 : gF (ehm f i) z 1 (i * 10 + 2) = f (24 + 10 * i + 2) := (gF_1 (by omega) (by omega)).trans ((nv_o (by omega)).trans (v 2 (by omega)))
      obtain ⟨O, o1, o2⟩ := hR.own i (by omega)
      refine z_iload_n CX 1 dX4_endHeat_7 rfl rfl ?_
      refine z_aload_n CX 0 dX4_endHeat_8 rfl rfl ?_
      refine z_get CX dX4_endHeat_9 fg_X4_20 to_0 rfl ?_
      refine z_get CX dX4_endHeat_12 fg_X4_29 to_3 rfl ?_
      refine z_icmp_ge CX 89 dX4_endHeat_15 (by decide) (fun q9 => absurd q9 (show ¬ nI (bN (ehm f i)) ≤ nI i from nI_ge (by omega) (by omega))) (fun _ => ?_)
      refine z_aload_n CX 0 dX4_endHeat_18 rfl rfl ?_
      refine z_get CX dX4_endHeat_19 fg_X4_20 to_0 rfl ?_
      refine z_iload_n CX 1 dX4_endHeat_22 rfl rfl ?_
      refine z_iconst CX (v := 3) dX4_endHeat_23 (by decide) ?_
      refine z_callV1 CX dX4_endHeat_24 cv_X4_71 (tB_at (show bN (ehm f i) ≤ 11 by omega) (b := i) (c := 3) (show i < bN (ehm f i) by omega) (by omega)) to_3 rfl rfl (Nat.le_of_ble_eq_true rfl) ⟨Nat.le_of_ble_eq_true rfl, Nat.le_of_ble_eq_true rfl⟩ ⟨Nat.le_refl _, Nat.le_refl _⟩ ?_
      rw [a3]
      refine z_iconst CX (v := 2) dX4_endHeat_27 (by decide) ?_
      refine z_icmp_eq CX 34 dX4_endHeat_28 (by decide) (fun c_28 => ?_) (fun c_28 => ?_)
      · skip
        refine z_aload_n CX 0 dX4_endHeat_34 rfl rfl ?_
        refine z_get CX dX4_endHeat_35 fg_X4_20 to_0 rfl ?_
        refine z_iload_n CX 1 dX4_endHeat_38 rfl rfl ?_
        refine z_bipush CX (v := 7) dX4_endHeat_39 (by decide) ?_
        refine z_callV1 CX dX4_endHeat_41 cv_X4_71 (tB_at (show bN (ehm f i) ≤ 11 by omega) (b := i) (c := 7) (show i < bN (ehm f i) by omega) (by omega)) to_3 rfl rfl (Nat.le_of_ble_eq_true rfl) ⟨Nat.le_of_ble_eq_true rfl, Nat.le_of_ble_eq_true rfl⟩ ⟨Nat.le_refl _, Nat.le_refl _⟩ ?_
        rw [show gF (ehm f i) z 1 (i * 10 + 7) = f (24 + 10 * i + 7) from (gF_1 (by omega) (by omega)).trans ((nv7 ((v 3 (by omega)).trans c_28)).trans (v 7 (by omega)))]
        refine z_iconst CX (v := 1) dX4_endHeat_44 (by decide) ?_
        refine z_icmp_ne CX 77 dX4_endHeat_45 (by decide) (fun c_45 => ?_) (fun c_45 => ?_)
        · skip
          refine z_aload_n CX 0 dX4_endHeat_77 rfl rfl ?_
          refine z_iload_n CX 1 dX4_endHeat_78 rfl rfl ?_
          refine z_iconst CX (v := 0) dX4_endHeat_79 (by decide) ?_
          refine z_callV0 CX dX4_endHeat_80 cv_X4_133 (t_take (show bN (ehm f i) ≤ 11 by omega) (show i < bN (ehm f i) by omega) _) to_0 rfl rfl (Nat.le_of_ble_eq_true rfl) ⟨Nat.le_of_ble_eq_true rfl, Nat.le_of_ble_eq_true rfl⟩ ⟨Nat.le_refl _, Nat.le_refl _⟩ ?_
          refine z_iinc CX (v := nI (i + 1)) dX4_endHeat_83 rfl (nI_1 i) (by decide) ?_
          refine z_goto CX 7 dX4_endHeat_86 (by decide) ?_
          refine z_heap (show _ = TH w hs k (ehm f (i + 1)) x z from ?_) ?_
          · rw [ehm_b h9 (by omega) hR.own c_28 c_45]
            have hd : upd (ehm f i) (24 + 10 * i + 3) 0 (24 + 10 * i + 3) = 0 := pk_us
            refine (congrArg (fun q => TT w hs k (sF (ehm f i) x) (upA q 1 (tkO (gF (ehm f i) z 1) i 0)) (rF (ehm f i))) (upA_id (A := gF (ehm f i) z) (i := 2)).symm).trans (TH_ob (by omega) (by omega) (show i < bN (ehm f i) by omega) (fun j h1 h2 h3 h4 h5 => pk_un (by omega)) (fun j hj => (gF_2 hj).trans (pk_un (by omega)).symm) (fun j hj => gF_2n hj) (fun q hq => ?_) (fun j hj => tkO_n (by omega) (by omega) (by omega) (by omega)))
            rcases c10 hq with e | e | e | e | e | e | e | e | e | e <;> subst e
            · rw [tkO_n (by omega) (by omega) (by omega) (by omega), gF_1 (show i < bN (ehm f i) by omega) (by omega), nv_o (by omega), nv_o (by omega), pk_un (by omega)]
            · rw [tkO_n (by omega) (by omega) (by omega) (by omega), gF_1 (show i < bN (ehm f i) by omega) (by omega), nv_o (by omega), nv_o (by omega), pk_un (by omega)]
            · rw [tkO_n (by omega) (by omega) (by omega) (by omega), gF_1 (show i < bN (ehm f i) by omega) (by omega), nv_o (by omega), nv_o (by omega), pk_un (by omega)]
            · rw [tkO_3, nv_o (by omega), hd]
            · rw [tkO_4, (nv_dry hd).1]
            · rw [tkO_5, (nv_dry hd).2.1]
            · rw [tkO_n (by omega) (by omega) (by omega) (by omega), gF_1 (show i < bN (ehm f i) by omega) (by omega), nv_o (by omega), nv_o (by omega), pk_un (by omega)]
            · rw [tkO_7, (nv_dry hd).2.2]
            · rw [tkO_n (by omega) (by omega) (by omega) (by omega), gF_1 (show i < bN (ehm f i) by omega) (by omega), nv_o (by omega), nv_o (by omega), pk_un (by omega)]
            · rw [tkO_n (by omega) (by omega) (by omega) (by omega), gF_1 (show i < bN (ehm f i) by omega) (by omega), nv_o (by omega), nv_o (by omega), pk_un (by omega)]
          refine z_loc [(0, .ref (wB w + k)), (1, .int (nI (i + 1)))] ⟨rfl, rfl, trivial⟩ ?_
          exact ih (i + 1) (by omega)
        · skip
          refine z_aload_n CX 0 dX4_endHeat_48 rfl rfl ?_
          refine z_get CX dX4_endHeat_49 fg_X4_23 to_0 rfl ?_
          refine z_aload_n CX 0 dX4_endHeat_52 rfl rfl ?_
          refine z_get CX dX4_endHeat_53 fg_X4_20 to_0 rfl ?_
          refine z_iload_n CX 1 dX4_endHeat_56 rfl rfl ?_
          refine z_iconst CX (v := 2) dX4_endHeat_57 (by decide) ?_
          refine z_callV1 CX dX4_endHeat_58 cv_X4_71 (tB_at (show bN (ehm f i) ≤ 11 by omega) (b := i) (c := 2) (show i < bN (ehm f i) by omega) (by omega)) to_3 rfl rfl (Nat.le_of_ble_eq_true rfl) ⟨Nat.le_of_ble_eq_true rfl, Nat.le_of_ble_eq_true rfl⟩ ⟨Nat.le_refl _, Nat.le_refl _⟩ ?_
          rw [a2, o2]
          refine z_iconst CX (v := 0) dX4_endHeat_61 (by decide) ?_
          refine z_iconst CX (v := 3) dX4_endHeat_62 (by decide) ?_
          refine z_callV0 CX dX4_endHeat_63 cv_X4_142 (tO_inc (Nat.le_refl 4) (b := O) (c := 0) (show O < 4 by omega) (by omega) _) to_5 rfl rfl (Nat.le_of_ble_eq_true rfl) ⟨Nat.le_of_ble_eq_true rfl, Nat.le_of_ble_eq_true rfl⟩ ⟨Nat.le_refl _, Nat.le_refl _⟩ ?_
          refine z_aload_n CX 0 dX4_endHeat_66 rfl rfl ?_
          refine z_get CX dX4_endHeat_67 fg_X4_20 to_0 rfl ?_
          refine z_iload_n CX 1 dX4_endHeat_70 rfl rfl ?_
          refine z_bipush CX (v := 8) dX4_endHeat_71 (by decide) ?_
          refine z_iconst CX (v := 1) dX4_endHeat_73 (by decide) ?_
          refine z_callV0 CX dX4_endHeat_74 cv_X4_142 (tB_inc (g := upA (gF (ehm f i) z) 2 (upd (gF (ehm f i) z 2) (O * 3 + 0) (gF (ehm f i) z 2 (O * 3 + 0) + 3))) (show bN (ehm f i) ≤ 11 by omega) (b := i) (c := 8) (show i < bN (ehm f i) by omega) (by omega) _) to_3 rfl rfl (Nat.le_of_ble_eq_true rfl) ⟨Nat.le_of_ble_eq_true rfl, Nat.le_of_ble_eq_true rfl⟩ ⟨Nat.le_refl _, Nat.le_refl _⟩ ?_
          refine z_aload_n CX 0 dX4_endHeat_77 rfl rfl ?_
          refine z_iload_n CX 1 dX4_endHeat_78 rfl rfl ?_
          refine z_iconst CX (v := 0) dX4_endHeat_79 (by decide) ?_
          refine z_callV0 CX dX4_endHeat_80 cv_X4_133 (t_take (show bN (ehm f i) ≤ 11 by omega) (show i < bN (ehm f i) by omega) _) to_0 rfl rfl (Nat.le_of_ble_eq_true rfl) ⟨Nat.le_of_ble_eq_true rfl, Nat.le_of_ble_eq_true rfl⟩ ⟨Nat.le_refl _, Nat.le_refl _⟩ ?_
          refine z_heap (congrArg (fun z => TT _ _ _ _ z _) upA_up) ?_
          refine z_iinc CX (v := nI (i + 1)) dX4_endHeat_83 rfl (nI_1 i) (by decide) ?_
          refine z_goto CX 7 dX4_endHeat_86 (by decide) ?_
          have hF := ehm_f h9 (show i < bN f by omega) hR.2.2.2.2.2.2.1 o2 o1 c_28 c_45
          refine z_heap (show _ = TH w hs k (ehm f (i + 1)) x z from ?_) ?_
          · have hd : ehm f (i + 1) (24 + 10 * i + 3) = 0 := (hF _ (by omega)).trans pk_us
            refine TH_ob (h2 := upd (gF (ehm f i) z 2) (O * 3 + 0) (gF (ehm f i) z 2 (O * 3 + 0) + 3)) (h1 := tkO (upd (gF (ehm f i) z 1) (i * 10 + 8) (gF (ehm f i) z 1 (i * 10 + 8) + 1)) i 0) (by omega) (by omega) (show i < bN (ehm f i) by omega) (fun j h1 h2 h3 h4 h5 => (hF j h3).trans (by rw [pk_un (by omega), pk_un (by omega), pk_un (by omega)])) (fun j hj => ?_) (fun j hj => (pk_un (by omega)).trans (gF_2n hj)) (fun q hq => ?_) (fun j hj => (tkO_n (by omega) (by omega) (by omega) (by omega)).trans (pk_un (by omega)))
            · rw [hF _ (by omega), pk_un (show 134 + j ≠ 24 + 10 * i + 3 by omega), pk_un (show 134 + j ≠ 24 + 10 * i + 8 by omega)]
              by_cases e : j = O * 3 + 0
              · subst e
                rw [pk_us, gF_2 (by omega), show 134 + (O * 3 + 0) = 134 + 3 * O by omega, pk_us]
              · rw [pk_un e, gF_2 hj, pk_un (by omega)]
            · rcases c10 hq with e | e | e | e | e | e | e | e | e | e <;> subst e
              · rw [tkO_n (by omega) (by omega) (by omega) (by omega), pk_un (by omega), gF_1 (show i < bN (ehm f i) by omega) (by omega), nv_o (by omega), nv_o (by omega), hF _ (by omega), pk_un (by omega), pk_un (by omega), pk_un (by omega)]
              · rw [tkO_n (by omega) (by omega) (by omega) (by omega), pk_un (by omega), gF_1 (show i < bN (ehm f i) by omega) (by omega), nv_o (by omega), nv_o (by omega), hF _ (by omega), pk_un (by omega), pk_un (by omega), pk_un (by omega)]
              · rw [tkO_n (by omega) (by omega) (by omega) (by omega), pk_un (by omega), gF_1 (show i < bN (ehm f i) by omega) (by omega), nv_o (by omega), nv_o (by omega), hF _ (by omega), pk_un (by omega), pk_un (by omega), pk_un (by omega)]
              · rw [tkO_3, nv_o (by omega), hd]
              · rw [tkO_4, (nv_dry hd).1]
              · rw [tkO_5, (nv_dry hd).2.1]
              · rw [tkO_n (by omega) (by omega) (by omega) (by omega), pk_un (by omega), gF_1 (show i < bN (ehm f i) by omega) (by omega), nv_o (by omega), nv_o (by omega), hF _ (by omega), pk_un (by omega), pk_un (by omega), pk_un (by omega)]
              · rw [tkO_7, (nv_dry hd).2.2]
              · rw [tkO_n (by omega) (by omega) (by omega) (by omega), pk_us, gF_1 (show i < bN (ehm f i) by omega) (by omega), nv_o (by omega), nv_o (by omega), hF _ (by omega), pk_un (by omega), pk_us]
              · rw [tkO_n (by omega) (by omega) (by omega) (by omega), pk_un (by omega), gF_1 (show i < bN (ehm f i) by omega) (by omega), nv_o (by omega), nv_o (by omega), hF _ (by omega), pk_un (by omega), pk_un (by omega), pk_un (by omega)]
          refine z_loc [(0, .ref (wB w + k)), (1, .int (nI (i + 1)))] ⟨rfl, rfl, trivial⟩ ?_
          exact ih (i + 1) (by omega)
      · skip
        refine z_goto CX 83 dX4_endHeat_31 (by decide) ?_
        refine z_iinc CX (v := nI (i + 1)) dX4_endHeat_83 rfl (nI_1 i) (by decide) ?_
        refine z_goto CX 7 dX4_endHeat_86 (by decide) ?_
        refine z_heap (congrArg (fun q => TH w hs k q x z) (ehm_s c_28).symm) ?_
        refine z_loc [(0, .ref (wB w + k)), (1, .int (nI (i + 1)))] ⟨rfl, rfl, trivial⟩ ?_
        exact ih (i + 1) (by omega)
  refine z_aload_n CX 0 dX4_endHeat_0 rfl rfl ?_
  refine z_iconst CX (v := 0) dX4_endHeat_1 (by decide) ?_
  refine z_put CX dX4_endHeat_2 fg_X4_56 fp_X4_8 to_0 (Nat.le_of_ble_eq_true rfl) rfl rfl ?_
  refine z_heap to_f5 ?_
  refine z_iconst CX (v := 0) dX4_endHeat_5 (by decide) ?_
  refine z_istore_n CX 1 dX4_endHeat_6 rfl (by decide) ?_
  refine z_heap (show _ = TH w hs k (ehm f 0) x z from ?_) ?_
  · have e : ehm f 0 = upd f 150 0 := rfl
    rw [e]
    have eg : gN (upd f 150 0) = gN f := gN_e (show upd f 150 0 146 = f 146 from pk_un (by omega))
    have eb : bN (upd f 150 0) = bN f := bN_e (show upd f 150 0 147 = f 147 from pk_un (by omega))
    refine TH_of (f := upd f 150 0) ⟨(show upd f 150 0 154 = f 154 from pk_un (by omega)).symm, (show upd f 150 0 155 = f 155 from pk_un (by omega)).symm, (show upd f 150 0 156 = f 156 from pk_un (by omega)).symm, (show upd f 150 0 148 = f 148 from pk_un (by omega)).symm, (show upd f 150 0 149 = f 149 from pk_un (by omega)).symm, (show upd f 150 0 150 = 0 from pk_us).symm, rfl⟩ ⟨eg.symm, eb.symm, rfl⟩ ⟨fun j hj => ?_, fun j hj => ?_⟩ ⟨fun b c hb hc => ?_, fun j hj => ?_⟩ ⟨fun j hj => (gF_2 hj).trans (pk_un (by omega)).symm, fun j hj => gF_2n hj⟩
    · rw [eg] at hj
      exact (gF_0 hj).trans (pk_un (by omega)).symm
    · rw [eg] at hj
      exact gF_0n hj
    · rw [eb] at hb
      exact (gF_1 hb hc).trans (nv_e (fun c hc => pk_un (by omega)) hc).symm
    · rw [eb] at hj
      exact gF_1n hj
  refine z_loc [(0, .ref (wB w + k)), (1, .int (nI 0))] ⟨rfl, rfl, trivial⟩ ?_
  exact LP (bN f) 0 (by omega)
