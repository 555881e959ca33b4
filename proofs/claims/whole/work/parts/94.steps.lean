/-! A CALL OF EACH METHOD, of both -/
def ST (l : Launch) (w : Wt) (k : Nat) (dL : MD) (HH : HT) (dM : MD) (as : List Value) (hs : Hs) : Prop := ∃ (hs1 hs2 : Hs) (u' : Nat → Int32) (A' : Nat → Nat → Int32) (g' : Nat → Int64) (fs : List Value) (r v : Int32), Cw l w dL HH 1 6 (.ref (wB w + k) :: (as ++ [.ref (wB w + (k + 145))])) hs none hs1 none (some (.int r)) ∧ hs1 (k + 137) = some (.inr (6, fs)) ∧ Cn l w dM 0 0 (.ref (wB w + (k + 137)) :: as) hs1 none hs2 none (some (.int v)) ∧ LI w k g' u' A' hs2 ∧ u' 0 = r ∧ (r = 0 → g' 0 = v.toInt64)
/-- .. without a wrapper -/
def SN (l : Launch) (w : Wt) (k : Nat) (dX dM : MD) (g : Nat → Int64) (hs : Hs) : Prop := ∃ (hs1 hs2 : Hs) (u' : Nat → Int32) (A' : Nat → Nat → Int32) (fs : List Value) (v : Int32), Cn l w dX 0 0 [.ref (wB w + k)] hs none hs1 none (some (.int v)) ∧ hs1 (k + 137) = some (.inr (6, fs)) ∧ Cn l w dM 0 0 [.ref (wB w + (k + 137))] hs1 none hs2 none (some (.int v)) ∧ LI w k g u' A' hs2
section
variable {l : Launch} {w : Wt} {k : Nat} {g : Nat → Int64} {u u2 : Nat → Int32} {A A2 : Nat → Nat → Int32} {len a9 ct : Nat} {sg d9 : Nat → Int32} {z : SZ} {C C2 : TTs} {b9 : Nat → Int32} {F : Nat → Nat → Int32} {X : Nat → Int32} {Z : SZZ} {bs : Nat → Int32} {Fs : Nat → Nat → Int32} {Xs : Nat → Int32} {Zs : SZZ} {as : List Value} {dX dM dL : MD} {HH : HT} {v r : Int32} {T T2 : TXs} {N N2 : TTs} {Y Y2 : HIs} {S S2 : SHs} {n n9 : Option Nat}
theorem vpL_s {f : Nat → Int64} {x : Int64} : vp_updL f 0 x 0 = x := by unfold vp_updL; simp
theorem rmN_m (h : ct ≤ 14) : min (ct + 1) 14 = rmN ct := by unfold rmN; split <;> omega
theorem INV.cu (I : INV len a9 ct sg F X bs Fs Xs u A) (h1 : u2 1 = u 1) (h2 : u2 2 = u 2) : INV len a9 ct sg F X bs Fs Xs u2 A := by
  obtain ⟨i1, i2, i3, i4, i5, i6, i7, i8, i9⟩ := I
  exact ⟨i1, i2, h2.trans i3, i4, h1.trans i5, i6, i7, i8, i9⟩
theorem INV.cA (I : INV len a9 ct sg F X bs Fs Xs u A) (E : ∀ i, i ≠ 1 → i ≠ 2 → A2 i = A i) : INV len a9 ct sg F X bs Fs Xs u A2 := by
  obtain ⟨i1, i2, i3, i4, i5, i6, i7, i8, i9⟩ := I
  refine ⟨i1, i2, i3, ?_, i5, i6, i7, ?_, i9.ext (E 4 (by decide) (by decide)) (E 5 (by decide) (by decide))⟩
  · rw [E 0 (by decide) (by decide)]; exact i4
  · rw [E 3 (by decide) (by decide)]; exact i8
theorem INV.cs {sg2 : Nat → Int32} (I : INV len a9 ct sg F X bs Fs Xs u A) (h : sg2 0 = sg 0) : INV len a9 ct sg2 F X bs Fs Xs u A := ⟨h.trans I.1, I.2⟩
theorem LI.of (I : INV len a9 ct sg F X bs Fs Xs u A) : LI w k g u A (LH w k g u A (sg, A 6, d9) (nT (A 0) (A 0 152) z) C (nI a9, nI ct, b9, F, X, Z) (bs, Fs, Xs, Zs)) := ⟨len, a9, ct, sg, d9, z, C, b9, F, X, Z, bs, Fs, Xs, Zs, I, rfl⟩
theorem Cn.lM (h : Cn l w dM 0 0 as (modH w (LH w k g u A T N C Y S) (k + 137) u A) n (modH w (LH w k g u A T N C Y S) (k + 137) u2 A2) n9 (some (.int v))) : Cn l w dM 0 0 as (LH w k g u A T N C Y S) n (LH w k g u2 A2 T N C Y S) n9 (some (.int v)) := by
  unfold LH at h ⊢
  rw [gb_M (by omega), gb_M (by omega), ov_MD, ov_MD] at h
  exact h
theorem ST.ok (W0 : ∀ (hs9 : Hs) (v : Int32) (f : Nat → Int64), hs9 (k + 145) = some (.inl (wC w 2, 1, .inr (.inl f))) → Cn l w dX 0 0 (.ref (wB w + k) :: as) (LH w k g u A T N C Y S) none hs9 none (some (.int v)) → Cw l w dL HH 1 6 (.ref (wB w + k) :: (as ++ [.ref (wB w + (k + 145))])) (LH w k g u A T N C Y S) none (upH hs9 (k + 145) (.inl (wC w 2, 1, .inr (.inl (vp_updL f 0 v.toInt64))))) none (some (.int 0))) (hC : Cn l w dX 0 0 (.ref (wB w + k) :: as) (LH w k g u A T N C Y S) none (LH w k g u A T2 N2 C2 Y2 S2) none (some (.int v))) (hM : Cn l w dM 0 0 (.ref (wB w + (k + 137)) :: as) (LH w k (vp_updL g 0 v.toInt64) u A T2 N2 C2 Y2 S2) none (LH w k (vp_updL g 0 v.toInt64) u2 A2 T2 N2 C2 Y2 S2) none (some (.int v))) (h0 : u2 0 = 0) (hI : LI w k (vp_updL g 0 v.toInt64) u2 A2 (LH w k (vp_updL g 0 v.toInt64) u2 A2 T2 N2 C2 Y2 S2)) : ST l w k dL HH dM as (LH w k g u A T N C Y S) := by
  have hW := W0 _ v g lh_o hC
  rw [lh_up] at hW
  exact ⟨_, _, u2, A2, _, _, 0, v, hW, lh_m, hM, hI, h0, fun _ => vpL_s⟩
/-- thrown -/
theorem ST.bad (I : INV len a9 ct sg F X bs Fs Xs u A) (hW : Cw l w dL HH 1 6 (.ref (wB w + k) :: (as ++ [.ref (wB w + (k + 145))])) (LH w k g u A (sg, A 6, d9) (nT (A 0) (A 0 152) z) C (nI a9, nI ct, b9, F, X, Z) (bs, Fs, Xs, Zs)) none (LH w k g u A (sg, A 6, d9) (nT (A 0) (A 0 152) z) C (nI a9, nI ct, b9, F, X, Z) (bs, Fs, Xs, Zs)) none (some (.int r))) (hr : r ≠ 0) (hM : ∀ hs9 : Hs, Cn l w dM 0 0 (.ref (wB w + (k + 137)) :: as) (modH w hs9 (k + 137) u A) none (modH w hs9 (k + 137) (upd u 0 r) A) none (some (.int 0))) : ST l w k dL HH dM as (LH w k g u A (sg, A 6, d9) (nT (A 0) (A 0 152) z) C (nI a9, nI ct, b9, F, X, Z) (bs, Fs, Xs, Zs)) :=
  ⟨_, _, upd u 0 r, A, g, _, r, 0, hW, lh_m, Cn.lM (hM _), LI.of (I.cu (pk_un (by decide)) (pk_un (by decide))), pk_us, fun q => absurd q hr⟩
/-- .. the trial written to -/
theorem ST.badx (I : INV len a9 ct sg F X bs Fs Xs u A) (hW : Cw l w dL HH 1 6 (.ref (wB w + k) :: (as ++ [.ref (wB w + (k + 145))])) (LH w k g u A (sg, A 6, d9) (nT (A 0) (A 0 152) z) C (nI a9, nI ct, b9, F, X, Z) (bs, Fs, Xs, Zs)) none (LH w k g u A (sg, A 6, d9) (nT (A 0) (A 0 152) z) C (nI a9, nI ct, b9, F, X, Z) (bs, Fs, Xs, Zs)) none (some (.int r))) (hr : r ≠ 0) (hM : ∀ hs9 : Hs, ∃ A2 : Nat → Nat → Int32, (∀ i, i ≠ 1 → A2 i = A i) ∧ Cn l w dM 0 0 (.ref (wB w + (k + 137)) :: as) (modH w hs9 (k + 137) u A) none (modH w hs9 (k + 137) (upd u 0 r) A2) none (some (.int 0))) : ST l w k dL HH dM as (LH w k g u A (sg, A 6, d9) (nT (A 0) (A 0 152) z) C (nI a9, nI ct, b9, F, X, Z) (bs, Fs, Xs, Zs)) := by
  obtain ⟨A2, E, hm⟩ := hM (LH w k g u A (sg, A 6, d9) (nT (A 0) (A 0 152) z) C (nI a9, nI ct, b9, F, X, Z) (bs, Fs, Xs, Zs))
  refine ⟨_, _, upd u 0 r, A2, g, _, r, 0, hW, lh_m, Cn.lM hm, ?_, pk_us, fun q => absurd q hr⟩
  have e6 : A2 6 = A 6 := E 6 (by decide)
  have e0 : A2 0 = A 0 := E 0 (by decide)
  rw [← e6, ← e0]
  exact LI.of ((I.cu (pk_un (by decide)) (pk_un (by decide))).cA (fun i h1 _ => E i h1))
/-- asked -/
theorem ST.same (I : INV len a9 ct sg F X bs Fs Xs u A) (W0 : ∀ (hs9 : Hs) (v : Int32) (f : Nat → Int64), hs9 (k + 145) = some (.inl (wC w 2, 1, .inr (.inl f))) → Cn l w dX 0 0 (.ref (wB w + k) :: as) (LH w k g u A (sg, A 6, d9) (nT (A 0) (A 0 152) z) C (nI a9, nI ct, b9, F, X, Z) (bs, Fs, Xs, Zs)) none hs9 none (some (.int v)) → Cw l w dL HH 1 6 (.ref (wB w + k) :: (as ++ [.ref (wB w + (k + 145))])) (LH w k g u A (sg, A 6, d9) (nT (A 0) (A 0 152) z) C (nI a9, nI ct, b9, F, X, Z) (bs, Fs, Xs, Zs)) none (upH hs9 (k + 145) (.inl (wC w 2, 1, .inr (.inl (vp_updL f 0 v.toInt64))))) none (some (.int 0))) (hC : Cn l w dX 0 0 (.ref (wB w + k) :: as) (LH w k g u A (sg, A 6, d9) (nT (A 0) (A 0 152) z) C (nI a9, nI ct, b9, F, X, Z) (bs, Fs, Xs, Zs)) none (LH w k g u A (sg, A 6, d9) (nT (A 0) (A 0 152) z) C2 (nI a9, nI ct, b9, F, X, Z) (bs, Fs, Xs, Zs)) none (some (.int v))) (hM : ∀ hs9 : Hs, ∃ A2 : Nat → Nat → Int32, (∀ i, i ≠ 1 → A2 i = A i) ∧ Cn l w dM 0 0 (.ref (wB w + (k + 137)) :: as) (modH w hs9 (k + 137) u A) none (modH w hs9 (k + 137) (upd u 0 0) A2) none (some (.int v))) : ST l w k dL HH dM as (LH w k g u A (sg, A 6, d9) (nT (A 0) (A 0 152) z) C (nI a9, nI ct, b9, F, X, Z) (bs, Fs, Xs, Zs)) := by
  obtain ⟨A2, E, hm⟩ := hM (LH w k (vp_updL g 0 v.toInt64) u A (sg, A 6, d9) (nT (A 0) (A 0 152) z) C2 (nI a9, nI ct, b9, F, X, Z) (bs, Fs, Xs, Zs))
  refine ST.ok (T2 := (sg, A 6, d9)) (N2 := (nT (A 0) (A 0 152) z)) (Y2 := (nI a9, nI ct, b9, F, X, Z)) (S2 := (bs, Fs, Xs, Zs)) (C2 := C2) (u2 := upd u 0 0) (A2 := A2) W0 hC (Cn.lM hm) pk_us ?_
  have e6 : A2 6 = A 6 := E 6 (by decide)
  have e0 : A2 0 = A 0 := E 0 (by decide)
  rw [← e6, ← e0]
  exact LI.of ((I.cu (pk_un (by decide)) (pk_un (by decide))).cA (fun i h1 _ => E i h1))
theorem ST.q (I : INV len a9 ct sg F X bs Fs Xs u A) (W0 : ∀ (hs9 : Hs) (v : Int32) (f : Nat → Int64), hs9 (k + 145) = some (.inl (wC w 2, 1, .inr (.inl f))) → Cn l w dX 0 0 (.ref (wB w + k) :: as) (LH w k g u A (sg, A 6, d9) (nT (A 0) (A 0 152) z) C (nI a9, nI ct, b9, F, X, Z) (bs, Fs, Xs, Zs)) none hs9 none (some (.int v)) → Cw l w dL HH 1 6 (.ref (wB w + k) :: (as ++ [.ref (wB w + (k + 145))])) (LH w k g u A (sg, A 6, d9) (nT (A 0) (A 0 152) z) C (nI a9, nI ct, b9, F, X, Z) (bs, Fs, Xs, Zs)) none (upH hs9 (k + 145) (.inl (wC w 2, 1, .inr (.inl (vp_updL f 0 v.toInt64))))) none (some (.int 0))) (hC : Cn l w dX 0 0 (.ref (wB w + k) :: as) (LH w k g u A (sg, A 6, d9) (nT (A 0) (A 0 152) z) C (nI a9, nI ct, b9, F, X, Z) (bs, Fs, Xs, Zs)) none (LH w k g u A (sg, A 6, d9) (nT (A 0) (A 0 152) z) C2 (nI a9, nI ct, b9, F, X, Z) (bs, Fs, Xs, Zs)) none (some (.int v))) (hM : ∀ hs9 : Hs, Cn l w dM 0 0 (.ref (wB w + (k + 137)) :: as) (modH w hs9 (k + 137) u A) none (modH w hs9 (k + 137) (upd u 0 0) A) none (some (.int v))) : ST l w k dL HH dM as (LH w k g u A (sg, A 6, d9) (nT (A 0) (A 0 152) z) C (nI a9, nI ct, b9, F, X, Z) (bs, Fs, Xs, Zs)) := ST.same I W0 hC (fun hs9 => ⟨A, fun _ _ => rfl, hM hs9⟩)
/-- done -/
theorem ST.act {f2 : Nat → Int32} {x2 : Int32} {z2 : SZ} {b2 : Nat → Int32} {Z2 : SZZ} (I : INV len a9 ct sg F X bs Fs Xs u A) (W0 : ∀ (hs9 : Hs) (v : Int32) (f : Nat → Int64), hs9 (k + 145) = some (.inl (wC w 2, 1, .inr (.inl f))) → Cn l w dX 0 0 (.ref (wB w + k) :: as) (LH w k g u A (sg, A 6, d9) (nT (A 0) (A 0 152) z) C (nI a9, nI ct, b9, F, X, Z) (bs, Fs, Xs, Zs)) none hs9 none (some (.int v)) → Cw l w dL HH 1 6 (.ref (wB w + k) :: (as ++ [.ref (wB w + (k + 145))])) (LH w k g u A (sg, A 6, d9) (nT (A 0) (A 0 152) z) C (nI a9, nI ct, b9, F, X, Z) (bs, Fs, Xs, Zs)) none (upH hs9 (k + 145) (.inl (wC w 2, 1, .inr (.inl (vp_updL f 0 v.toInt64))))) none (some (.int 0))) (hx : x2 = f2 152) (hO : OKr f2) (hC : Cn l w dX 0 0 (.ref (wB w + k) :: as) (LH w k g u A (sg, A 6, d9) (nT (A 0) (A 0 152) z) C (nI a9, nI ct, b9, F, X, Z) (bs, Fs, Xs, Zs)) none (LH w k g u A (sg, A 6, d9) (nT f2 x2 z2) C (nI ((a9 + 1) % 14), nI (min (ct + 1) 14), b2, (fun q => if q = a9 then A 0 else F q), (fun q => if q = a9 then A 0 152 else X q), Z2) (bs, Fs, Xs, Zs)) none (some (.int v))) (hM : ∀ hs9 : Hs, Cn l w dM 0 0 (.ref (wB w + (k + 137)) :: as) (modH w hs9 (k + 137) u A) none (modH w hs9 (k + 137) (act u A ct v f2).2.2.1 (act u A ct v f2).2.2.2) none (some (.int v))) : ST l w k dL HH dM as (LH w k g u A (sg, A 6, d9) (nT (A 0) (A 0 152) z) C (nI a9, nI ct, b9, F, X, Z) (bs, Fs, Xs, Zs)) := by
  obtain ⟨i1, i2, i3, i4, i5, i6, i7, i8, i9⟩ := I
  subst hx
  rw [rmN_m i6] at hC
  have e0 : upA (RA A ct) 0 f2 0 = f2 := upA_s
  have e6 : upA (RA A ct) 0 f2 6 = A 6 := (upA_n (by decide)).trans (upA_n (by decide))
  refine ST.ok (u2 := RU u ct) (A2 := upA (RA A ct) 0 f2) W0 hC (Cn.lM (hM _)) ((pk_un (by decide)).trans pk_us) ?_
  have J : INV len ((a9 + 1) % 14) (rmN ct) sg (fun q => if q = a9 then A 0 else F q) (fun q => if q = a9 then A 0 152 else X q) bs Fs Xs (RU u ct) (upA (RA A ct) 0 f2) := by
    refine ⟨i1, i2, ((pk_un (by decide)).trans (pk_un (by decide))).trans i3, ?_, pk_us, ?_, Nat.mod_lt _ (by omega), ?_, i9.ext ((upA_n (by decide)).trans (upA_n (by decide))) ((upA_n (by decide)).trans (upA_n (by decide)))⟩
    · rw [e0]; exact hO
    · unfold rmN; split <;> omega
    · rw [show upA (RA A ct) 0 f2 3 = rmB (A 3) ct (A 0) from (upA_n (by decide)).trans upA_s]
      exact i8.rem i7 i6 i4 rfl
  have K := LI.of (w := w) (k := k) (g := vp_updL g 0 v.toInt64) (d9 := d9) (z := z2) (C := C) (b9 := b2) (Z := Z2) (Zs := Zs) J
  rw [e0, e6] at K
  exact K
end
theorem st_about {l : Launch} {w : Wt} {k : Nat} {g : Nat → Int64} {u : Nat → Int32} {A : Nat → Nat → Int32} {hs : Hs} (hl9 : l.stackTraces = false) (h : LI w k g u A hs) (a : Int32) : ST l w k mL_about [(0, 9, 12, 13)] mX6_about [.int a] hs := by
  obtain ⟨len, a9, ct, sg, d9, z, C, b9, F, X, Z, bs, Fs, Xs, Zs, I, rfl⟩ := h
  have hO : OKr (A 0) := I.2.2.2.1
  have h6 := hO.1.1.2.1
  have h9 := hO.2.2
  by_cases h0 : 0 ≤ a ∧ a ≤ 13
  · obtain ⟨i, i0, i1, rfl, i3⟩ := nI_le9 (a := 0) (b := 13) (by omega) (by omega) h0
    have e9 : rs_about u A (nI i) = (0, abV (A 0) i, upd u 0 0, A) := by unfold rs_about; rw [if_pos h0, i3]
    exact ST.q I (fun _ _ _ h1 h2 => w0_about lh_x h1 (Or.inl rfl) h2) (g_about hO rfl (by omega)) (fun hs9 => by have hm := m_about (l := l) (w := w) (hs := hs9) (n := none) (k := k + 137) (u := u) (A := A) hO (nI i); rw [e9] at hm; exact hm)
  · have e9 : rs_about u A a = bad 1 u A := by unfold rs_about; rw [if_neg h0]
    exact ST.bad I (wx_about2 lh_x (gx_about2 h0 hl9)) (by decide) (fun hs9 => by have hm := m_about (l := l) (w := w) (hs := hs9) (n := none) (k := k + 137) (u := u) (A := A) hO a; rw [e9] at hm; exact hm)
theorem st_gutterOf {l : Launch} {w : Wt} {k : Nat} {g : Nat → Int64} {u : Nat → Int32} {A : Nat → Nat → Int32} {hs : Hs} (hl9 : l.stackTraces = false) (h : LI w k g u A hs) (a b : Int32) : ST l w k mL_gutterOf [(0, 10, 13, 28), (0, 10, 17, 13)] mX6_gutterOf [.int a, .int b] hs := by
  obtain ⟨len, a9, ct, sg, d9, z, C, b9, F, X, Z, bs, Fs, Xs, Zs, I, rfl⟩ := h
  have hO : OKr (A 0) := I.2.2.2.1
  have h6 := hO.1.1.2.1
  have h9 := hO.2.2
  by_cases h0 : 0 ≤ a ∧ a < nI (gN (A 0))
  · obtain ⟨j, hj, rfl, j3⟩ := nI_box (by omega) h0
    by_cases h1 : 0 ≤ b ∧ b ≤ 6
    · obtain ⟨i, i0, i1, rfl, i3⟩ := nI_le9 (a := 0) (b := 6) (by omega) (by omega) h1
      have e9 : rs_gutterOf u A (nI j) (nI i) = (0, gtV (A 0) j i, upd u 0 0, A) := by unfold rs_gutterOf; rw [if_pos h0, if_pos h1, j3, i3]
      exact ST.q I (fun _ _ _ h1 h2 => w0_gutterOf lh_x h1 (Or.inl rfl) h2) (g_gutterOf hO hj (by omega)) (fun hs9 => by have hm := m_gutterOf (l := l) (w := w) (hs := hs9) (n := none) (k := k + 137) (u := u) (A := A) hO (nI j) (nI i); rw [e9] at hm; exact hm)
    · have e9 : rs_gutterOf u A (nI j) b = bad 2 u A := by unfold rs_gutterOf; rw [if_pos h0, if_neg h1]
      exact ST.bad I (wx_gutterOf2 lh_x (gx_gutterOf2 h0 h1 hl9)) (by decide) (fun hs9 => by have hm := m_gutterOf (l := l) (w := w) (hs := hs9) (n := none) (k := k + 137) (u := u) (A := A) hO (nI j) b; rw [e9] at hm; exact hm)
  · have e9 : rs_gutterOf u A a b = bad 1 u A := by unfold rs_gutterOf; rw [if_neg h0]
    exact ST.bad I (wx_gutterOf1 lh_x (gx_gutterOf1 h0 hl9)) (by decide) (fun hs9 => by have hm := m_gutterOf (l := l) (w := w) (hs := hs9) (n := none) (k := k + 137) (u := u) (A := A) hO a b; rw [e9] at hm; exact hm)
theorem st_boatOf {l : Launch} {w : Wt} {k : Nat} {g : Nat → Int64} {u : Nat → Int32} {A : Nat → Nat → Int32} {hs : Hs} (hl9 : l.stackTraces = false) (h : LI w k g u A hs) (a b : Int32) : ST l w k mL_boatOf [(0, 10, 13, 28), (0, 10, 17, 13)] mX6_boatOf [.int a, .int b] hs := by
  obtain ⟨len, a9, ct, sg, d9, z, C, b9, F, X, Z, bs, Fs, Xs, Zs, I, rfl⟩ := h
  have hO : OKr (A 0) := I.2.2.2.1
  have h6 := hO.1.1.2.1
  have h9 := hO.2.2
  by_cases h0 : 0 ≤ a ∧ a < nI (bN (A 0))
  · obtain ⟨j, hj, rfl, j3⟩ := nI_box (by omega) h0
    by_cases h1 : 0 ≤ b ∧ b ≤ 10
    · obtain ⟨i, i0, i1, rfl, i3⟩ := nI_le9 (a := 0) (b := 10) (by omega) (by omega) h1
      have e9 : rs_boatOf u A (nI j) (nI i) = (0, boV (A 0) j i, upd u 0 0, A) := by unfold rs_boatOf; rw [if_pos h0, if_pos h1, j3, i3]
      exact ST.q I (fun _ _ _ h1 h2 => w0_boatOf lh_x h1 (Or.inl rfl) h2) (g_boatOf hO hj (by omega)) (fun hs9 => by have hm := m_boatOf (l := l) (w := w) (hs := hs9) (n := none) (k := k + 137) (u := u) (A := A) hO (nI j) (nI i); rw [e9] at hm; exact hm)
    · have e9 : rs_boatOf u A (nI j) b = bad 2 u A := by unfold rs_boatOf; rw [if_pos h0, if_neg h1]
      exact ST.bad I (wx_boatOf2 lh_x (gx_boatOf2 h0 h1 hl9)) (by decide) (fun hs9 => by have hm := m_boatOf (l := l) (w := w) (hs := hs9) (n := none) (k := k + 137) (u := u) (A := A) hO (nI j) b; rw [e9] at hm; exact hm)
  · have e9 : rs_boatOf u A a b = bad 1 u A := by unfold rs_boatOf; rw [if_neg h0]
    exact ST.bad I (wx_boatOf1 lh_x (gx_boatOf1 h0 hl9)) (by decide) (fun hs9 => by have hm := m_boatOf (l := l) (w := w) (hs := hs9) (n := none) (k := k + 137) (u := u) (A := A) hO a b; rw [e9] at hm; exact hm)
theorem st_ownerOf {l : Launch} {w : Wt} {k : Nat} {g : Nat → Int64} {u : Nat → Int32} {A : Nat → Nat → Int32} {hs : Hs} (hl9 : l.stackTraces = false) (h : LI w k g u A hs) (a b : Int32) : ST l w k mL_ownerOf [(0, 10, 13, 28), (0, 10, 17, 13)] mX6_ownerOf [.int a, .int b] hs := by
  obtain ⟨len, a9, ct, sg, d9, z, C, b9, F, X, Z, bs, Fs, Xs, Zs, I, rfl⟩ := h
  have hO : OKr (A 0) := I.2.2.2.1
  have h6 := hO.1.1.2.1
  have h9 := hO.2.2
  by_cases h0 : 0 ≤ a ∧ a ≤ 3
  · obtain ⟨j, j0, j1, rfl, j3⟩ := nI_le9 (a := 0) (b := 3) (by omega) (by omega) h0
    by_cases h1 : 0 ≤ b ∧ b ≤ 4
    · obtain ⟨i, i0, i1, rfl, i3⟩ := nI_le9 (a := 0) (b := 4) (by omega) (by omega) h1
      have e9 : rs_ownerOf u A (nI j) (nI i) = (0, owV (A 0) j i, upd u 0 0, A) := by unfold rs_ownerOf; rw [if_pos h0, if_pos h1, j3, i3]
      exact ST.q I (fun _ _ _ h1 h2 => w0_ownerOf lh_x h1 (Or.inl rfl) h2) (g_ownerOf hO (by omega) (by omega)) (fun hs9 => by have hm := m_ownerOf (l := l) (w := w) (hs := hs9) (n := none) (k := k + 137) (u := u) (A := A) hO (nI j) (nI i); rw [e9] at hm; exact hm)
    · have e9 : rs_ownerOf u A (nI j) b = bad 2 u A := by unfold rs_ownerOf; rw [if_pos h0, if_neg h1]
      exact ST.bad I (wx_ownerOf2 lh_x (gx_ownerOf2 h0 h1 hl9)) (by decide) (fun hs9 => by have hm := m_ownerOf (l := l) (w := w) (hs := hs9) (n := none) (k := k + 137) (u := u) (A := A) hO (nI j) b; rw [e9] at hm; exact hm)
  · have e9 : rs_ownerOf u A a b = bad 1 u A := by unfold rs_ownerOf; rw [if_neg h0]
    exact ST.bad I (wx_ownerOf1 lh_x (gx_ownerOf1 h0 hl9)) (by decide) (fun hs9 => by have hm := m_ownerOf (l := l) (w := w) (hs := hs9) (n := none) (k := k + 137) (u := u) (A := A) hO a b; rw [e9] at hm; exact hm)
theorem st_way {l : Launch} {w : Wt} {k : Nat} {g : Nat → Int64} {u : Nat → Int32} {A : Nat → Nat → Int32} {hs : Hs} (hl9 : l.stackTraces = false) (h : LI w k g u A hs) (a b y : Int32) : ST l w k mL_way [(0, 12, 15, 28), (0, 12, 19, 13)] mX6_way [.int a, .int b, .int y] hs := by
  obtain ⟨len, a9, ct, sg, d9, z, C, b9, F, X, Z, bs, Fs, Xs, Zs, I, rfl⟩ := h
  have hO : OKr (A 0) := I.2.2.2.1
  have h6 := hO.1.1.2.1
  have h9 := hO.2.2
  by_cases h0 : icl (A 0) (gN (A 0)) a b = true
  · by_cases h1 : 0 ≤ y ∧ y ≤ 1
    · have e9 : rs_way u A a b y = (0, drn (A 0) 6 0 a.toNatClampNeg b, upd u 0 0, A) := by unfold rs_way; rw [if_pos h0, if_pos h1]
      exact ST.q I (fun _ _ _ h1 h2 => w0_way lh_x h1 (Or.inl rfl) h2) (g_way hO h0 h1) (fun hs9 => by have hm := m_way (l := l) (w := w) (hs := hs9) (n := none) (k := k + 137) (u := u) (A := A) hO a b y; rw [e9] at hm; exact hm)
    · have e9 : rs_way u A a b y = bad 2 u A := by unfold rs_way; rw [if_pos h0, if_neg h1]
      exact ST.bad I (wx_way2 lh_x (gx_way2 hO h0 h1 hl9)) (by decide) (fun hs9 => by have hm := m_way (l := l) (w := w) (hs := hs9) (n := none) (k := k + 137) (u := u) (A := A) hO a b y; rw [e9] at hm; exact hm)
  · have e9 : rs_way u A a b y = bad 1 u A := by unfold rs_way; rw [if_neg h0]
    exact ST.bad I (wx_way1 lh_x (gx_way1 hO h0 hl9)) (by decide) (fun hs9 => by have hm := m_way (l := l) (w := w) (hs := hs9) (n := none) (k := k + 137) (u := u) (A := A) hO a b y; rw [e9] at hm; exact hm)
theorem st_setting {l : Launch} {w : Wt} {k : Nat} {g : Nat → Int64} {u : Nat → Int32} {A : Nat → Nat → Int32} {hs : Hs} (hl9 : l.stackTraces = false) (h : LI w k g u A hs) (a : Int32) : ST l w k mL_setting [(0, 9, 12, 13)] mX6_setting [.int a] hs := by
  obtain ⟨len, a9, ct, sg, d9, z, C, b9, F, X, Z, bs, Fs, Xs, Zs, I, rfl⟩ := h
  have hO : OKr (A 0) := I.2.2.2.1
  have h6 := hO.1.1.2.1
  have h9 := hO.2.2
  by_cases h0 : 0 ≤ a ∧ a ≤ 2
  · obtain ⟨i, i0, i1, rfl, i3⟩ := nI_le9 (a := 0) (b := 2) (by omega) (by omega) h0
    have e9 : rs_setting u A (nI i) = (0, A 0 (154 + i), upd u 0 0, A) := by unfold rs_setting; rw [if_pos h0, i3]
    exact ST.q I (fun _ _ _ h1 h2 => w0_setting lh_x h1 (Or.inl rfl) h2) (g_setting (by omega)) (fun hs9 => by have hm := m_setting (l := l) (w := w) (hs := hs9) (n := none) (k := k + 137) (u := u) (A := A) hO (nI i); rw [e9] at hm; exact hm)
  · have e9 : rs_setting u A a = bad 1 u A := by unfold rs_setting; rw [if_neg h0]
    exact ST.bad I (wx_setting2 lh_x (gx_setting2 h0 hl9)) (by decide) (fun hs9 => by have hm := m_setting (l := l) (w := w) (hs := hs9) (n := none) (k := k + 137) (u := u) (A := A) hO a; rw [e9] at hm; exact hm)
theorem st_why {l : Launch} {w : Wt} {k : Nat} {g : Nat → Int64} {u : Nat → Int32} {A : Nat → Nat → Int32} {hs : Hs} (hl9 : l.stackTraces = false) (h : LI w k g u A hs) (a b : Int32) : ST l w k mL_why [(0, 10, 13, 28)] mX6_why [.int a, .int b] hs := by
  obtain ⟨len, a9, ct, sg, d9, z, C, b9, F, X, Z, bs, Fs, Xs, Zs, I, rfl⟩ := h
  have hO : OKr (A 0) := I.2.2.2.1
  have h6 := hO.1.1.2.1
  have h9 := hO.2.2
  by_cases h0 : (0 ≤ a ∧ a ≤ 3) ∧ (0 ≤ b ∧ b < nI (bN (A 0)))
  · obtain ⟨j, j0, j1, rfl, j3⟩ := nI_le9 (a := 0) (b := 3) (by omega) (by omega) h0.1
    obtain ⟨i, hi, rfl, i3⟩ := nI_box (by omega) h0.2
    have e9 : rs_why u A (nI j) (nI i) = (0, whyF (A 0) j i, upd u 0 0, A) := by unfold rs_why; rw [if_pos h0, j3, i3]
    exact ST.q I (fun _ _ _ h1 h2 => w0_why lh_x h1 (Or.inl rfl) h2) (g_why hO (by omega) hi) (fun hs9 => by have hm := m_why (l := l) (w := w) (hs := hs9) (n := none) (k := k + 137) (u := u) (A := A) hO (nI j) (nI i); rw [e9] at hm; exact hm)
  · have e9 : rs_why u A a b = bad 1 u A := by unfold rs_why; rw [if_neg h0]
    exact ST.bad I (wx_why1 lh_x (gx_why1 h0 hl9)) (by decide) (fun hs9 => by have hm := m_why (l := l) (w := w) (hs := hs9) (n := none) (k := k + 137) (u := u) (A := A) hO a b; rw [e9] at hm; exact hm)
theorem st_append {l : Launch} {w : Wt} {k : Nat} {g : Nat → Int64} {u : Nat → Int32} {A : Nat → Nat → Int32} {hs : Hs} (hl9 : l.stackTraces = false) (h : LI w k g u A hs) (a : Int32) : ST l w k mL_append [(0, 9, 12, 13), (0, 9, 15, 15)] mX6_append [.int a] hs := by
  obtain ⟨len, a9, ct, sg, d9, z, C, b9, F, X, Z, bs, Fs, Xs, Zs, I, rfl⟩ := h
  have hO : OKr (A 0) := I.2.2.2.1
  have h6 := hO.1.1.2.1
  have h9 := hO.2.2
  obtain ⟨i1, i2, i3, i4, i5, i6, i7, i8, i9⟩ := id I
  have hm := fun hs9 => m_append (l := l) (w := w) (hs := hs9) (n := none) (k := k + 137) (u := u) (A := A) i3 i2 a
  by_cases h0 : 0 ≤ a ∧ a ≤ 255
  · by_cases h1 : len = 120
    · have e9 : rs_append u A len a = bad 2 u A := by unfold rs_append; rw [if_pos h0, if_pos h1]
      rw [e9] at hm
      exact ST.bad I (wx_append3 lh_x (gx_append3 i1 h1 h0 hl9)) (by decide) hm
    · have e9 : rs_append u A len a = (0, nI (len + 1), upd (upd u 0 0) 2 (nI (len + 1)), upA A 6 (upd (A 6) len a)) := by unfold rs_append; rw [if_pos h0, if_neg h1]
      rw [e9] at hm
      refine ST.ok (u2 := upd (upd u 0 0) 2 (nI (len + 1))) (A2 := upA A 6 (upd (A 6) len a)) (fun _ _ _ h1 h2 => w0_append lh_x h1 (Or.inl rfl) h2) (g_append i1 (by omega) h0) (Cn.lM (hm _)) ((pk_un (by decide)).trans pk_us) ?_
      have J : INV (len + 1) a9 ct (upd sg 0 (nI (len + 1))) F X bs Fs Xs (upd (upd u 0 0) 2 (nI (len + 1))) (upA A 6 (upd (A 6) len a)) := ⟨pk_us, by omega, pk_us, i4, ((pk_un (by decide)).trans (pk_un (by decide))).trans i5, i6, i7, i8, i9.ext rfl rfl⟩
      exact LI.of J
  · have e9 : rs_append u A len a = bad 1 u A := by unfold rs_append; rw [if_neg h0]
    rw [e9] at hm
    exact ST.bad I (wx_append2 lh_x (gx_append2 (len := len) h0 hl9)) (by decide) hm
