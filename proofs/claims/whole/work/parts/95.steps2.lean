/-! .. actions, slots, forecasts -/
theorem st_gutter {l : Launch} {w : Wt} {k : Nat} {g : Nat → Int64} {u : Nat → Int32} {A : Nat → Nat → Int32} {hs : Hs} (hl9 : l.stackTraces = false) (h : LI w k g u A hs) (a b c e : Int32) : ST l w k mL_gutter [(0, 14, 17, 28), (0, 14, 21, 13), (0, 14, 25, 15)] mX6_gutter [.int a, .int b, .int c, .int e] hs := by
  obtain ⟨len, a9, ct, sg, d9, z, C, b9, F, X, Z, bs, Fs, Xs, Zs, I, rfl⟩ := h
  have hO : OKr (A 0) := I.2.2.2.1
  have h6 := hO.1.1.2.1
  have h9 := hO.2.2
  obtain ⟨i1, i2, i3, i4, i5, i6, i7, i8, i9⟩ := id I
  by_cases h0 : gN (A 0) = 0 ∨ icl (A 0) (gN (A 0)) c e = true
  · by_cases h1 : (4 ≤ a ∧ a ≤ 40) ∧ (0 ≤ b ∧ b ≤ 5)
    · by_cases h2 : gN (A 0) < 6
      · have e9 : rs_gutter u A ct a b c e = act u A ct (nI (gN (A 0))) (adgF (A 0) (gN (A 0)) a b c e) := by unfold rs_gutter; rw [if_pos h0, if_pos h1, if_pos h2]
        have hO2 : OKr (adgF (A 0) (gN (A 0)) a b c e) := by have q := pfG_ok (a := a) (b := b) (c := c) (d := e) hO; rw [show pfG (A 0) a b c e = (true, adgF (A 0) (gN (A 0)) a b c e) from if_pos ⟨h1, h2, h0⟩] at q; exact q
        have hf : fltG (A 0) a b c e = 0 := by unfold fltG; rw [if_pos h0, if_pos h1, if_pos h2]
        exact ST.act I (fun _ _ _ h1 h2 => w0_gutter lh_x h1 (Or.inl rfl) h2) (adgF_n (by omega) (by omega)).symm hO2 (g_gutter hO i7 i6 hf h2) (fun hs9 => by have hm := m_gutter (l := l) (w := w) (hs := hs9) (n := none) (k := k + 137) (u := u) (A := A) hO i5 i6 a b c e; rw [e9] at hm; exact hm)
      · have e9 : rs_gutter u A ct a b c e = bad 3 u A := by unfold rs_gutter; rw [if_pos h0, if_pos h1, if_neg h2]
        exact ST.bad I (wx_gutter3 lh_x (gx_gutter hO (i := 3) ⟨by omega, by omega⟩ (by unfold fltG; rw [if_pos h0, if_pos h1, if_neg h2]; rfl) hl9)) (by decide) (fun hs9 => by have hm := m_gutter (l := l) (w := w) (hs := hs9) (n := none) (k := k + 137) (u := u) (A := A) hO i5 i6 a b c e; rw [e9] at hm; exact hm)
    · have e9 : rs_gutter u A ct a b c e = bad 2 u A := by unfold rs_gutter; rw [if_pos h0, if_neg h1]
      exact ST.bad I (wx_gutter2 lh_x (gx_gutter hO (i := 2) ⟨by omega, by omega⟩ (by unfold fltG; rw [if_pos h0, if_neg h1]; rfl) hl9)) (by decide) (fun hs9 => by have hm := m_gutter (l := l) (w := w) (hs := hs9) (n := none) (k := k + 137) (u := u) (A := A) hO i5 i6 a b c e; rw [e9] at hm; exact hm)
  · have e9 : rs_gutter u A ct a b c e = bad 1 u A := by unfold rs_gutter; rw [if_neg h0]
    exact ST.bad I (wx_gutter1 lh_x (gx_gutter hO (i := 1) ⟨by omega, by omega⟩ (by unfold fltG; rw [if_neg h0]; rfl) hl9)) (by decide) (fun hs9 => by have hm := m_gutter (l := l) (w := w) (hs := hs9) (n := none) (k := k + 137) (u := u) (A := A) hO i5 i6 a b c e; rw [e9] at hm; exact hm)
theorem st_boat {l : Launch} {w : Wt} {k : Nat} {g : Nat → Int64} {u : Nat → Int32} {A : Nat → Nat → Int32} {hs : Hs} (hl9 : l.stackTraces = false) (h : LI w k g u A hs) (a b c : Int32) : ST l w k mL_boat [(0, 12, 15, 28), (0, 12, 19, 13), (0, 12, 23, 15)] mX6_boat [.int a, .int b, .int c] hs := by
  obtain ⟨len, a9, ct, sg, d9, z, C, b9, F, X, Z, bs, Fs, Xs, Zs, I, rfl⟩ := h
  have hO : OKr (A 0) := I.2.2.2.1
  have h6 := hO.1.1.2.1
  have h9 := hO.2.2
  obtain ⟨i1, i2, i3, i4, i5, i6, i7, i8, i9⟩ := id I
  by_cases h0 : 0 ≤ c ∧ c ≤ 3
  · by_cases h1 : (1 ≤ a ∧ a ≤ 9) ∧ (0 ≤ b ∧ b ≤ 3)
    · by_cases h2 : bN (A 0) < 10
      · have e9 : rs_boat u A ct a b c = act u A ct (nI (bN (A 0))) (adbF (A 0) (bN (A 0)) a b c) := by unfold rs_boat; rw [if_pos h0, if_pos h1, if_pos h2]
        have hO2 : OKr (adbF (A 0) (bN (A 0)) a b c) := by have q := pfB_ok (a := a) (b := b) (c := c) hO; rw [show pfB (A 0) a b c = (true, adbF (A 0) (bN (A 0)) a b c) from if_pos ⟨h0, h1, h2⟩] at q; exact q
        have hf : fltB (A 0) a b c = 0 := by unfold fltB; rw [if_pos h0, if_pos h1, if_pos h2]
        exact ST.act I (fun _ _ _ h1 h2 => w0_boat lh_x h1 (Or.inl rfl) h2) (adbF_n (by omega) (by omega)).symm hO2 (g_boat hO i7 i6 hf h2) (fun hs9 => by have hm := m_boat (l := l) (w := w) (hs := hs9) (n := none) (k := k + 137) (u := u) (A := A) hO i5 i6 a b c; rw [e9] at hm; exact hm)
      · have e9 : rs_boat u A ct a b c = bad 3 u A := by unfold rs_boat; rw [if_pos h0, if_pos h1, if_neg h2]
        exact ST.bad I (wx_boat3 lh_x (gx_boat hO (i := 3) ⟨by omega, by omega⟩ (by unfold fltB; rw [if_pos h0, if_pos h1, if_neg h2]; rfl) hl9)) (by decide) (fun hs9 => by have hm := m_boat (l := l) (w := w) (hs := hs9) (n := none) (k := k + 137) (u := u) (A := A) hO i5 i6 a b c; rw [e9] at hm; exact hm)
    · have e9 : rs_boat u A ct a b c = bad 2 u A := by unfold rs_boat; rw [if_pos h0, if_neg h1]
      exact ST.bad I (wx_boat2 lh_x (gx_boat hO (i := 2) ⟨by omega, by omega⟩ (by unfold fltB; rw [if_pos h0, if_neg h1]; rfl) hl9)) (by decide) (fun hs9 => by have hm := m_boat (l := l) (w := w) (hs := hs9) (n := none) (k := k + 137) (u := u) (A := A) hO i5 i6 a b c; rw [e9] at hm; exact hm)
  · have e9 : rs_boat u A ct a b c = bad 1 u A := by unfold rs_boat; rw [if_neg h0]
    exact ST.bad I (wx_boat1 lh_x (gx_boat hO (i := 1) ⟨by omega, by omega⟩ (by unfold fltB; rw [if_neg h0]; rfl) hl9)) (by decide) (fun hs9 => by have hm := m_boat (l := l) (w := w) (hs := hs9) (n := none) (k := k + 137) (u := u) (A := A) hO i5 i6 a b c; rw [e9] at hm; exact hm)
theorem st_launch {l : Launch} {w : Wt} {k : Nat} {g : Nat → Int64} {u : Nat → Int32} {A : Nat → Nat → Int32} {hs : Hs} (hl9 : l.stackTraces = false) (h : LI w k g u A hs) (a b : Int32) : ST l w k mL_launch [(0, 10, 13, 28), (0, 10, 17, 15)] mX6_launch [.int a, .int b] hs := by
  obtain ⟨len, a9, ct, sg, d9, z, C, b9, F, X, Z, bs, Fs, Xs, Zs, I, rfl⟩ := h
  have hO : OKr (A 0) := I.2.2.2.1
  have h6 := hO.1.1.2.1
  have h9 := hO.2.2
  obtain ⟨i1, i2, i3, i4, i5, i6, i7, i8, i9⟩ := id I
  by_cases h0 : (0 ≤ a ∧ a < nI (bN (A 0))) ∧ (0 ≤ b ∧ b < nI (gN (A 0)))
  · obtain ⟨j, hj, rfl, j3⟩ := nI_box (by omega) h0.1
    obtain ⟨i, hi, rfl, q3⟩ := nI_box (by omega) h0.2
    by_cases h1 : A 0 (24 + 10 * j + 3) = 0
    · have e9 : rs_launch u A ct (nI j) (nI i) = act u A ct (drn (A 0) 6 0 i 0) (lnF (A 0) (bN (A 0)) j (nI i)) := by unfold rs_launch; rw [if_pos h0, j3, q3, if_pos h1]
      have hO2 : OKr (lnF (A 0) (bN (A 0)) j (nI i)) := by have q := pfL_ok (a := nI j) (b := nI i) hO; rw [show pfL (A 0) (nI j) (nI i) = (true, lnF (A 0) (bN (A 0)) j (nI i)) by unfold pfL; rw [j3, if_pos ⟨h0, h1⟩]] at q; exact q
      have hf : fltL (A 0) (nI j) (nI i) = 0 := by unfold fltL; rw [if_pos h0, j3, if_pos h1]
      exact ST.act I (fun _ _ _ h1 h2 => w0_launch lh_x h1 (Or.inl rfl) h2) (lnF_152 (by omega)).symm hO2 (g_launch hO i7 i6 hj hi h1 hf) (fun hs9 => by have hm := m_launch (l := l) (w := w) (hs := hs9) (n := none) (k := k + 137) (u := u) (A := A) hO i5 i6 (nI j) (nI i); rw [e9] at hm; exact hm)
    · have e9 : rs_launch u A ct (nI j) (nI i) = bad 2 u A := by unfold rs_launch; rw [if_pos h0, j3, if_neg h1]
      exact ST.bad I (wx_launch3 lh_x (gx_launch hO (i := 3) ⟨by omega, by omega⟩ (by unfold fltL; rw [if_pos h0, j3, if_neg h1]; rfl) hl9)) (by decide) (fun hs9 => by have hm := m_launch (l := l) (w := w) (hs := hs9) (n := none) (k := k + 137) (u := u) (A := A) hO i5 i6 (nI j) (nI i); rw [e9] at hm; exact hm)
  · have e9 : rs_launch u A ct a b = bad 1 u A := by unfold rs_launch; rw [if_neg h0]
    exact ST.bad I (wx_launch1 lh_x (gx_launch hO (i := 1) ⟨by omega, by omega⟩ (by unfold fltL; rw [if_neg h0]; rfl) hl9)) (by decide) (fun hs9 => by have hm := m_launch (l := l) (w := w) (hs := hs9) (n := none) (k := k + 137) (u := u) (A := A) hO i5 i6 a b; rw [e9] at hm; exact hm)
theorem st_hook {l : Launch} {w : Wt} {k : Nat} {g : Nat → Int64} {u : Nat → Int32} {A : Nat → Nat → Int32} {hs : Hs} (hl9 : l.stackTraces = false) (h : LI w k g u A hs) (a b c : Int32) : ST l w k mL_hook [(0, 12, 15, 28)] mX6_hook [.int a, .int b, .int c] hs := by
  obtain ⟨len, a9, ct, sg, d9, z, C, b9, F, X, Z, bs, Fs, Xs, Zs, I, rfl⟩ := h
  have hO : OKr (A 0) := I.2.2.2.1
  have h6 := hO.1.1.2.1
  have h9 := hO.2.2
  obtain ⟨i1, i2, i3, i4, i5, i6, i7, i8, i9⟩ := id I
  by_cases h0 : (0 ≤ a ∧ a ≤ 3) ∧ icl (A 0) (gN (A 0)) b c = true
  · obtain ⟨j, j0, j1, rfl, j3⟩ := nI_le9 (a := 0) (b := 3) (by omega) (by omega) h0.1
    have e9 : rs_hook u A ct (nI j) b c = act u A ct (nI (clbF (hokF (A 0) j b c) (bN (A 0)) j)) (hokF (A 0) j b c) := by unfold rs_hook; rw [if_pos h0, j3]
    have hO2 : OKr (hokF (A 0) j b c) := by have q := pfH_ok (a := nI j) (b := b) (c := c) hO; rw [show pfH (A 0) (nI j) b c = (true, hokF (A 0) j b c) by unfold pfH; rw [if_pos h0, j3]] at q; exact q
    have hf : fltH (A 0) (nI j) b c = 0 := by unfold fltH; rw [if_pos h0]
    exact ST.act I (fun _ _ _ h1 h2 => w0_hook lh_x h1 (Or.inl rfl) h2) (show A 0 152 = hokF (A 0) j b c 152 by unfold hokF; rw [pk_un (by omega), pk_un (by omega)]) hO2 (g_hook hO i7 i6 (by omega) hf hO2.1) (fun hs9 => by have hm := m_hook (l := l) (w := w) (hs := hs9) (n := none) (k := k + 137) (u := u) (A := A) hO i5 i6 (nI j) b c; rw [e9] at hm; exact hm)
  · have e9 : rs_hook u A ct a b c = bad 1 u A := by unfold rs_hook; rw [if_neg h0]
    exact ST.bad I (wx_hook1 lh_x (gx_hook hO (i := 1) ⟨by omega, by omega⟩ (by unfold fltH; rw [if_neg h0]; rfl) hl9)) (by decide) (fun hs9 => by have hm := m_hook (l := l) (w := w) (hs := hs9) (n := none) (k := k + 137) (u := u) (A := A) hO i5 i6 a b c; rw [e9] at hm; exact hm)
theorem st_claim {l : Launch} {w : Wt} {k : Nat} {g : Nat → Int64} {u : Nat → Int32} {A : Nat → Nat → Int32} {hs : Hs} (hl9 : l.stackTraces = false) (h : LI w k g u A hs) (a b : Int32) : ST l w k mL_claim [(0, 10, 13, 28)] mX6_claim [.int a, .int b] hs := by
  obtain ⟨len, a9, ct, sg, d9, z, C, b9, F, X, Z, bs, Fs, Xs, Zs, I, rfl⟩ := h
  have hO : OKr (A 0) := I.2.2.2.1
  have h6 := hO.1.1.2.1
  have h9 := hO.2.2
  obtain ⟨i1, i2, i3, i4, i5, i6, i7, i8, i9⟩ := id I
  by_cases h0 : (0 ≤ a ∧ a ≤ 3) ∧ (0 ≤ b ∧ b < nI (bN (A 0)))
  · obtain ⟨j, j0, j1, rfl, j3⟩ := nI_le9 (a := 0) (b := 3) (by omega) (by omega) h0.1
    obtain ⟨i, hi, rfl, q3⟩ := nI_box (by omega) h0.2
    have e9 : rs_claim u A ct (nI j) (nI i) = act u A ct (whyF (A 0) j i) (clmF (A 0) j i) := by unfold rs_claim; rw [if_pos h0, j3, q3]
    have hO2 : OKr (clmF (A 0) j i) := by have q := pfT_ok (a := nI j) (b := nI i) hO; rw [show pfT (A 0) (nI j) (nI i) = (decide (whyF (A 0) j i = 0), clmF (A 0) j i) by unfold pfT; rw [if_pos h0, j3, q3]] at q; exact q
    have hf : fltC (A 0) (nI j) (nI i) = 0 := by unfold fltC; rw [if_pos h0]
    exact ST.act I (fun _ _ _ h1 h2 => w0_claim lh_x h1 (Or.inl rfl) h2) rfl hO2 (g_claim hO i7 i6 (by omega) hi hf rfl) (fun hs9 => by have hm := m_claim (l := l) (w := w) (hs := hs9) (n := none) (k := k + 137) (u := u) (A := A) hO i5 i6 (nI j) (nI i); rw [e9] at hm; exact hm)
  · have e9 : rs_claim u A ct a b = bad 1 u A := by unfold rs_claim; rw [if_neg h0]
    exact ST.bad I (wx_claim1 lh_x (gx_claim hO (i := 1) ⟨by omega, by omega⟩ (by unfold fltC; rw [if_neg h0]; rfl) hl9)) (by decide) (fun hs9 => by have hm := m_claim (l := l) (w := w) (hs := hs9) (n := none) (k := k + 137) (u := u) (A := A) hO i5 i6 a b; rw [e9] at hm; exact hm)
theorem st_minutes {l : Launch} {w : Wt} {k : Nat} {g : Nat → Int64} {u : Nat → Int32} {A : Nat → Nat → Int32} {hs : Hs} (hl9 : l.stackTraces = false) (h : LI w k g u A hs) (a : Int32) : ST l w k mL_minutes [(0, 9, 12, 13)] mX6_minutes [.int a] hs := by
  obtain ⟨len, a9, ct, sg, d9, z, C, b9, F, X, Z, bs, Fs, Xs, Zs, I, rfl⟩ := h
  have hO : OKr (A 0) := I.2.2.2.1
  have h6 := hO.1.1.2.1
  have h9 := hO.2.2
  obtain ⟨i1, i2, i3, i4, i5, i6, i7, i8, i9⟩ := id I
  by_cases h0 : 1 ≤ a ∧ a ≤ 60
  · obtain ⟨i, q0, q1, rfl, q3⟩ := nI_le9 (a := 1) (b := 60) (by omega) (by omega) h0
    have e9 : rs_minutes u A ct (nI i) = act u A ct (nI (gms (bN (A 0)) i (A 0)).1) (gms (bN (A 0)) i (A 0)).2 := by unfold rs_minutes; rw [if_pos h0, q3]
    have hO2 : OKr (gms (bN (A 0)) i (A 0)).2 := by have q := pfM_ok (a := nI i) hO; rw [show pfM (A 0) (nI i) = (true, (gms (bN (A 0)) i (A 0)).2) by unfold pfM; rw [if_pos h0, q3]] at q; exact q
    exact ST.act I (fun _ _ _ h1 h2 => w0_minutes lh_x h1 (Or.inl rfl) h2) (gms_152 _ _ hO.1).symm hO2 (g_minutes hO i7 i6 ⟨q0, q1⟩) (fun hs9 => by have hm := m_minutes (l := l) (w := w) (hs := hs9) (n := none) (k := k + 137) (u := u) (A := A) hO i5 i6 (nI i); rw [e9] at hm; exact hm)
  · have e9 : rs_minutes u A ct a = bad 1 u A := by unfold rs_minutes; rw [if_neg h0]
    exact ST.bad I (wx_minutes2 lh_x (gx_minutes2 h0 hl9)) (by decide) (fun hs9 => by have hm := m_minutes (l := l) (w := w) (hs := hs9) (n := none) (k := k + 137) (u := u) (A := A) hO i5 i6 a; rw [e9] at hm; exact hm)
theorem st_set {l : Launch} {w : Wt} {k : Nat} {g : Nat → Int64} {u : Nat → Int32} {A : Nat → Nat → Int32} {hs : Hs} (hl9 : l.stackTraces = false) (h : LI w k g u A hs) (a b : Int32) : ST l w k mL_set [(0, 10, 13, 13)] mX6_set [.int a, .int b] hs := by
  obtain ⟨len, a9, ct, sg, d9, z, C, b9, F, X, Z, bs, Fs, Xs, Zs, I, rfl⟩ := h
  have hO : OKr (A 0) := I.2.2.2.1
  have h6 := hO.1.1.2.1
  have h9 := hO.2.2
  obtain ⟨i1, i2, i3, i4, i5, i6, i7, i8, i9⟩ := id I
  by_cases h0 : isSetP a b
  · obtain ⟨j, hj, rfl, j3⟩ := isSetP_k h0
    have e9 : rs_set u A ct (nI j) b = act u A ct (A 0 (154 + j)) (upd (A 0) (154 + j) b) := by unfold rs_set; rw [if_pos h0, j3]
    have hO2 : OKr (upd (A 0) (154 + j) b) := by have q := pfS_ok (a := nI j) (b := b) hO; rw [show pfS (A 0) (nI j) b = (true, upd (A 0) (154 + j) b) by unfold pfS; rw [if_pos h0, j3]] at q; exact q
    exact ST.act I (fun _ _ _ h1 h2 => w0_set lh_x h1 (Or.inl rfl) h2) (pk_un (by omega)).symm hO2 (g_set hO i7 i6 hj h0) (fun hs9 => by have hm := m_set (l := l) (w := w) (hs := hs9) (n := none) (k := k + 137) (u := u) (A := A) hO i5 i6 (nI j) b; rw [e9] at hm; exact hm)
  · have e9 : rs_set u A ct a b = bad 1 u A := by unfold rs_set; rw [if_neg h0]
    exact ST.bad I (wx_set2 lh_x (gx_set2 h0 hl9)) (by decide) (fun hs9 => by have hm := m_set (l := l) (w := w) (hs := hs9) (n := none) (k := k + 137) (u := u) (A := A) hO i5 i6 a b; rw [e9] at hm; exact hm)
theorem st_undo {l : Launch} {w : Wt} {k : Nat} {g : Nat → Int64} {u : Nat → Int32} {A : Nat → Nat → Int32} {hs : Hs} (hl9 : l.stackTraces = false) (h : LI w k g u A hs)  : ST l w k mL_undo [(0, 8, 11, 15)] mX6_undo [] hs := by
  obtain ⟨len, a9, ct, sg, d9, z, C, b9, F, X, Z, bs, Fs, Xs, Zs, I, rfl⟩ := h
  have hO : OKr (A 0) := I.2.2.2.1
  have h6 := hO.1.1.2.1
  have h9 := hO.2.2
  obtain ⟨i1, i2, i3, i4, i5, i6, i7, i8, i9⟩ := id I
  rcases Nat.eq_zero_or_pos ct with c0 | c0
  · subst c0
    have e9 : rt_undo u A 0 = bad 1 u A := rfl
    exact ST.bad I (wx_undo3 lh_x (gx_undo3 (ct := 0) hl9)) (by decide) (fun hs9 => by have hm := n_undo (l := l) (w := w) (hs := hs9) (n := none) (k := k + 137) (u := u) (A := A) i5 i6; rw [e9] at hm; exact hm)
  · obtain ⟨m, rfl⟩ : ∃ m, ct = m + 1 := ⟨ct - 1, by omega⟩
    obtain ⟨b1, b2, b3⟩ := i8.back i7 (by omega)
    have e9 : rt_undo u A (m + 1) = (0, nI m, upd (upd u 0 0) 1 (nI m), upA A 0 (sl (A 3) m)) := rfl
    have hC := g_undo (l := l) (w := w) (hs := modH w (upH (fun _ => none) (k + 145) (.inl (wC w 2, 1, .inr (.inl g)))) (k + 137) u A) (n := none) (k := k) (T := (sg, A 6, d9)) (C := C) (S := (bs, Fs, Xs, Zs)) (bh := b9) (Fh := F) (Xh := X) (Zh := Z) (s9 := sF (A 0) (A 0 152)) (g9 := gF (A 0) z) (r9 := rF (A 0)) (a9 := a9) (ct := m) i7 (by omega) (by rw [b3.2 150 (by omega)]; exact b2.2.1.u01.symm)
    rw [b3.nT b2] at hC
    have hm : ∀ hs9 : Hs, Cn l w mX6_undo 0 0 [.ref (wB w + (k + 137))] (modH w hs9 (k + 137) u A) none (modH w hs9 (k + 137) (upd (upd u 0 0) 1 (nI m)) (upA A 0 (sl (A 3) m))) none (some (.int (nI m))) := fun hs9 => by have hm := n_undo (l := l) (w := w) (hs := hs9) (n := none) (k := k + 137) (u := u) (A := A) i5 i6; rw [e9] at hm; exact hm
    have e0 : upA A 0 (sl (A 3) m) 0 = sl (A 3) m := upA_s
    have e6 : upA A 0 (sl (A 3) m) 6 = A 6 := upA_n (by decide)
    refine ST.ok (u2 := upd (upd u 0 0) 1 (nI m)) (A2 := upA A 0 (sl (A 3) m)) (fun _ _ _ h1 h2 => w0_undo lh_x h1 (Or.inl rfl) h2) hC (Cn.lM (hm _)) ((pk_un (by decide)).trans pk_us) ?_
    have J : INV len ((a9 + 13) % 14) m sg F X bs Fs Xs (upd (upd u 0 0) 1 (nI m)) (upA A 0 (sl (A 3) m)) := ⟨i1, i2, ((pk_un (by decide)).trans (pk_un (by decide))).trans i3, by rw [e0]; exact b2, pk_us, by omega, Nat.mod_lt _ (by omega), b1, i9.ext (upA_n (by decide)) (upA_n (by decide))⟩
    have K := LI.of (w := w) (k := k) (g := vp_updL g 0 (nI m).toInt64) (d9 := d9) (z := Z ((a9 + 13) % 14)) (C := C) (b9 := b9) (Z := Z) (Zs := Zs) J
    rw [e0, e6] at K
    exact K
theorem st_save {l : Launch} {w : Wt} {k : Nat} {g : Nat → Int64} {u : Nat → Int32} {A : Nat → Nat → Int32} {hs : Hs} (hl9 : l.stackTraces = false) (h : LI w k g u A hs) (a : Int32) : ST l w k mL_save [(0, 9, 12, 28)] mX6_save [.int a] hs := by
  obtain ⟨len, a9, ct, sg, d9, z, C, b9, F, X, Z, bs, Fs, Xs, Zs, I, rfl⟩ := h
  have hO : OKr (A 0) := I.2.2.2.1
  have h6 := hO.1.1.2.1
  have h9 := hO.2.2
  obtain ⟨i1, i2, i3, i4, i5, i6, i7, i8, i9⟩ := id I
  by_cases h0 : 0 ≤ a ∧ a ≤ 1
  · obtain ⟨i, q0, q1, rfl, q3⟩ := nI_le9 (a := 0) (b := 1) (by omega) (by omega) h0
    have e9 : rs_save u A (nI i) = (0, A 0 148, upd u 0 0, upA (upA A 4 (wrB (A 4) i (A 0) 157)) 5 (upd (A 5) i 1)) := by unfold rs_save; rw [if_pos h0, q3]
    have hm : ∀ hs9 : Hs, Cn l w mX6_save 0 0 [.ref (wB w + (k + 137)), .int (nI i)] (modH w hs9 (k + 137) u A) none (modH w hs9 (k + 137) (upd u 0 0) (upA (upA A 4 (wrB (A 4) i (A 0) 157)) 5 (upd (A 5) i 1))) none (some (.int (A 0 148))) := fun hs9 => by have hm := m_save (l := l) (w := w) (hs := hs9) (n := none) (k := k + 137) (u := u) (A := A) (nI i); rw [e9] at hm; exact hm
    refine ST.ok (u2 := upd u 0 0) (A2 := upA (upA A 4 (wrB (A 4) i (A 0) 157)) 5 (upd (A 5) i 1)) (fun _ _ _ h1 h2 => w0_save lh_x h1 (Or.inl rfl) h2) (g_save (by omega) hO) (Cn.lM (hm _)) pk_us ?_
    have e0 : upA (upA A 4 (wrB (A 4) i (A 0) 157)) 5 (upd (A 5) i 1) 0 = A 0 := (upA_n (by decide)).trans (upA_n (by decide))
    have e3 : upA (upA A 4 (wrB (A 4) i (A 0) 157)) 5 (upd (A 5) i 1) 3 = A 3 := (upA_n (by decide)).trans (upA_n (by decide))
    have e6 : upA (upA A 4 (wrB (A 4) i (A 0) 157)) 5 (upd (A 5) i 1) 6 = A 6 := (upA_n (by decide)).trans (upA_n (by decide))
    have J : INV len a9 ct sg F X (upd bs i 1) (fun q => if q = i then A 0 else Fs q) (fun q => if q = i then A 0 152 else Xs q) (upd u 0 0) (upA (upA A 4 (wrB (A 4) i (A 0) 157)) 5 (upd (A 5) i 1)) := ⟨i1, i2, (pk_un (by decide)).trans i3, by rw [e0]; exact i4, (pk_un (by decide)).trans i5, i6, i7, by rw [e3]; exact i8, i9.save hO rfl⟩
    have K := LI.of (w := w) (k := k) (g := vp_updL g 0 (A 0 148).toInt64) (d9 := d9) (z := z) (C := C) (b9 := b9) (Z := Z) (Zs := fun q => if q = i then z else Zs q) J
    rw [e0, e6] at K
    exact K
  · have e9 : rs_save u A a = bad 1 u A := by unfold rs_save; rw [if_neg h0]
    exact ST.bad I (wx_save1 lh_x (gx_save1 h0 hl9)) (by decide) (fun hs9 => by have hm := m_save (l := l) (w := w) (hs := hs9) (n := none) (k := k + 137) (u := u) (A := A) a; rw [e9] at hm; exact hm)
theorem st_restore {l : Launch} {w : Wt} {k : Nat} {g : Nat → Int64} {u : Nat → Int32} {A : Nat → Nat → Int32} {hs : Hs} (hl9 : l.stackTraces = false) (h : LI w k g u A hs) (a : Int32) : ST l w k mL_restore [(0, 9, 12, 28), (0, 9, 15, 15)] mX6_restore [.int a] hs := by
  obtain ⟨len, a9, ct, sg, d9, z, C, b9, F, X, Z, bs, Fs, Xs, Zs, I, rfl⟩ := h
  have hO : OKr (A 0) := I.2.2.2.1
  have h6 := hO.1.1.2.1
  have h9 := hO.2.2
  obtain ⟨i1, i2, i3, i4, i5, i6, i7, i8, i9⟩ := id I
  by_cases h0 : 0 ≤ a ∧ a ≤ 1
  · obtain ⟨i, q0, q1, rfl, q3⟩ := nI_le9 (a := 0) (b := 1) (by omega) (by omega) h0
    obtain ⟨s1, s2⟩ := i9 i (by omega)
    by_cases h1 : A 5 i = 0
    · have e9 : rt_restore u A (nI i) = bad 2 u A := by unfold rt_restore; rw [if_pos h0, q3, if_pos h1]
      exact ST.bad I (wx_restore3 lh_x (gx_restore2 (by omega) (s1.trans h1) hl9)) (by decide) (fun hs9 => by have hm := n_restore (l := l) (w := w) (hs := hs9) (n := none) (k := k + 137) (u := u) (A := A) (nI i); rw [e9] at hm; exact hm)
    · obtain ⟨s3, s4⟩ := s2 h1
      have e9 : rt_restore u A (nI i) = (0, sl (A 4) i 148, upd (upd u 0 0) 1 0, upA A 0 (sl (A 4) i)) := by unfold rt_restore; rw [if_pos h0, q3, if_neg h1]
      have hC := g_restore (l := l) (w := w) (hs := modH w (upH (fun _ => none) (k + 145) (.inl (wC w 2, 1, .inr (.inl g)))) (k + 137) u A) (n := none) (k := k) (T := (sg, A 6, d9)) (C := C) (a9 := nI a9) (b9 := nI ct) (bh := b9) (Fh := F) (Xh := X) (Zh := Z) (bs := bs) (Fs := Fs) (Xs := Xs) (Zs := Zs) (s9 := sF (A 0) (A 0 152)) (g9 := gF (A 0) z) (r9 := rF (A 0)) (i := i) (by omega) (fun q => h1 (s1.symm.trans q)) (by rw [s4.2 150 (by omega)]; exact s3.2.1.u01.symm)
      rw [s4.nT s3, s4.2 148 (by omega)] at hC
      have hm : ∀ hs9 : Hs, Cn l w mX6_restore 0 0 [.ref (wB w + (k + 137)), .int (nI i)] (modH w hs9 (k + 137) u A) none (modH w hs9 (k + 137) (upd (upd u 0 0) 1 0) (upA A 0 (sl (A 4) i))) none (some (.int (sl (A 4) i 148))) := fun hs9 => by have hm := n_restore (l := l) (w := w) (hs := hs9) (n := none) (k := k + 137) (u := u) (A := A) (nI i); rw [e9] at hm; exact hm
      have e0 : upA A 0 (sl (A 4) i) 0 = sl (A 4) i := upA_s
      have e6 : upA A 0 (sl (A 4) i) 6 = A 6 := upA_n (by decide)
      refine ST.ok (u2 := upd (upd u 0 0) 1 0) (A2 := upA A 0 (sl (A 4) i)) (fun _ _ _ h1 h2 => w0_restore lh_x h1 (Or.inl rfl) h2) hC (Cn.lM (hm _)) ((pk_un (by decide)).trans pk_us) ?_
      have J : INV len a9 0 sg F X bs Fs Xs (upd (upd u 0 0) 1 0) (upA A 0 (sl (A 4) i)) := ⟨i1, i2, ((pk_un (by decide)).trans (pk_un (by decide))).trans i3, by rw [e0]; exact s3, pk_us, by omega, i7, RG.zero, i9.ext (upA_n (by decide)) (upA_n (by decide))⟩
      have K := LI.of (w := w) (k := k) (g := vp_updL g 0 (sl (A 4) i 148).toInt64) (d9 := d9) (z := Zs i) (C := C) (b9 := b9) (Z := Z) (Zs := Zs) J
      rw [e0, e6] at K
      exact K
  · have e9 : rt_restore u A a = bad 1 u A := by unfold rt_restore; rw [if_neg h0]
    exact ST.bad I (wx_restore1 lh_x (gx_restore1 h0 hl9)) (by decide) (fun hs9 => by have hm := n_restore (l := l) (w := w) (hs := hs9) (n := none) (k := k + 137) (u := u) (A := A) a; rw [e9] at hm; exact hm)
theorem st_endsIn {l : Launch} {w : Wt} {k : Nat} {g : Nat → Int64} {u : Nat → Int32} {A : Nat → Nat → Int32} {hs : Hs} (hl9 : l.stackTraces = false) (h : LI w k g u A hs) (a b : Int32) : ST l w k mL_endsIn [(0, 10, 13, 28), (0, 10, 17, 13), (0, 10, 21, 15)] mX6_endsIn [.int a, .int b] hs := by
  obtain ⟨len, a9, ct, sg, d9, z, C, b9, F, X, Z, bs, Fs, Xs, Zs, I, rfl⟩ := h
  have hO : OKr (A 0) := I.2.2.2.1
  have h6 := hO.1.1.2.1
  have h9 := hO.2.2
  by_cases h0 : 0 ≤ a ∧ a < nI (bN (A 0))
  · obtain ⟨j, hj, rfl, j3⟩ := nI_box (by omega) h0
    by_cases h1 : 0 ≤ b ∧ b ≤ 1
    · obtain ⟨i, q0, q1, rfl, q3⟩ := nI_le9 (a := 0) (b := 1) (by omega) (by omega) h1
      by_cases h2 : A 0 (24 + 10 * j + 3) = 1
      · have e9 : rs_endsIn u A (nI j) (nI i) = (0, eiV ((gtl (bN (A 0)) j 94 (A 0)).2 (24 + 10 * j + 3)) (nI i) (nI (gtl (bN (A 0)) j 94 (A 0)).1), upd u 0 0, A) := by unfold rs_endsIn; rw [if_pos h0, if_pos h1, j3, if_pos h2]
        exact ST.same I (fun _ _ _ h1 h2 => w0_endsIn lh_x h1 (Or.inl rfl) h2) (g_endsIn hO hj q1 h2) (fun hs9 => by obtain ⟨tr, hm⟩ := m_endsIn (l := l) (w := w) (hs := hs9) (n := none) (k := k + 137) (u := u) (A := A) hO (nI j) (nI i); rw [e9] at hm; exact ⟨upA A 1 tr, fun i h1 => upA_n h1, hm⟩)
      · have e9 : rs_endsIn u A (nI j) (nI i) = bad 3 u A := by unfold rs_endsIn; rw [if_pos h0, if_pos h1, j3, if_neg h2]
        exact ST.badx I (wx_endsIn3 lh_x (gx_endsIn3 hO hj q1 h2 hl9)) (by decide) (fun hs9 => by obtain ⟨tr, hm⟩ := m_endsIn (l := l) (w := w) (hs := hs9) (n := none) (k := k + 137) (u := u) (A := A) hO (nI j) (nI i); rw [e9] at hm; exact ⟨upA A 1 tr, fun i h1 => upA_n h1, hm⟩)
    · have e9 : rs_endsIn u A (nI j) b = bad 2 u A := by unfold rs_endsIn; rw [if_pos h0, if_neg h1]
      exact ST.badx I (wx_endsIn2 lh_x (gx_endsIn2 h0 h1 hl9)) (by decide) (fun hs9 => by obtain ⟨tr, hm⟩ := m_endsIn (l := l) (w := w) (hs := hs9) (n := none) (k := k + 137) (u := u) (A := A) hO (nI j) b; rw [e9] at hm; exact ⟨upA A 1 tr, fun i h1 => upA_n h1, hm⟩)
  · have e9 : rs_endsIn u A a b = bad 1 u A := by unfold rs_endsIn; rw [if_neg h0]
    exact ST.badx I (wx_endsIn1 lh_x (gx_endsIn1 h0 hl9)) (by decide) (fun hs9 => by obtain ⟨tr, hm⟩ := m_endsIn (l := l) (w := w) (hs := hs9) (n := none) (k := k + 137) (u := u) (A := A) hO a b; rw [e9] at hm; exact ⟨upA A 1 tr, fun i h1 => upA_n h1, hm⟩)
theorem st_leastFolds {l : Launch} {w : Wt} {k : Nat} {g : Nat → Int64} {u : Nat → Int32} {A : Nat → Nat → Int32} {hs : Hs} (hl9 : l.stackTraces = false) (h : LI w k g u A hs) (a b : Int32) : ST l w k mL_leastFolds [(0, 10, 13, 28), (0, 10, 17, 13)] mX6_leastFolds [.int a, .int b] hs := by
  obtain ⟨len, a9, ct, sg, d9, z, C, b9, F, X, Z, bs, Fs, Xs, Zs, I, rfl⟩ := h
  have hO : OKr (A 0) := I.2.2.2.1
  have h6 := hO.1.1.2.1
  have h9 := hO.2.2
  by_cases h0 : 0 ≤ a ∧ a < nI (gN (A 0))
  · obtain ⟨j, hj, rfl, j3⟩ := nI_box (by omega) h0
    by_cases h1 : 0 ≤ b ∧ b ≤ 3
    · have e9 : rs_leastFolds u A (nI j) b = (0, (lfR (A 0) j b 9 1 (A 0)).1, upd u 0 0, A) := by unfold rs_leastFolds; rw [if_pos h0, if_pos h1, j3]
      obtain ⟨C2, hC⟩ := g_leastFolds (l := l) (w := w) (hs := modH w (upH (fun _ => none) (k + 145) (.inl (wC w 2, 1, .inr (.inl g)))) (k + 137) u A) (n := none) (k := k) (T := (sg, A 6, d9)) (C := C) (Y := (nI a9, nI ct, b9, F, X, Z)) (S := (bs, Fs, Xs, Zs)) (x := A 0 152) (z := z) hO hj h1
      exact ST.same I (fun _ _ _ h1 h2 => w0_leastFolds lh_x h1 (Or.inl rfl) h2) hC (fun hs9 => by obtain ⟨tr, hm⟩ := m_leastFolds (l := l) (w := w) (hs := hs9) (n := none) (k := k + 137) (u := u) (A := A) hO (nI j) b; rw [e9] at hm; exact ⟨upA A 1 tr, fun i h1 => upA_n h1, hm⟩)
    · have e9 : rs_leastFolds u A (nI j) b = bad 2 u A := by unfold rs_leastFolds; rw [if_pos h0, if_neg h1]
      exact ST.badx I (wx_leastFolds2 lh_x (gx_leastFolds2 h0 h1 hl9)) (by decide) (fun hs9 => by obtain ⟨tr, hm⟩ := m_leastFolds (l := l) (w := w) (hs := hs9) (n := none) (k := k + 137) (u := u) (A := A) hO (nI j) b; rw [e9] at hm; exact ⟨upA A 1 tr, fun i h1 => upA_n h1, hm⟩)
  · have e9 : rs_leastFolds u A a b = bad 1 u A := by unfold rs_leastFolds; rw [if_neg h0]
    exact ST.badx I (wx_leastFolds1 lh_x (gx_leastFolds1 h0 hl9)) (by decide) (fun hs9 => by obtain ⟨tr, hm⟩ := m_leastFolds (l := l) (w := w) (hs := hs9) (n := none) (k := k + 137) (u := u) (A := A) hO a b; rw [e9] at hm; exact ⟨upA A 1 tr, fun i h1 => upA_n h1, hm⟩)
theorem st_runScript {l : Launch} {w : Wt} {k : Nat} {g : Nat → Int64} {u : Nat → Int32} {A : Nat → Nat → Int32} {hs : Hs} (hl9 : l.stackTraces = false) (h : LI w k g u A hs) (a : Int32) (b : Int64) : ST l w k mL_runScript [(0, 11, 14, 13)] mX6_runScript [.int a, .long b] hs := by
  obtain ⟨len, a9, ct, sg, d9, z, C, b9, F, X, Z, bs, Fs, Xs, Zs, I, rfl⟩ := h
  have hO : OKr (A 0) := I.2.2.2.1
  have h6 := hO.1.1.2.1
  have h9 := hO.2.2
  by_cases h0 : 1 ≤ a ∧ a ≤ 3
  · obtain ⟨N9, q0, q1, rfl, q3⟩ := nI_le9 (a := 1) (b := 3) (by omega) (by omega) h0
    by_cases h1 : 0 ≤ b
    · obtain ⟨S9, hS9, rfl⟩ := pk_lOf (Int64.not_lt.mpr h1)
      have s3 : (lN S9).toInt.toNat = S9 := by rw [pk_lT hS9]; rfl
      by_cases h2 : lN S9 ≤ tnF (5 * N9) - 1
      · have e9 : rs_runScript u A (nI N9) (lN S9) = (0, (scR S9 N9 N9 0 (A 0)).1, upd u 0 0, A) := by unfold rs_runScript; rw [q3, if_pos ⟨h0, h1, h2⟩, s3]
        obtain ⟨C2, hC⟩ := g_runScript (l := l) (w := w) (hs := modH w (upH (fun _ => none) (k + 145) (.inl (wC w 2, 1, .inr (.inl g)))) (k + 137) u A) (n := none) (k := k) (T := (sg, A 6, d9)) (C := C) (Y := (nI a9, nI ct, b9, F, X, Z)) (S := (bs, Fs, Xs, Zs)) (x := A 0 152) (z := z) hO ⟨q0, q1⟩ hS9 h2
        exact ST.same I (fun _ _ _ h1 h2 => w0_runScript lh_x h1 (Or.inl rfl) h2) hC (fun hs9 => by obtain ⟨tr, hm⟩ := m_runScript (l := l) (w := w) (hs := hs9) (n := none) (k := k + 137) (u := u) (A := A) hO (nI N9) (lN S9); rw [e9] at hm; exact ⟨upA A 1 tr, fun i h1 => upA_n h1, hm⟩)
      · have e9 : rs_runScript u A (nI N9) (lN S9) = bad 1 u A := by unfold rs_runScript; rw [q3, if_neg (fun q => h2 q.2.2)]
        exact ST.badx I (wx_runScript2 lh_x (gx_runScript2c ⟨q0, q1⟩ hS9 h2 hl9)) (by decide) (fun hs9 => by obtain ⟨tr, hm⟩ := m_runScript (l := l) (w := w) (hs := hs9) (n := none) (k := k + 137) (u := u) (A := A) hO (nI N9) (lN S9); rw [e9] at hm; exact ⟨upA A 1 tr, fun i h1 => upA_n h1, hm⟩)
    · have e9 : rs_runScript u A (nI N9) b = bad 1 u A := by unfold rs_runScript; rw [q3, if_neg (fun q => h1 q.2.1)]
      exact ST.badx I (wx_runScript2 lh_x (gx_runScript2b h0 (Int64.not_le.mp h1) hl9)) (by decide) (fun hs9 => by obtain ⟨tr, hm⟩ := m_runScript (l := l) (w := w) (hs := hs9) (n := none) (k := k + 137) (u := u) (A := A) hO (nI N9) b; rw [e9] at hm; exact ⟨upA A 1 tr, fun i h1 => upA_n h1, hm⟩)
  · have e9 : rs_runScript u A a b = bad 1 u A := by unfold rs_runScript; rw [if_neg (fun q => h0 q.1)]
    exact ST.badx I (wx_runScript2 lh_x (gx_runScript2a h0 hl9)) (by decide) (fun hs9 => by obtain ⟨tr, hm⟩ := m_runScript (l := l) (w := w) (hs := hs9) (n := none) (k := k + 137) (u := u) (A := A) hO a b; rw [e9] at hm; exact ⟨upA A 1 tr, fun i h1 => upA_n h1, hm⟩)
theorem st_simulate {l : Launch} {w : Wt} {k : Nat} {g : Nat → Int64} {u : Nat → Int32} {A : Nat → Nat → Int32} {hs : Hs} (hl9 : l.stackTraces = false) (h : LI w k g u A hs) (b : Int64) (a : Int32) : ST l w k mL_simulate [(0, 11, 14, 13)] mX6_simulate [.long b, .int a] hs := by
  obtain ⟨len, a9, ct, sg, d9, z, C, b9, F, X, Z, bs, Fs, Xs, Zs, I, rfl⟩ := h
  have hO : OKr (A 0) := I.2.2.2.1
  have h6 := hO.1.1.2.1
  have h9 := hO.2.2
  by_cases h0 : 1 ≤ a ∧ a ≤ 60
  · obtain ⟨N9, q0, q1, rfl, q3⟩ := nI_le9 (a := 1) (b := 60) (by omega) (by omega) h0
    have e9 : rs_sim nxF sxF u A b (nI N9) = (0, smV (A 0) (itR nxF sxF N9 b (A 0)), upd u 0 0, A) := by unfold rs_sim; rw [if_pos h0, q3]
    obtain ⟨C2, hC⟩ := g_simulate (l := l) (w := w) (hs := modH w (upH (fun _ => none) (k + 145) (.inl (wC w 2, 1, .inr (.inl g)))) (k + 137) u A) (n := none) (k := k) (T := (sg, A 6, d9)) (C := C) (Y := (nI a9, nI ct, b9, F, X, Z)) (S := (bs, Fs, Xs, Zs)) (x := A 0 152) (z := z) hO ⟨q0, q1⟩ b
    exact ST.same I (fun _ _ _ h1 h2 => w0_simulate lh_x h1 (Or.inl rfl) h2) hC (fun hs9 => by obtain ⟨tr, hm⟩ := m_simulate (l := l) (w := w) (hs := hs9) (n := none) (k := k + 137) (u := u) (A := A) hO b (nI N9); rw [e9] at hm; exact ⟨upA A 1 tr, fun i h1 => upA_n h1, hm⟩)
  · have e9 : rs_sim nxF sxF u A b a = bad 1 u A := by unfold rs_sim; rw [if_neg h0]
    exact ST.badx I (wx_simulate2 lh_x (gx_simulate2 h0 hl9)) (by decide) (fun hs9 => by obtain ⟨tr, hm⟩ := m_simulate (l := l) (w := w) (hs := hs9) (n := none) (k := k + 137) (u := u) (A := A) hO b a; rw [e9] at hm; exact ⟨upA A 1 tr, fun i h1 => upA_n h1, hm⟩)
