/-! .. the text: load, and what needs no wrapper -/
theorem ld_ts {t : Nat → Int32} {len : Nat} {f sg dg : Nat → Int32} (hl : len ≤ 120) (h : (tsF t len f).1.2 = true) : (reR t len 120 1 sg dg (frF f) 0).2.2 = (tsF t len f).2 := by
  unfold tsF at h ⊢
  by_cases c : hrF t len 0 = 84
  · rw [if_pos c] at h ⊢
    exact re_rd 120 121 1 sg dg (frF f) 0 (by omega) (by omega) h
  · rw [if_neg c, rdA_f rfl] at h
    exact absurd h Bool.false_ne_true
theorem st_load {l : Launch} {w : Wt} {k : Nat} {g : Nat → Int64} {u : Nat → Int32} {A : Nat → Nat → Int32} {hs : Hs} (hl9 : l.stackTraces = false) (h : LI w k g u A hs)  : ST l w k mL_load [(0, 8, 11, 15)] mX6_load [] hs := by
  obtain ⟨len, a9, ct, sg, d9, z, C, b9, F, X, Z, bs, Fs, Xs, Zs, I, rfl⟩ := h
  have hO : OKr (A 0) := I.2.2.2.1
  have h6 := hO.1.1.2.1
  have h9 := hO.2.2
  obtain ⟨i1, i2, i3, i4, i5, i6, i7, i8, i9⟩ := id I
  have fe : (feA (A 6) len sg d9).1 = (tsF (A 6) len (A 2)).1 := fe_ts i2
  by_cases h0 : (tsF (A 6) len (A 2)).1.2 = true
  · have e9 : rt_load u A len = (0, (tsF (A 6) len (A 2)).2.2, upd (upd (sT5 u (tsF (A 6) len (A 2)).1.1 (tsF (A 6) len (A 2)).1.2 (tsF (A 6) len (A 2)).2.2) 0 0) 1 0, upA (upA (upA A 2 (tsF (A 6) len (A 2)).2.1) 0 (tsF (A 6) len (A 2)).2.1) 5 (upd (upd (A 5) 0 0) 1 0)) := by unfold rt_load; rw [if_pos h0]
    have hm : ∀ hs9 : Hs, Cn l w mX6_load 0 0 [.ref (wB w + (k + 137))] (modH w hs9 (k + 137) u A) none (modH w hs9 (k + 137) (upd (upd (sT5 u (tsF (A 6) len (A 2)).1.1 (tsF (A 6) len (A 2)).1.2 (tsF (A 6) len (A 2)).2.2) 0 0) 1 0) (upA (upA (upA A 2 (tsF (A 6) len (A 2)).2.1) 0 (tsF (A 6) len (A 2)).2.1) 5 (upd (upd (A 5) 0 0) 1 0))) none (some (.int ((tsF (A 6) len (A 2)).2.2))) := fun hs9 => by have hm := n_load (l := l) (w := w) (hs := hs9) (n := none) (k := k + 137) (u := u) (A := A) i3 i2; rw [e9] at hm; exact hm
    have hC := g_load (l := l) (w := w) (hs := modH w (upH (fun _ => none) (k + 145) (.inl (wC w 2, 1, .inr (.inl g)))) (k + 137) u A) (n := none) (k := k) (C := C) (s9 := sF (A 0) (A 0 152)) (g9 := gF (A 0) z) (r9 := rF (A 0)) (sg := sg) (c9 := A 6) (d9 := d9) (len := len) (a9 := nI a9) (b9 := nI ct) (bh := b9) (Fh := F) (Xh := X) (Zh := Z) (bs := bs) (Fs := Fs) (Xs := Xs) (Zs := Zs) (A 2) i1 i2 (by rw [fe]; exact h0) OKr_fr
    have ld := ld_ts (sg := upd (feA (A 6) len sg d9).2.1 1 (nI 1)) (dg := (feA (A 6) len sg d9).2.2) i2 h0
    have l1 : (reR (A 6) len 120 1 (upd (feA (A 6) len sg d9).2.1 1 (nI 1)) (feA (A 6) len sg d9).2.2 (frF (A 2)) 0).2.2.1 = (tsF (A 6) len (A 2)).2.1 := congrArg Prod.fst ld
    have l2 : (reR (A 6) len 120 1 (upd (feA (A 6) len sg d9).2.1 1 (nI 1)) (feA (A 6) len sg d9).2.2 (frF (A 2)) 0).2.2.2 = (tsF (A 6) len (A 2)).2.2 := congrArg Prod.snd ld
    have x0 : (tsF (A 6) len (A 2)).2.1 152 = 0 := by rw [← l1]; exact (reR_152 _ _ _ _ _ _ OKr_fr).trans (frF_0 (by omega) (fun o ho => by omega) (by omega) (by omega))
    have l3 : nT (tsF (A 6) len (A 2)).2.1 0 (gF (A 0) z) = nT (tsF (A 6) len (A 2)).2.1 ((tsF (A 6) len (A 2)).2.1 152) (gF (A 0) z) := by rw [x0]
    rw [l1, l2, l3] at hC
    have e0 : (upA (upA (upA A 2 (tsF (A 6) len (A 2)).2.1) 0 (tsF (A 6) len (A 2)).2.1) 5 (upd (upd (A 5) 0 0) 1 0)) 0 = (tsF (A 6) len (A 2)).2.1 := (upA_n (by decide)).trans upA_s
    have e6 : (upA (upA (upA A 2 (tsF (A 6) len (A 2)).2.1) 0 (tsF (A 6) len (A 2)).2.1) 5 (upd (upd (A 5) 0 0) 1 0)) 6 = A 6 := (upA_n (by decide)).trans ((upA_n (by decide)).trans (upA_n (by decide)))
    refine ST.ok (u2 := upd (upd (sT5 u (tsF (A 6) len (A 2)).1.1 (tsF (A 6) len (A 2)).1.2 (tsF (A 6) len (A 2)).2.2) 0 0) 1 0) (A2 := upA (upA (upA A 2 (tsF (A 6) len (A 2)).2.1) 0 (tsF (A 6) len (A 2)).2.1) 5 (upd (upd (A 5) 0 0) 1 0)) (fun _ _ _ h1 h2 => w0_load lh_x h1 (Or.inl rfl) h2) hC (Cn.lM (hm _)) ((pk_un (by decide)).trans pk_us) ?_
    have J : INV len a9 0 (reR (A 6) len 120 1 (upd (feA (A 6) len sg d9).2.1 1 (nI 1)) (feA (A 6) len sg d9).2.2 (frF (A 2)) 0).1 F X (clB bs 2) Fs Xs (upd (upd (sT5 u (tsF (A 6) len (A 2)).1.1 (tsF (A 6) len (A 2)).1.2 (tsF (A 6) len (A 2)).2.2) 0 0) 1 0) (upA (upA (upA A 2 (tsF (A 6) len (A 2)).2.1) 0 (tsF (A 6) len (A 2)).2.1) 5 (upd (upd (A 5) 0 0) 1 0)) := ⟨(reR_0 _ _ _ _ _ _).trans ((pk_un (by decide)).trans (feA_0.trans i1)), i2, ((pk_un (by decide)).trans (pk_un (by decide))).trans i3, by rw [e0]; exact tsF_ok, pk_us, by omega, i7, RG.zero, SG.clear upA_s⟩
    have K := LI.of (w := w) (k := k) (g := vp_updL g 0 ((tsF (A 6) len (A 2)).2.2).toInt64) (d9 := (reR (A 6) len 120 1 (upd (feA (A 6) len sg d9).2.1 1 (nI 1)) (feA (A 6) len sg d9).2.2 (frF (A 2)) 0).2.1) (z := gF (A 0) z) (C := C) (b9 := b9) (Z := Z) (Zs := Zs) J
    rw [e0, e6] at K
    exact K
  · have e9 : rt_load u A len = (1, 0, upd (sT5 u (tsF (A 6) len (A 2)).1.1 (tsF (A 6) len (A 2)).1.2 (tsF (A 6) len (A 2)).2.2) 0 1, upA A 2 (tsF (A 6) len (A 2)).2.1) := by unfold rt_load; rw [if_neg h0]
    have hm : ∀ hs9 : Hs, Cn l w mX6_load 0 0 [.ref (wB w + (k + 137))] (modH w hs9 (k + 137) u A) none (modH w hs9 (k + 137) (upd (sT5 u (tsF (A 6) len (A 2)).1.1 (tsF (A 6) len (A 2)).1.2 (tsF (A 6) len (A 2)).2.2) 0 1) (upA A 2 (tsF (A 6) len (A 2)).2.1)) none (some (.int (0))) := fun hs9 => by have hm := n_load (l := l) (w := w) (hs := hs9) (n := none) (k := k + 137) (u := u) (A := A) i3 i2; rw [e9] at hm; exact hm
    have e0 : (upA A 2 (tsF (A 6) len (A 2)).2.1) 0 = A 0 := upA_n (by decide)
    have e6 : (upA A 2 (tsF (A 6) len (A 2)).2.1) 6 = A 6 := upA_n (by decide)
    have J : INV len a9 ct (feA (A 6) len sg d9).2.1 F X bs Fs Xs (upd (sT5 u (tsF (A 6) len (A 2)).1.1 (tsF (A 6) len (A 2)).1.2 (tsF (A 6) len (A 2)).2.2) 0 1) (upA A 2 (tsF (A 6) len (A 2)).2.1) := ((I.cs feA_0).cu (pk_un (by decide)) (pk_un (by decide))).cA (fun i _ h2 => upA_n h2)
    have K := LI.of (w := w) (k := k) (g := g) (d9 := (feA (A 6) len sg d9).2.2) (z := z) (C := C) (b9 := b9) (Z := Z) (Zs := Zs) J
    rw [e0, e6] at K
    exact ⟨_, _, upd (sT5 u (tsF (A 6) len (A 2)).1.1 (tsF (A 6) len (A 2)).1.2 (tsF (A 6) len (A 2)).2.2) 0 1, upA A 2 (tsF (A 6) len (A 2)).2.1, g, _, 1, 0, wx_load3 lh_x (gx_load3 i1 i2 (by rw [fe]; exact Bool.eq_false_iff.mpr h0) hl9), lh_m, Cn.lM (hm _), K, pk_us, fun q => absurd q (by decide)⟩
theorem sn_clearText {l : Launch} {w : Wt} {k : Nat} {g : Nat → Int64} {u : Nat → Int32} {A : Nat → Nat → Int32} {hs : Hs} (h : LI w k g u A hs) : SN l w k mX5_clearText mX6_clearText g hs := by
  obtain ⟨len, a9, ct, sg, d9, z, C, b9, F, X, Z, bs, Fs, Xs, Zs, I, rfl⟩ := h
  obtain ⟨i1, i2, i3, i4, i5, i6, i7, i8, i9⟩ := id I
  have hm : ∀ hs9 : Hs, Cn l w mX6_clearText 0 0 [.ref (wB w + (k + 137))] (modH w hs9 (k + 137) u A) none (modH w hs9 (k + 137) (upd (upd u 0 0) 2 0) A) none (some (.int (nI len))) := fun hs9 => m_clearText i3 i2
  have J : INV 0 a9 ct (upd sg 0 0) F X bs Fs Xs (upd (upd u 0 0) 2 0) A := ⟨pk_us, by omega, pk_us, i4, ((pk_un (by decide)).trans (pk_un (by decide))).trans i5, i6, i7, i8, i9⟩
  exact ⟨_, _, upd (upd u 0 0) 2 0, A, _, nI len, g_clear i1, lh_m, Cn.lM (hm _), LI.of J⟩
theorem sn_errorPosition {l : Launch} {w : Wt} {k : Nat} {g : Nat → Int64} {u : Nat → Int32} {A : Nat → Nat → Int32} {hs : Hs} (h : LI w k g u A hs) : SN l w k mX5_errorPosition mX6_errorPosition g hs := by
  obtain ⟨len, a9, ct, sg, d9, z, C, b9, F, X, Z, bs, Fs, Xs, Zs, I, rfl⟩ := h
  obtain ⟨i1, i2, i3, i4, i5, i6, i7, i8, i9⟩ := id I
  have fe : (feA (A 6) len sg d9).1 = (tsF (A 6) len (A 2)).1 := fe_ts i2
  have hm : ∀ hs9 : Hs, Cn l w mX6_errorPosition 0 0 [.ref (wB w + (k + 137))] (modH w hs9 (k + 137) u A) none (modH w hs9 (k + 137) (sT5 (upd u 0 0) (tsF (A 6) len (A 2)).1.1 (tsF (A 6) len (A 2)).1.2 (tsF (A 6) len (A 2)).2.2) (upA A 2 (tsF (A 6) len (A 2)).2.1)) none (some (.int (if (tsF (A 6) len (A 2)).1.2 = true then -1 else nI (tsF (A 6) len (A 2)).1.1))) := fun hs9 => m_errorPosition i3 i2
  have hC := g_err (l := l) (w := w) (hs := modH w (upH (fun _ => none) (k + 145) (.inl (wC w 2, 1, .inr (.inl g)))) (k + 137) u A) (n := none) (k := k) (Y := (nI a9, nI ct, b9, F, X, Z)) (S := (bs, Fs, Xs, Zs)) (N := nT (A 0) (A 0 152) z) (C := C) (sg := sg) (c9 := A 6) (d9 := d9) (len := len) i1 i2
  rw [fe] at hC
  have e0 : (upA A 2 (tsF (A 6) len (A 2)).2.1) 0 = A 0 := upA_n (by decide)
  have e6 : (upA A 2 (tsF (A 6) len (A 2)).2.1) 6 = A 6 := upA_n (by decide)
  have J : INV len a9 ct (feA (A 6) len sg d9).2.1 F X bs Fs Xs (sT5 (upd u 0 0) (tsF (A 6) len (A 2)).1.1 (tsF (A 6) len (A 2)).1.2 (tsF (A 6) len (A 2)).2.2) (upA A 2 (tsF (A 6) len (A 2)).2.1) := ((I.cs feA_0).cu (pk_un (by decide)) (pk_un (by decide))).cA (fun i _ h2 => upA_n h2)
  have K := LI.of (w := w) (k := k) (g := g) (d9 := (feA (A 6) len sg d9).2.2) (z := z) (C := C) (b9 := b9) (Z := Z) (Zs := Zs) J
  rw [e0, e6] at K
  exact ⟨_, _, _, _, _, _, hC, lh_m, Cn.lM (hm _), K⟩
theorem sn_winner {l : Launch} {w : Wt} {k : Nat} {g : Nat → Int64} {u : Nat → Int32} {A : Nat → Nat → Int32} {hs : Hs} (h : LI w k g u A hs) : SN l w k mX5_winner mX6_winner g hs := by
  obtain ⟨len, a9, ct, sg, d9, z, C, b9, F, X, Z, bs, Fs, Xs, Zs, I, rfl⟩ := h
  obtain ⟨i1, i2, i3, i4, i5, i6, i7, i8, i9⟩ := id I
  have hC := g_winner (l := l) (w := w) (hs := modH w (upH (fun _ => none) (k + 145) (.inl (wC w 2, 1, .inr (.inl g)))) (k + 137) u A) (n := none) (k := k) (T := (sg, A 6, d9)) (C := C) (Y := (nI a9, nI ct, b9, F, X, Z)) (S := (bs, Fs, Xs, Zs)) (x := A 0 152) (z := z) i4
  obtain ⟨tr, hm⟩ := m_winner (l := l) (w := w) (hs := LH w k g u A (sg, A 6, d9) (nT (A 0) (A 0 152) z) (nT (lhe (bN (A 0)) 94 (A 0)) (A 0 152) z) (nI a9, nI ct, b9, F, X, Z) (bs, Fs, Xs, Zs)) (n := none) (k := k + 137) (u := u) (A := A) i4
  have e0 : upA A 1 tr 0 = A 0 := upA_n (by decide)
  have e6 : upA A 1 tr 6 = A 6 := upA_n (by decide)
  have J : INV len a9 ct sg F X bs Fs Xs (upd u 0 0) (upA A 1 tr) := (I.cu (pk_un (by decide)) (pk_un (by decide))).cA (fun i h1 _ => upA_n h1)
  have K := LI.of (w := w) (k := k) (g := g) (d9 := d9) (z := z) (C := nT (lhe (bN (A 0)) 94 (A 0)) (A 0 152) z) (b9 := b9) (Z := Z) (Zs := Zs) J
  rw [e0, e6] at K
  exact ⟨_, _, upd u 0 0, upA A 1 tr, _, wnR (A 0) (lhe (bN (A 0)) 94 (A 0)) (bN (A 0)) 0, hC, lh_m, Cn.lM hm, K⟩
