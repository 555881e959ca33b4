/-! what each call of the law does to an object's state, and answers -/
theorem fltG_0 {f : Nat → Int32} {a b c d : Int32} (h : fltG f a b c d = 0) : gN f < 6 := by
  unfold fltG at h
  split at h
  · split at h
    · split at h
      · assumption
      · exact absurd h (by decide)
    · exact absurd h (by decide)
  · exact absurd h (by decide)
theorem fltB_0 {f : Nat → Int32} {a b c : Int32} (h : fltB f a b c = 0) : bN f < 10 := by
  unfold fltB at h
  split at h
  · split at h
    · split at h
      · assumption
      · exact absurd h (by decide)
    · exact absurd h (by decide)
  · exact absurd h (by decide)
section
variable {l : Launch} {w : Wt} {hs0 : Hs} {k M : Nat} {σ : ZS} {H : Hs}
theorem q_about (hI : IS w hs0 k σ H) (hσ : OKs M σ) {i : Nat} (hi : i < 14) : Cw l w mL_about [(0, 6, 7, 15)] 0 0 [.ref (wB w + k), .int (nI i)] H none H none (some (.long (abV (zsF σ) i).toInt64)) := by
  obtain ⟨sg, d9, z, C, a9, bh, Fh, Xh, Zh, bs, Fs, Xs, Zs, h0, ha, hr, hs9, rfl⟩ := hI
  exact w0_about gb_0 (g_about hσ.2.1.1 rfl hi)
theorem q_gutterOf (hI : IS w hs0 k σ H) (hσ : OKs M σ) {j i : Nat} (hj : j < gN (zsF σ)) (hi : i < 7) : Cw l w mL_gutterOf [(0, 7, 8, 34), (0, 7, 13, 15)] 0 0 [.ref (wB w + k), .int (nI j), .int (nI i)] H none H none (some (.long (gtV (zsF σ) j i).toInt64)) := by
  obtain ⟨sg, d9, z, C, a9, bh, Fh, Xh, Zh, bs, Fs, Xs, Zs, h0, ha, hr, hs9, rfl⟩ := hI
  exact w0_gutterOf gb_0 (g_gutterOf hσ.2.1.1 hj hi)
theorem q_boatOf (hI : IS w hs0 k σ H) (hσ : OKs M σ) {j i : Nat} (hj : j < bN (zsF σ)) (hi : i < 11) : Cw l w mL_boatOf [(0, 7, 8, 34), (0, 7, 13, 15)] 0 0 [.ref (wB w + k), .int (nI j), .int (nI i)] H none H none (some (.long (boV (zsF σ) j i).toInt64)) := by
  obtain ⟨sg, d9, z, C, a9, bh, Fh, Xh, Zh, bs, Fs, Xs, Zs, h0, ha, hr, hs9, rfl⟩ := hI
  exact w0_boatOf gb_0 (g_boatOf hσ.2.1.1 hj hi)
theorem q_ownerOf (hI : IS w hs0 k σ H) (hσ : OKs M σ) {j i : Nat} (hj : j < 4) (hi : i < 5) : Cw l w mL_ownerOf [(0, 7, 8, 34), (0, 7, 13, 15)] 0 0 [.ref (wB w + k), .int (nI j), .int (nI i)] H none H none (some (.long (owV (zsF σ) j i).toInt64)) := by
  obtain ⟨sg, d9, z, C, a9, bh, Fh, Xh, Zh, bs, Fs, Xs, Zs, h0, ha, hr, hs9, rfl⟩ := hI
  exact w0_ownerOf gb_0 (g_ownerOf hσ.2.1.1 hj hi)
theorem q_way (hI : IS w hs0 k σ H) (hσ : OKs M σ) {a b y : Int32} (h : icl (zsF σ) (gN (zsF σ)) a b = true) (hy : 0 ≤ y ∧ y ≤ 1) : Cw l w mL_way [(0, 8, 9, 34), (0, 8, 15, 15)] 0 0 [.ref (wB w + k), .int a, .int b, .int y] H none H none (some (.long (drn (zsF σ) 6 0 a.toNatClampNeg b).toInt64)) := by
  obtain ⟨sg, d9, z, C, a9, bh, Fh, Xh, Zh, bs, Fs, Xs, Zs, h0, ha, hr, hs9, rfl⟩ := hI
  exact w0_way gb_0 (g_way hσ.2.1.1 h hy)
theorem q_setting (hI : IS w hs0 k σ H) (hσ : OKs M σ) {i : Nat} (hi : i < 3) : Cw l w mL_setting [(0, 6, 7, 15)] 0 0 [.ref (wB w + k), .int (nI i)] H none H none (some (.long ((zsF σ) (154 + i)).toInt64)) := by
  obtain ⟨sg, d9, z, C, a9, bh, Fh, Xh, Zh, bs, Fs, Xs, Zs, h0, ha, hr, hs9, rfl⟩ := hI
  exact w0_setting gb_0 (g_setting hi)
theorem q_why (hI : IS w hs0 k σ H) (hσ : OKs M σ) {j i : Nat} (hj : j < 4) (hi : i < bN (zsF σ)) : Cw l w mL_why [(0, 7, 8, 34)] 1 6 [.ref (wB w + k), .int (nI j), .int (nI i)] H none H none (some (.long (whyF (zsF σ) j i).toInt64)) := by
  obtain ⟨sg, d9, z, C, a9, bh, Fh, Xh, Zh, bs, Fs, Xs, Zs, h0, ha, hr, hs9, rfl⟩ := hI
  exact w0_why gb_0 (g_why hσ.2.1.1 hj hi)
theorem e_about (hI : IS w hs0 k σ H) (hσ : OKs M σ) {a : Int32} (h : ¬ (0 ≤ a ∧ a ≤ 13)) (hl9 : l.stackTraces = false) : Cw l w mL_about [(0, 6, 7, 15)] 1 6 [.ref (wB w + k), .int a] H none H none (some (.long (-9000000000000000002))) := by
  obtain ⟨sg, d9, z, C, a9, bh, Fh, Xh, Zh, bs, Fs, Xs, Zs, h0, ha, hr, hs9, rfl⟩ := hI
  exact wx_about2 gb_0 (gx_about2 h hl9)
theorem e_gutterOf1 (hI : IS w hs0 k σ H) (hσ : OKs M σ) {a b : Int32} (h : ¬ (0 ≤ a ∧ a < nI (gN (zsF σ)))) (hl9 : l.stackTraces = false) : Cw l w mL_gutterOf [(0, 7, 8, 34), (0, 7, 13, 15)] 1 6 [.ref (wB w + k), .int a, .int b] H none H none (some (.long (-9000000000000000001))) := by
  obtain ⟨sg, d9, z, C, a9, bh, Fh, Xh, Zh, bs, Fs, Xs, Zs, h0, ha, hr, hs9, rfl⟩ := hI
  exact wx_gutterOf1 gb_0 (gx_gutterOf1 h hl9)
theorem e_gutterOf2 (hI : IS w hs0 k σ H) (hσ : OKs M σ) {a b : Int32} (hj : 0 ≤ a ∧ a < nI (gN (zsF σ))) (h : ¬ (0 ≤ b ∧ b ≤ 6)) (hl9 : l.stackTraces = false) : Cw l w mL_gutterOf [(0, 7, 8, 34), (0, 7, 13, 15)] 1 6 [.ref (wB w + k), .int a, .int b] H none H none (some (.long (-9000000000000000002))) := by
  obtain ⟨sg, d9, z, C, a9, bh, Fh, Xh, Zh, bs, Fs, Xs, Zs, h0, ha, hr, hs9, rfl⟩ := hI
  exact wx_gutterOf2 gb_0 (gx_gutterOf2 hj h hl9)
theorem e_boatOf1 (hI : IS w hs0 k σ H) (hσ : OKs M σ) {a b : Int32} (h : ¬ (0 ≤ a ∧ a < nI (bN (zsF σ)))) (hl9 : l.stackTraces = false) : Cw l w mL_boatOf [(0, 7, 8, 34), (0, 7, 13, 15)] 1 6 [.ref (wB w + k), .int a, .int b] H none H none (some (.long (-9000000000000000001))) := by
  obtain ⟨sg, d9, z, C, a9, bh, Fh, Xh, Zh, bs, Fs, Xs, Zs, h0, ha, hr, hs9, rfl⟩ := hI
  exact wx_boatOf1 gb_0 (gx_boatOf1 h hl9)
theorem e_boatOf2 (hI : IS w hs0 k σ H) (hσ : OKs M σ) {a b : Int32} (hj : 0 ≤ a ∧ a < nI (bN (zsF σ))) (h : ¬ (0 ≤ b ∧ b ≤ 10)) (hl9 : l.stackTraces = false) : Cw l w mL_boatOf [(0, 7, 8, 34), (0, 7, 13, 15)] 1 6 [.ref (wB w + k), .int a, .int b] H none H none (some (.long (-9000000000000000002))) := by
  obtain ⟨sg, d9, z, C, a9, bh, Fh, Xh, Zh, bs, Fs, Xs, Zs, h0, ha, hr, hs9, rfl⟩ := hI
  exact wx_boatOf2 gb_0 (gx_boatOf2 hj h hl9)
theorem e_ownerOf1 (hI : IS w hs0 k σ H) (hσ : OKs M σ) {a b : Int32} (h : ¬ (0 ≤ a ∧ a ≤ 3)) (hl9 : l.stackTraces = false) : Cw l w mL_ownerOf [(0, 7, 8, 34), (0, 7, 13, 15)] 1 6 [.ref (wB w + k), .int a, .int b] H none H none (some (.long (-9000000000000000001))) := by
  obtain ⟨sg, d9, z, C, a9, bh, Fh, Xh, Zh, bs, Fs, Xs, Zs, h0, ha, hr, hs9, rfl⟩ := hI
  exact wx_ownerOf1 gb_0 (gx_ownerOf1 h hl9)
theorem e_ownerOf2 (hI : IS w hs0 k σ H) (hσ : OKs M σ) {a b : Int32} (hj : 0 ≤ a ∧ a ≤ 3) (h : ¬ (0 ≤ b ∧ b ≤ 4)) (hl9 : l.stackTraces = false) : Cw l w mL_ownerOf [(0, 7, 8, 34), (0, 7, 13, 15)] 1 6 [.ref (wB w + k), .int a, .int b] H none H none (some (.long (-9000000000000000002))) := by
  obtain ⟨sg, d9, z, C, a9, bh, Fh, Xh, Zh, bs, Fs, Xs, Zs, h0, ha, hr, hs9, rfl⟩ := hI
  exact wx_ownerOf2 gb_0 (gx_ownerOf2 hj h hl9)
theorem e_way1 (hI : IS w hs0 k σ H) (hσ : OKs M σ) {a b y : Int32} (h : ¬ icl (zsF σ) (gN (zsF σ)) a b = true) (hl9 : l.stackTraces = false) : Cw l w mL_way [(0, 8, 9, 34), (0, 8, 15, 15)] 1 6 [.ref (wB w + k), .int a, .int b, .int y] H none H none (some (.long (-9000000000000000001))) := by
  obtain ⟨sg, d9, z, C, a9, bh, Fh, Xh, Zh, bs, Fs, Xs, Zs, h0, ha, hr, hs9, rfl⟩ := hI
  exact wx_way1 gb_0 (gx_way1 hσ.2.1.1 h hl9)
theorem e_way2 (hI : IS w hs0 k σ H) (hσ : OKs M σ) {a b y : Int32} (h : icl (zsF σ) (gN (zsF σ)) a b = true) (hy : ¬ (0 ≤ y ∧ y ≤ 1)) (hl9 : l.stackTraces = false) : Cw l w mL_way [(0, 8, 9, 34), (0, 8, 15, 15)] 1 6 [.ref (wB w + k), .int a, .int b, .int y] H none H none (some (.long (-9000000000000000002))) := by
  obtain ⟨sg, d9, z, C, a9, bh, Fh, Xh, Zh, bs, Fs, Xs, Zs, h0, ha, hr, hs9, rfl⟩ := hI
  exact wx_way2 gb_0 (gx_way2 hσ.2.1.1 h hy hl9)
theorem e_setting (hI : IS w hs0 k σ H) (hσ : OKs M σ) {a : Int32} (h : ¬ (0 ≤ a ∧ a ≤ 2)) (hl9 : l.stackTraces = false) : Cw l w mL_setting [(0, 6, 7, 15)] 1 6 [.ref (wB w + k), .int a] H none H none (some (.long (-9000000000000000002))) := by
  obtain ⟨sg, d9, z, C, a9, bh, Fh, Xh, Zh, bs, Fs, Xs, Zs, h0, ha, hr, hs9, rfl⟩ := hI
  exact wx_setting2 gb_0 (gx_setting2 h hl9)
theorem e_gutter1 (hI : IS w hs0 k σ H) (hσ : OKs M σ) {a b c e : Int32} (h : fltG (zsF σ) a b c e = nI 1) (hl9 : l.stackTraces = false) : Cw l w mL_gutter [(0, 10, 11, 34), (0, 10, 17, 15), (0, 10, 23, 19)] 1 6 [.ref (wB w + k), .int a, .int b, .int c, .int e] H none H none (some (.long (-9000000000000000001))) := by
  obtain ⟨sg, d9, z, C, a9, bh, Fh, Xh, Zh, bs, Fs, Xs, Zs, h0, ha, hr, hs9, rfl⟩ := hI
  exact wx_gutter1 gb_0 (gx_gutter hσ.2.1.1 (i := 1) ⟨by omega, by omega⟩ h hl9)
theorem e_gutter2 (hI : IS w hs0 k σ H) (hσ : OKs M σ) {a b c e : Int32} (h : fltG (zsF σ) a b c e = nI 2) (hl9 : l.stackTraces = false) : Cw l w mL_gutter [(0, 10, 11, 34), (0, 10, 17, 15), (0, 10, 23, 19)] 1 6 [.ref (wB w + k), .int a, .int b, .int c, .int e] H none H none (some (.long (-9000000000000000002))) := by
  obtain ⟨sg, d9, z, C, a9, bh, Fh, Xh, Zh, bs, Fs, Xs, Zs, h0, ha, hr, hs9, rfl⟩ := hI
  exact wx_gutter2 gb_0 (gx_gutter hσ.2.1.1 (i := 2) ⟨by omega, by omega⟩ h hl9)
theorem e_gutter3 (hI : IS w hs0 k σ H) (hσ : OKs M σ) {a b c e : Int32} (h : fltG (zsF σ) a b c e = nI 3) (hl9 : l.stackTraces = false) : Cw l w mL_gutter [(0, 10, 11, 34), (0, 10, 17, 15), (0, 10, 23, 19)] 1 6 [.ref (wB w + k), .int a, .int b, .int c, .int e] H none H none (some (.long (-9000000000000000003))) := by
  obtain ⟨sg, d9, z, C, a9, bh, Fh, Xh, Zh, bs, Fs, Xs, Zs, h0, ha, hr, hs9, rfl⟩ := hI
  exact wx_gutter3 gb_0 (gx_gutter hσ.2.1.1 (i := 3) ⟨by omega, by omega⟩ h hl9)
theorem e_boat1 (hI : IS w hs0 k σ H) (hσ : OKs M σ) {a b c : Int32} (h : fltB (zsF σ) a b c = nI 1) (hl9 : l.stackTraces = false) : Cw l w mL_boat [(0, 8, 9, 34), (0, 8, 15, 15), (0, 8, 21, 19)] 1 6 [.ref (wB w + k), .int a, .int b, .int c] H none H none (some (.long (-9000000000000000001))) := by
  obtain ⟨sg, d9, z, C, a9, bh, Fh, Xh, Zh, bs, Fs, Xs, Zs, h0, ha, hr, hs9, rfl⟩ := hI
  exact wx_boat1 gb_0 (gx_boat hσ.2.1.1 (i := 1) ⟨by omega, by omega⟩ h hl9)
theorem e_boat2 (hI : IS w hs0 k σ H) (hσ : OKs M σ) {a b c : Int32} (h : fltB (zsF σ) a b c = nI 2) (hl9 : l.stackTraces = false) : Cw l w mL_boat [(0, 8, 9, 34), (0, 8, 15, 15), (0, 8, 21, 19)] 1 6 [.ref (wB w + k), .int a, .int b, .int c] H none H none (some (.long (-9000000000000000002))) := by
  obtain ⟨sg, d9, z, C, a9, bh, Fh, Xh, Zh, bs, Fs, Xs, Zs, h0, ha, hr, hs9, rfl⟩ := hI
  exact wx_boat2 gb_0 (gx_boat hσ.2.1.1 (i := 2) ⟨by omega, by omega⟩ h hl9)
theorem e_boat3 (hI : IS w hs0 k σ H) (hσ : OKs M σ) {a b c : Int32} (h : fltB (zsF σ) a b c = nI 3) (hl9 : l.stackTraces = false) : Cw l w mL_boat [(0, 8, 9, 34), (0, 8, 15, 15), (0, 8, 21, 19)] 1 6 [.ref (wB w + k), .int a, .int b, .int c] H none H none (some (.long (-9000000000000000003))) := by
  obtain ⟨sg, d9, z, C, a9, bh, Fh, Xh, Zh, bs, Fs, Xs, Zs, h0, ha, hr, hs9, rfl⟩ := hI
  exact wx_boat3 gb_0 (gx_boat hσ.2.1.1 (i := 3) ⟨by omega, by omega⟩ h hl9)
theorem e_launch1 (hI : IS w hs0 k σ H) (hσ : OKs M σ) {a b : Int32} (h : fltL (zsF σ) a b = nI 1) (hl9 : l.stackTraces = false) : Cw l w mL_launch [(0, 7, 8, 34), (0, 7, 13, 19)] 1 6 [.ref (wB w + k), .int a, .int b] H none H none (some (.long (-9000000000000000001))) := by
  obtain ⟨sg, d9, z, C, a9, bh, Fh, Xh, Zh, bs, Fs, Xs, Zs, h0, ha, hr, hs9, rfl⟩ := hI
  exact wx_launch1 gb_0 (gx_launch hσ.2.1.1 (i := 1) ⟨by omega, by omega⟩ h hl9)
theorem e_launch3 (hI : IS w hs0 k σ H) (hσ : OKs M σ) {a b : Int32} (h : fltL (zsF σ) a b = nI 3) (hl9 : l.stackTraces = false) : Cw l w mL_launch [(0, 7, 8, 34), (0, 7, 13, 19)] 1 6 [.ref (wB w + k), .int a, .int b] H none H none (some (.long (-9000000000000000003))) := by
  obtain ⟨sg, d9, z, C, a9, bh, Fh, Xh, Zh, bs, Fs, Xs, Zs, h0, ha, hr, hs9, rfl⟩ := hI
  exact wx_launch3 gb_0 (gx_launch hσ.2.1.1 (i := 3) ⟨by omega, by omega⟩ h hl9)
theorem e_hook1 (hI : IS w hs0 k σ H) (hσ : OKs M σ) {a b c : Int32} (h : fltH (zsF σ) a b c = nI 1) (hl9 : l.stackTraces = false) : Cw l w mL_hook [(0, 8, 9, 34)] 1 6 [.ref (wB w + k), .int a, .int b, .int c] H none H none (some (.long (-9000000000000000001))) := by
  obtain ⟨sg, d9, z, C, a9, bh, Fh, Xh, Zh, bs, Fs, Xs, Zs, h0, ha, hr, hs9, rfl⟩ := hI
  exact wx_hook1 gb_0 (gx_hook hσ.2.1.1 (i := 1) ⟨by omega, by omega⟩ h hl9)
theorem e_claim1 (hI : IS w hs0 k σ H) (hσ : OKs M σ) {a b : Int32} (h : fltC (zsF σ) a b = nI 1) (hl9 : l.stackTraces = false) : Cw l w mL_claim [(0, 7, 8, 34)] 1 6 [.ref (wB w + k), .int a, .int b] H none H none (some (.long (-9000000000000000001))) := by
  obtain ⟨sg, d9, z, C, a9, bh, Fh, Xh, Zh, bs, Fs, Xs, Zs, h0, ha, hr, hs9, rfl⟩ := hI
  exact wx_claim1 gb_0 (gx_claim hσ.2.1.1 (i := 1) ⟨by omega, by omega⟩ h hl9)
theorem e_minutes (hI : IS w hs0 k σ H) (hσ : OKs M σ) {a : Int32} (h : ¬ (1 ≤ a ∧ a ≤ 60)) (hl9 : l.stackTraces = false) : Cw l w mL_minutes [(0, 6, 7, 15)] 1 6 [.ref (wB w + k), .int a] H none H none (some (.long (-9000000000000000002))) := by
  obtain ⟨sg, d9, z, C, a9, bh, Fh, Xh, Zh, bs, Fs, Xs, Zs, h0, ha, hr, hs9, rfl⟩ := hI
  exact wx_minutes2 gb_0 (gx_minutes2 h hl9)
theorem e_set (hI : IS w hs0 k σ H) (hσ : OKs M σ) {a b : Int32} (h : ¬ isSetP a b) (hl9 : l.stackTraces = false) : Cw l w mL_set [(0, 7, 8, 15)] 1 6 [.ref (wB w + k), .int a, .int b] H none H none (some (.long (-9000000000000000002))) := by
  obtain ⟨sg, d9, z, C, a9, bh, Fh, Xh, Zh, bs, Fs, Xs, Zs, h0, ha, hr, hs9, rfl⟩ := hI
  exact wx_set2 gb_0 (gx_set2 h hl9)
theorem e_why (hI : IS w hs0 k σ H) (hσ : OKs M σ) {a b : Int32} (h : ¬ ((0 ≤ a ∧ a ≤ 3) ∧ (0 ≤ b ∧ b < nI (bN (zsF σ))))) (hl9 : l.stackTraces = false) : Cw l w mL_why [(0, 7, 8, 34)] 1 6 [.ref (wB w + k), .int a, .int b] H none H none (some (.long (-9000000000000000001))) := by
  obtain ⟨sg, d9, z, C, a9, bh, Fh, Xh, Zh, bs, Fs, Xs, Zs, h0, ha, hr, hs9, rfl⟩ := hI
  exact wx_why1 gb_0 (gx_why1 h hl9)
theorem e_endsIn1 (hI : IS w hs0 k σ H) (hσ : OKs M σ) {a b : Int32} (h : ¬ (0 ≤ a ∧ a < nI (bN (zsF σ)))) (hl9 : l.stackTraces = false) : Cw l w mL_endsIn [(0, 7, 8, 34), (0, 7, 13, 15), (0, 7, 18, 19)] 1 6 [.ref (wB w + k), .int a, .int b] H none H none (some (.long (-9000000000000000001))) := by
  obtain ⟨sg, d9, z, C, a9, bh, Fh, Xh, Zh, bs, Fs, Xs, Zs, h0, ha, hr, hs9, rfl⟩ := hI
  exact wx_endsIn1 gb_0 (gx_endsIn1 h hl9)
theorem e_endsIn2 (hI : IS w hs0 k σ H) (hσ : OKs M σ) {a b : Int32} (hj : 0 ≤ a ∧ a < nI (bN (zsF σ))) (h : ¬ (0 ≤ b ∧ b ≤ 1)) (hl9 : l.stackTraces = false) : Cw l w mL_endsIn [(0, 7, 8, 34), (0, 7, 13, 15), (0, 7, 18, 19)] 1 6 [.ref (wB w + k), .int a, .int b] H none H none (some (.long (-9000000000000000002))) := by
  obtain ⟨sg, d9, z, C, a9, bh, Fh, Xh, Zh, bs, Fs, Xs, Zs, h0, ha, hr, hs9, rfl⟩ := hI
  exact wx_endsIn2 gb_0 (gx_endsIn2 hj h hl9)
theorem e_endsIn3 (hI : IS w hs0 k σ H) (hσ : OKs M σ) {j i : Nat} (hj : j < bN (zsF σ)) (hi : i ≤ 1) (hs1 : ¬ (zsF σ) (24 + 10 * j + 3) = 1) (hl9 : l.stackTraces = false) : Cw l w mL_endsIn [(0, 7, 8, 34), (0, 7, 13, 15), (0, 7, 18, 19)] 1 6 [.ref (wB w + k), .int (nI j), .int (nI i)] H none H none (some (.long (-9000000000000000003))) := by
  obtain ⟨sg, d9, z, C, a9, bh, Fh, Xh, Zh, bs, Fs, Xs, Zs, h0, ha, hr, hs9, rfl⟩ := hI
  exact wx_endsIn3 gb_0 (gx_endsIn3 hσ.2.1.1 hj hi hs1 hl9)
theorem e_leastFolds1 (hI : IS w hs0 k σ H) (hσ : OKs M σ) {a b : Int32} (h : ¬ (0 ≤ a ∧ a < nI (gN (zsF σ)))) (hl9 : l.stackTraces = false) : Cw l w mL_leastFolds [(0, 7, 8, 34), (0, 7, 13, 15)] 1 6 [.ref (wB w + k), .int a, .int b] H none H none (some (.long (-9000000000000000001))) := by
  obtain ⟨sg, d9, z, C, a9, bh, Fh, Xh, Zh, bs, Fs, Xs, Zs, h0, ha, hr, hs9, rfl⟩ := hI
  exact wx_leastFolds1 gb_0 (gx_leastFolds1 h hl9)
theorem e_leastFolds2 (hI : IS w hs0 k σ H) (hσ : OKs M σ) {a b : Int32} (hj : 0 ≤ a ∧ a < nI (gN (zsF σ))) (h : ¬ (0 ≤ b ∧ b ≤ 3)) (hl9 : l.stackTraces = false) : Cw l w mL_leastFolds [(0, 7, 8, 34), (0, 7, 13, 15)] 1 6 [.ref (wB w + k), .int a, .int b] H none H none (some (.long (-9000000000000000002))) := by
  obtain ⟨sg, d9, z, C, a9, bh, Fh, Xh, Zh, bs, Fs, Xs, Zs, h0, ha, hr, hs9, rfl⟩ := hI
  exact wx_leastFolds2 gb_0 (gx_leastFolds2 hj h hl9)
theorem e_scripta (hI : IS w hs0 k σ H) (hσ : OKs M σ) {a : Int32} {b : Int64} (h : ¬ (1 ≤ a ∧ a ≤ 3)) (hl9 : l.stackTraces = false) : Cw l w mL_script [(0, 7, 8, 15)] 1 6 [.ref (wB w + k), .int a, .long b] H none H none (some (.long (-9000000000000000002))) := by
  obtain ⟨sg, d9, z, C, a9, bh, Fh, Xh, Zh, bs, Fs, Xs, Zs, h0, ha, hr, hs9, rfl⟩ := hI
  exact wx_script2 gb_0 (gx_runScript2a h hl9)
theorem e_scriptc (hI : IS w hs0 k σ H) (hσ : OKs M σ) {N9 S9 : Nat} (hN : 1 ≤ N9 ∧ N9 ≤ 3) (hS : S9 < 2 ^ 63) (hz : ¬ lN S9 ≤ tnF (5 * N9) - 1) (hl9 : l.stackTraces = false) : Cw l w mL_script [(0, 7, 8, 15)] 1 6 [.ref (wB w + k), .int (nI N9), .long (lN S9)] H none H none (some (.long (-9000000000000000002))) := by
  obtain ⟨sg, d9, z, C, a9, bh, Fh, Xh, Zh, bs, Fs, Xs, Zs, h0, ha, hr, hs9, rfl⟩ := hI
  exact wx_script2 gb_0 (gx_runScript2c hN hS hz hl9)
theorem e_simulate (hI : IS w hs0 k σ H) (hσ : OKs M σ) {a : Int64} {b : Int32} (h : ¬ (1 ≤ b ∧ b ≤ 60)) (hl9 : l.stackTraces = false) : Cw l w mL_simulate [(0, 7, 8, 15)] 1 6 [.ref (wB w + k), .long a, .int b] H none H none (some (.long (-9000000000000000002))) := by
  obtain ⟨sg, d9, z, C, a9, bh, Fh, Xh, Zh, bs, Fs, Xs, Zs, h0, ha, hr, hs9, rfl⟩ := hI
  exact wx_simulate2 gb_0 (gx_simulate2 h hl9)
theorem e_save (hI : IS w hs0 k σ H) (hσ : OKs M σ) {a : Int32} (h : ¬ (0 ≤ a ∧ a ≤ 1)) (hl9 : l.stackTraces = false) : Cw l w mL_save [(0, 6, 7, 34)] 1 6 [.ref (wB w + k), .int a] H none H none (some (.long (-9000000000000000001))) := by
  obtain ⟨sg, d9, z, C, a9, bh, Fh, Xh, Zh, bs, Fs, Xs, Zs, h0, ha, hr, hs9, rfl⟩ := hI
  exact wx_save1 gb_0 (gx_save1 h hl9)
theorem e_restore1 (hI : IS w hs0 k σ H) (hσ : OKs M σ) {a : Int32} (h : ¬ (0 ≤ a ∧ a ≤ 1)) (hl9 : l.stackTraces = false) : Cw l w mL_restore [(0, 6, 7, 34), (0, 6, 12, 19)] 1 6 [.ref (wB w + k), .int a] H none H none (some (.long (-9000000000000000001))) := by
  obtain ⟨sg, d9, z, C, a9, bh, Fh, Xh, Zh, bs, Fs, Xs, Zs, h0, ha, hr, hs9, rfl⟩ := hI
  exact wx_restore1 gb_0 (gx_restore1 h hl9)
theorem e_append2 (hI : IS w hs0 k σ H) (hσ : OKs M σ) {a : Int32} (h : ¬ (0 ≤ a ∧ a ≤ 255)) (hl9 : l.stackTraces = false) : Cw l w mL_append [(0, 6, 7, 15), (0, 6, 12, 19)] 1 6 [.ref (wB w + k), .int a] H none H none (some (.long (-9000000000000000002))) := by
  obtain ⟨sg, d9, z, C, a9, bh, Fh, Xh, Zh, bs, Fs, Xs, Zs, h0, ha, hr, hs9, rfl⟩ := hI
  exact wx_append2 gb_0 (gx_append2 (len := 0) h hl9)
theorem e_append3 (hI : IS w hs0 k σ H) (hσ : OKs M σ) {a : Int32} (hl : zsL σ = 120) (ha9 : 0 ≤ a ∧ a ≤ 255) (hl9 : l.stackTraces = false) : Cw l w mL_append [(0, 6, 7, 15), (0, 6, 12, 19)] 1 6 [.ref (wB w + k), .int a] H none H none (some (.long (-9000000000000000003))) := by
  obtain ⟨sg, d9, z, C, a9, bh, Fh, Xh, Zh, bs, Fs, Xs, Zs, h0, ha, hr, hs9, rfl⟩ := hI
  exact wx_append3 gb_0 (gx_append3 h0 hl ha9 hl9)
theorem e_undo (hI : IS w hs0 k σ H) (hσ : OKs M σ) (hb : zsB σ = []) (hl9 : l.stackTraces = false) : Cw l w mL_undo [(0, 5, 6, 19)] 1 6 [.ref (wB w + k)] H none H none (some (.long (-9000000000000000003))) := by
  obtain ⟨sg, d9, z, C, a9, bh, Fh, Xh, Zh, bs, Fs, Xs, Zs, h0, ha, hr, hs9, rfl⟩ := hI
  rw [hb]
  exact wx_undo3 gb_0 (gx_undo3 (a9 := a9) (ct := 0) hl9)
theorem e_restore3 (hI : IS w hs0 k σ H) (hσ : OKs M σ) {i : Nat} (hi : i < 2) (hk : zsK σ i = none) (hl9 : l.stackTraces = false) : Cw l w mL_restore [(0, 6, 7, 34), (0, 6, 12, 19)] 1 6 [.ref (wB w + k), .int (nI i)] H none H none (some (.long (-9000000000000000003))) := by
  obtain ⟨sg, d9, z, C, a9, bh, Fh, Xh, Zh, bs, Fs, Xs, Zs, h0, ha, hr, hs9, rfl⟩ := hI
  rcases hs9 i hi with ⟨-, q⟩ | ⟨f, q, -⟩
  · exact wx_restore3 gb_0 (gx_restore2 hi q hl9)
  · exact absurd (hk.symm.trans q) (by intro h; cases h)
theorem s_gutter (hI : IS w hs0 k σ H) (hσ : OKs M σ) {a b c e : Int32} (h : fltG (zsF σ) a b c e = 0) : ∃ H9, IS w hs0 k (actS σ (adgF (zsF σ) (gN (zsF σ)) a b c e)) H9 ∧ Cw l w mL_gutter [(0, 10, 11, 34), (0, 10, 17, 15), (0, 10, 23, 19)] 1 6 [.ref (wB w + k), .int a, .int b, .int c, .int e] H none H9 none (some (.long (nI (gN (zsF σ))).toInt64)) := by
  have h6 := hσ.2.1.1.1.1.2.1
  have h9 := hσ.2.1.1.2.2
  obtain ⟨sg, d9, z, C, a9, bh, Fh, Xh, Zh, bs, Fs, Xs, Zs, h0, ha, hr, hs9, rfl⟩ := hI
  exact ⟨_, IS.act (f' := (adgF (zsF σ) (gN (zsF σ)) a b c e)) h0 ha hr hs9 ((adgF_n (by omega) (by omega)).symm), w0_gutter gb_0 (g_gutter hσ.2.1.1 ha hσ.2.2.1 h (fltG_0 h))⟩
theorem s_boat (hI : IS w hs0 k σ H) (hσ : OKs M σ) {a b c : Int32} (h : fltB (zsF σ) a b c = 0) : ∃ H9, IS w hs0 k (actS σ (adbF (zsF σ) (bN (zsF σ)) a b c)) H9 ∧ Cw l w mL_boat [(0, 8, 9, 34), (0, 8, 15, 15), (0, 8, 21, 19)] 1 6 [.ref (wB w + k), .int a, .int b, .int c] H none H9 none (some (.long (nI (bN (zsF σ))).toInt64)) := by
  have h6 := hσ.2.1.1.1.1.2.1
  have h9 := hσ.2.1.1.2.2
  obtain ⟨sg, d9, z, C, a9, bh, Fh, Xh, Zh, bs, Fs, Xs, Zs, h0, ha, hr, hs9, rfl⟩ := hI
  exact ⟨_, IS.act (f' := (adbF (zsF σ) (bN (zsF σ)) a b c)) h0 ha hr hs9 ((adbF_n (by omega) (by omega)).symm), w0_boat gb_0 (g_boat hσ.2.1.1 ha hσ.2.2.1 h (fltB_0 h))⟩
theorem s_launch (hI : IS w hs0 k σ H) (hσ : OKs M σ) {j i : Nat} (hj : j < bN (zsF σ)) (hi : i < gN (zsF σ)) (hs1 : (zsF σ) (24 + 10 * j + 3) = 0) : ∃ H9, IS w hs0 k (actS σ (lnF (zsF σ) (bN (zsF σ)) j (nI i))) H9 ∧ Cw l w mL_launch [(0, 7, 8, 34), (0, 7, 13, 19)] 1 6 [.ref (wB w + k), .int (nI j), .int (nI i)] H none H9 none (some (.long (drn (zsF σ) 6 0 i 0).toInt64)) := by
  have h6 := hσ.2.1.1.1.1.2.1
  have h9 := hσ.2.1.1.2.2
  have hf : fltL (zsF σ) (nI j) (nI i) = 0 := by
    unfold fltL
    rw [if_pos ⟨⟨nI_pos' (by omega), nI_lt hj (by omega)⟩, ⟨nI_pos' (by omega), nI_lt hi (by omega)⟩⟩, nI_clamp (by omega), if_pos hs1]
  obtain ⟨sg, d9, z, C, a9, bh, Fh, Xh, Zh, bs, Fs, Xs, Zs, h0, ha, hr, hs9, rfl⟩ := hI
  exact ⟨_, IS.act (f' := (lnF (zsF σ) (bN (zsF σ)) j (nI i))) h0 ha hr hs9 ((lnF_152 (by omega)).symm), w0_launch gb_0 (g_launch hσ.2.1.1 ha hσ.2.2.1 hj hi hs1 hf)⟩
theorem s_hook (hI : IS w hs0 k σ H) (hσ : OKs M σ) {j : Nat} {b c : Int32} (hj : j < 4) (h : icl (zsF σ) (gN (zsF σ)) b c = true) : ∃ H9, IS w hs0 k (actS σ (hokF (zsF σ) j b c)) H9 ∧ Cw l w mL_hook [(0, 8, 9, 34)] 1 6 [.ref (wB w + k), .int (nI j), .int b, .int c] H none H9 none (some (.long (nI (clbF (hokF (zsF σ) j b c) (bN (zsF σ)) j)).toInt64)) := by
  have hq : (0 ≤ nI j ∧ nI j ≤ 3) ∧ icl (zsF σ) (gN (zsF σ)) b c = true := ⟨⟨nI_pos' (by omega), nI_le (b := 3) (by omega) (by omega)⟩, h⟩
  have hf : fltH (zsF σ) (nI j) b c = 0 := if_pos hq
  have hR : OKr (hokF (zsF σ) j b c) := by
    have e := pfH_ok (a := nI j) (b := b) (c := c) hσ.2.1.1
    unfold pfH at e
    rw [if_pos hq, nI_clamp (by omega)] at e
    exact e
  obtain ⟨sg, d9, z, C, a9, bh, Fh, Xh, Zh, bs, Fs, Xs, Zs, h0, ha, hr, hs9, rfl⟩ := hI
  exact ⟨_, IS.act (f' := (hokF (zsF σ) j b c)) h0 ha hr hs9 ((hokF_n (by omega) (by omega)).symm), w0_hook gb_0 (g_hook hσ.2.1.1 ha hσ.2.2.1 hj hf hR.1)⟩
theorem s_claim (hI : IS w hs0 k σ H) (hσ : OKs M σ) {j i : Nat} (hj : j < 4) (hi : i < bN (zsF σ)) : ∃ H9, IS w hs0 k (actS σ (clmF (zsF σ) j i)) H9 ∧ Cw l w mL_claim [(0, 7, 8, 34)] 1 6 [.ref (wB w + k), .int (nI j), .int (nI i)] H none H9 none (some (.long (whyF (zsF σ) j i).toInt64)) := by
  have h6 := hσ.2.1.1.1.1.2.1
  have h9 := hσ.2.1.1.2.2
  have hf : fltC (zsF σ) (nI j) (nI i) = 0 := if_pos ⟨⟨nI_pos' (by omega), nI_le (b := 3) (by omega) (by omega)⟩, ⟨nI_pos' (by omega), nI_lt hi (by omega)⟩⟩
  obtain ⟨sg, d9, z, C, a9, bh, Fh, Xh, Zh, bs, Fs, Xs, Zs, h0, ha, hr, hs9, rfl⟩ := hI
  exact ⟨_, IS.act (f' := (clmF (zsF σ) j i)) h0 ha hr hs9 (rfl), w0_claim gb_0 (g_claim hσ.2.1.1 ha hσ.2.2.1 hj hi hf rfl)⟩
theorem s_minutes (hI : IS w hs0 k σ H) (hσ : OKs M σ) {i : Nat} (hi : 1 ≤ i ∧ i ≤ 60) : ∃ H9, IS w hs0 k (actS σ (gms (bN (zsF σ)) i (zsF σ)).2) H9 ∧ Cw l w mL_minutes [(0, 6, 7, 15)] 1 6 [.ref (wB w + k), .int (nI i)] H none H9 none (some (.long (nI (gms (bN (zsF σ)) i (zsF σ)).1).toInt64)) := by
  obtain ⟨sg, d9, z, C, a9, bh, Fh, Xh, Zh, bs, Fs, Xs, Zs, h0, ha, hr, hs9, rfl⟩ := hI
  exact ⟨_, IS.act (f' := (gms (bN (zsF σ)) i (zsF σ)).2) h0 ha hr hs9 ((gms_152 i _ hσ.2.1.1.1).symm), w0_minutes gb_0 (g_minutes hσ.2.1.1 ha hσ.2.2.1 hi)⟩
theorem s_set (hI : IS w hs0 k σ H) (hσ : OKs M σ) {j : Nat} {b : Int32} (hj : j < 3) (h : isSetP (nI j) b) : ∃ H9, IS w hs0 k (actS σ (upd (zsF σ) (154 + j) b)) H9 ∧ Cw l w mL_set [(0, 7, 8, 15)] 1 6 [.ref (wB w + k), .int (nI j), .int b] H none H9 none (some (.long ((zsF σ) (154 + j)).toInt64)) := by
  obtain ⟨sg, d9, z, C, a9, bh, Fh, Xh, Zh, bs, Fs, Xs, Zs, h0, ha, hr, hs9, rfl⟩ := hI
  exact ⟨_, IS.act (f' := (upd (zsF σ) (154 + j) b)) h0 ha hr hs9 ((pk_un (by omega)).symm), w0_set gb_0 (g_set hσ.2.1.1 ha hσ.2.2.1 hj h)⟩
theorem s_undo (hI : IS w hs0 k σ H) (hσ : OKs M σ) {f0 : Nat → Int32} {B : List (Nat → Int32)} (hb : zsB σ = f0 :: B) : ∃ H9, IS w hs0 k (σ.1, f0, B, zsK σ) H9 ∧ Cw l w mL_undo [(0, 5, 6, 19)] 1 6 [.ref (wB w + k)] H none H9 none (some (.long (nI B.length).toInt64)) := by
  obtain ⟨sg, d9, z, C, a9, bh, Fh, Xh, Zh, bs, Fs, Xs, Zs, h0, ha, hr, hs9, rfl⟩ := hI
  have hl := hσ.2.2.1
  have hf := hσ.2.2.2.1 f0 (by rw [hb]; exact List.mem_cons_self)
  rw [hb] at hr hl ⊢
  have hl2 : B.length < 14 := by rw [List.length_cons] at hl; omega
  obtain ⟨r1, r2, r3⟩ := hr.back ha hl2
  have g := g_undo (l := l) (w := w) (hs := hs0) (n := none) (k := k) (T := (sg, zsT σ, d9)) (C := C) (S := (bs, Fs, Xs, Zs)) (bh := bh) (Fh := Fh) (Xh := Xh) (Zh := Zh) (s9 := sF (zsF σ) (zsF σ 152)) (g9 := gF (zsF σ) z) (r9 := rF (zsF σ)) (a9 := a9) (ct := B.length) ha hl2 (by rw [r2]; exact hf.u01)
  rw [r2, r3] at g
  exact ⟨_, ⟨sg, d9, _, C, (a9 + 13) % 14, bh, Fh, Xh, Zh, bs, Fs, Xs, Zs, h0, Nat.mod_lt _ (by omega), r1, hs9, rfl⟩, w0_undo gb_0 g⟩
theorem s_save (hI : IS w hs0 k σ H) (hσ : OKs M σ) {i : Nat} (hi : i < 2) : ∃ H9, IS w hs0 k (σ.1, zsF σ, zsB σ, fun q => if q = i then some (zsF σ) else zsK σ q) H9 ∧ Cw l w mL_save [(0, 6, 7, 34)] 1 6 [.ref (wB w + k), .int (nI i)] H none H9 none (some (.long (zsF σ 148).toInt64)) := by
  obtain ⟨sg, d9, z, C, a9, bh, Fh, Xh, Zh, bs, Fs, Xs, Zs, h0, ha, hr, hs9, rfl⟩ := hI
  exact ⟨_, ⟨sg, d9, z, C, a9, bh, Fh, Xh, Zh, _, _, _, _, h0, ha, hr, hs9.save, rfl⟩, w0_save gb_0 (g_save hi hσ.2.1.1)⟩
theorem s_restore (hI : IS w hs0 k σ H) (hσ : OKs M σ) {i : Nat} (hi : i < 2) {f0 : Nat → Int32} (hk : zsK σ i = some f0) : ∃ H9, IS w hs0 k (σ.1, f0, [], zsK σ) H9 ∧ Cw l w mL_restore [(0, 6, 7, 34), (0, 6, 12, 19)] 1 6 [.ref (wB w + k), .int (nI i)] H none H9 none (some (.long (f0 148).toInt64)) := by
  obtain ⟨sg, d9, z, C, a9, bh, Fh, Xh, Zh, bs, Fs, Xs, Zs, h0, ha, hr, hs9, rfl⟩ := hI
  rcases hs9 i hi with ⟨q, -⟩ | ⟨f, q, q1, q2, q3⟩
  · exact absurd (hk.symm.trans q) (by intro h; cases h)
  · obtain rfl : f0 = f := Option.some.inj (hk.symm.trans q)
    have hf := hσ.2.2.2.2 i f0 hi hk
    have g := g_restore (l := l) (w := w) (hs := hs0) (n := none) (k := k) (T := (sg, zsT σ, d9)) (C := C) (a9 := nI a9) (b9 := nI (zsB σ).length) (bh := bh) (Fh := Fh) (Xh := Xh) (Zh := Zh) (bs := bs) (Fs := Fs) (Xs := Xs) (Zs := Zs) (s9 := sF (zsF σ) (zsF σ 152)) (g9 := gF (zsF σ) z) (r9 := rF (zsF σ)) hi q1 (by rw [q2]; exact hf.u01)
    rw [q2, q3] at g
    exact ⟨_, ⟨sg, d9, _, C, a9, bh, Fh, Xh, Zh, bs, Fs, Xs, Zs, h0, ha, RGl.nil, hs9, rfl⟩, w0_restore gb_0 g⟩
theorem s_endsIn (hI : IS w hs0 k σ H) (hσ : OKs M σ) {j i : Nat} (hj : j < bN (zsF σ)) (hi : i ≤ 1) (hs1 : (zsF σ) (24 + 10 * j + 3) = 1) : ∃ H9, IS w hs0 k σ H9 ∧ Cw l w mL_endsIn [(0, 7, 8, 34), (0, 7, 13, 15), (0, 7, 18, 19)] 1 6 [.ref (wB w + k), .int (nI j), .int (nI i)] H none H9 none (some (.long (eiV ((gtl (bN (zsF σ)) j 94 (zsF σ)).2 (24 + 10 * j + 3)) (nI i) (nI (gtl (bN (zsF σ)) j 94 (zsF σ)).1)).toInt64)) := by
  obtain ⟨sg, d9, z, C, a9, bh, Fh, Xh, Zh, bs, Fs, Xs, Zs, h0, ha, hr, hs9, rfl⟩ := hI
  exact ⟨_, ⟨sg, d9, z, _, a9, bh, Fh, Xh, Zh, bs, Fs, Xs, Zs, h0, ha, hr, hs9, rfl⟩, w0_endsIn gb_0 (g_endsIn hσ.2.1.1 hj hi hs1)⟩
theorem s_leastFolds (hI : IS w hs0 k σ H) (hσ : OKs M σ) {j9 : Nat} {y : Int32} (hj : j9 < gN (zsF σ)) (hy : 0 ≤ y ∧ y ≤ 3) : ∃ H9, IS w hs0 k σ H9 ∧ Cw l w mL_leastFolds [(0, 7, 8, 34), (0, 7, 13, 15)] 1 6 [.ref (wB w + k), .int (nI j9), .int y] H none H9 none (some (.long ((lfR (zsF σ) j9 y 9 1 (zsF σ)).1).toInt64)) := by
  obtain ⟨sg, d9, z, C, a9, bh, Fh, Xh, Zh, bs, Fs, Xs, Zs, h0, ha, hr, hs9, rfl⟩ := hI
  obtain ⟨C9, h9⟩ := g_leastFolds (l := l) (w := w) (hs := hs0) (n := none) (k := k) (T := (sg, zsT σ, d9)) (C := C) (Y := (nI a9, nI (zsB σ).length, bh, Fh, Xh, Zh)) (S := (bs, Fs, Xs, Zs)) (x := zsF σ 152) (z := z) hσ.2.1.1 hj hy
  exact ⟨_, ⟨sg, d9, z, _, a9, bh, Fh, Xh, Zh, bs, Fs, Xs, Zs, h0, ha, hr, hs9, rfl⟩, w0_leastFolds gb_0 h9⟩
theorem s_script (hI : IS w hs0 k σ H) (hσ : OKs M σ) {N9 S9 : Nat} (hN : 1 ≤ N9 ∧ N9 ≤ 3) (hS : S9 < 2 ^ 63) (hz : lN S9 ≤ tnF (5 * N9) - 1) : ∃ H9, IS w hs0 k σ H9 ∧ Cw l w mL_script [(0, 7, 8, 15)] 1 6 [.ref (wB w + k), .int (nI N9), .long (lN S9)] H none H9 none (some (.long ((scR S9 N9 N9 0 (zsF σ)).1).toInt64)) := by
  obtain ⟨sg, d9, z, C, a9, bh, Fh, Xh, Zh, bs, Fs, Xs, Zs, h0, ha, hr, hs9, rfl⟩ := hI
  obtain ⟨C9, h9⟩ := g_runScript (l := l) (w := w) (hs := hs0) (n := none) (k := k) (T := (sg, zsT σ, d9)) (C := C) (Y := (nI a9, nI (zsB σ).length, bh, Fh, Xh, Zh)) (S := (bs, Fs, Xs, Zs)) (x := zsF σ 152) (z := z) hσ.2.1.1 hN hS hz
  exact ⟨_, ⟨sg, d9, z, _, a9, bh, Fh, Xh, Zh, bs, Fs, Xs, Zs, h0, ha, hr, hs9, rfl⟩, w0_script gb_0 h9⟩
theorem s_simulate (hI : IS w hs0 k σ H) (hσ : OKs M σ) {N9 : Nat} (hN : 1 ≤ N9 ∧ N9 ≤ 60) (z9 : Int64) : ∃ H9, IS w hs0 k σ H9 ∧ Cw l w mL_simulate [(0, 7, 8, 15)] 1 6 [.ref (wB w + k), .long z9, .int (nI N9)] H none H9 none (some (.long (smV (zsF σ) (itR nxF sxF N9 z9 (zsF σ))).toInt64)) := by
  obtain ⟨sg, d9, z, C, a9, bh, Fh, Xh, Zh, bs, Fs, Xs, Zs, h0, ha, hr, hs9, rfl⟩ := hI
  obtain ⟨C9, h9⟩ := g_simulate (l := l) (w := w) (hs := hs0) (n := none) (k := k) (T := (sg, zsT σ, d9)) (C := C) (Y := (nI a9, nI (zsB σ).length, bh, Fh, Xh, Zh)) (S := (bs, Fs, Xs, Zs)) (x := zsF σ 152) (z := z) hσ.2.1.1 hN z9
  exact ⟨_, ⟨sg, d9, z, _, a9, bh, Fh, Xh, Zh, bs, Fs, Xs, Zs, h0, ha, hr, hs9, rfl⟩, w0_simulate gb_0 h9⟩
theorem s_winner (hI : IS w hs0 k σ H) (hσ : OKs M σ) : ∃ H9, IS w hs0 k σ H9 ∧ Cn l w mX5_winner 0 0 [.ref (wB w + k)] H none H9 none (some (.int (wnR (zsF σ) (lhe (bN (zsF σ)) 94 (zsF σ)) (bN (zsF σ)) 0))) := by
  obtain ⟨sg, d9, z, C, a9, bh, Fh, Xh, Zh, bs, Fs, Xs, Zs, h0, ha, hr, hs9, rfl⟩ := hI
  exact ⟨_, ⟨sg, d9, z, _, a9, bh, Fh, Xh, Zh, bs, Fs, Xs, Zs, h0, ha, hr, hs9, rfl⟩, g_winner hσ.2.1.1⟩
theorem s_append (hI : IS w hs0 k σ H) (hσ : OKs M σ) {a : Int32} (hl : zsL σ < 120) (ha9 : 0 ≤ a ∧ a ≤ 255) : ∃ H9, IS w hs0 k ((zsL σ + 1, upd (zsT σ) (zsL σ) a), σ.2) H9 ∧ Cw l w mL_append [(0, 6, 7, 15), (0, 6, 12, 19)] 1 6 [.ref (wB w + k), .int a] H none H9 none (some (.long (nI (zsL σ + 1)).toInt64)) := by
  obtain ⟨sg, d9, z, C, a9, bh, Fh, Xh, Zh, bs, Fs, Xs, Zs, h0, ha, hr, hs9, rfl⟩ := hI
  exact ⟨_, ⟨upd sg 0 (nI (zsL σ + 1)), d9, z, C, a9, bh, Fh, Xh, Zh, bs, Fs, Xs, Zs, pk_us, ha, hr, hs9, rfl⟩, w0_append gb_0 (g_append h0 hl ha9)⟩
theorem s_clear (hI : IS w hs0 k σ H) (hσ : OKs M σ) : ∃ H9, IS w hs0 k ((0, zsT σ), σ.2) H9 ∧ Cn l w mX5_clearText 0 0 [.ref (wB w + k)] H none H9 none (some (.int (nI (zsL σ)))) := by
  obtain ⟨sg, d9, z, C, a9, bh, Fh, Xh, Zh, bs, Fs, Xs, Zs, h0, ha, hr, hs9, rfl⟩ := hI
  exact ⟨_, ⟨upd sg 0 0, d9, z, C, a9, bh, Fh, Xh, Zh, bs, Fs, Xs, Zs, pk_us, ha, hr, hs9, rfl⟩, g_clear h0⟩
def errV (σ : ZS) : Int32 := if (tsF (zsT σ) (zsL σ) (fun _ => 0)).1.2 = true then -1 else nI (tsF (zsT σ) (zsL σ) (fun _ => 0)).1.1
theorem s_err (hI : IS w hs0 k σ H) (hσ : OKs M σ) : ∃ H9, IS w hs0 k σ H9 ∧ Cn l w mX5_errorPosition 0 0 [.ref (wB w + k)] H none H9 none (some (.int (errV σ))) := by
  obtain ⟨sg, d9, z, C, a9, bh, Fh, Xh, Zh, bs, Fs, Xs, Zs, h0, ha, hr, hs9, rfl⟩ := hI
  have e : errV σ = if (feA (zsT σ) (zsL σ) sg d9).1.2 = true then -1 else nI (feA (zsT σ) (zsL σ) sg d9).1.1 := by
    unfold errV
    rw [fe_ts (f := fun _ => 0) hσ.1]
  rw [e]
  exact ⟨_, ⟨_, _, z, C, a9, bh, Fh, Xh, Zh, bs, Fs, Xs, Zs, feA_0.trans h0, ha, hr, hs9, rfl⟩, g_err h0 hσ.1⟩
theorem s_load (hI : IS w hs0 k σ H) (hσ : OKs M σ) (hg : (tsF (zsT σ) (zsL σ) (fun _ => 0)).1.2 = true) : ∃ H9, IS w hs0 k (σ.1, (tsF (zsT σ) (zsL σ) (fun _ => 0)).2.1, [], fun _ => none) H9 ∧ Cw l w mL_load [(0, 5, 6, 19)] 1 6 [.ref (wB w + k)] H none H9 none (some (.long ((tsF (zsT σ) (zsL σ) (fun _ => 0)).2.2).toInt64)) := by
  obtain ⟨sg, d9, z, C, a9, bh, Fh, Xh, Zh, bs, Fs, Xs, Zs, h0, ha, hr, hs9, rfl⟩ := hI
  have hg2 : (feA (zsT σ) (zsL σ) sg d9).1.2 = true := by rw [fe_ts (f := fun _ => 0) hσ.1]; exact hg
  have hT : hrF (zsT σ) (zsL σ) 0 = 84 := by
    unfold feA at hg2
    by_cases c : hrF (zsT σ) (zsL σ) 0 = 84
    · exact c
    · rw [if_neg c] at hg2; exact absurd hg2 Bool.false_ne_true
  have g := g_load (l := l) (w := w) (hs := hs0) (n := none) (k := k) (C := C) (s9 := sF (zsF σ) (zsF σ 152)) (g9 := gF (zsF σ) z) (r9 := rF (zsF σ)) (sg := sg) (c9 := zsT σ) (d9 := d9) (len := zsL σ) (a9 := nI a9) (b9 := nI (zsB σ).length) (bh := bh) (Fh := Fh) (Xh := Xh) (Zh := Zh) (bs := bs) (Fs := Fs) (Xs := Xs) (Zs := Zs) (fun _ => 0) h0 hσ.1 hg2 OKr_fr
  have ht : tsF (zsT σ) (zsL σ) (fun _ => 0) = rdA (zsT σ) (zsL σ) 121 ((1, true), (frF (fun _ => 0), 0)) := by unfold tsF; rw [if_pos hT]
  have hr2 := re_rd (t := zsT σ) (len := zsL σ) 120 121 1 (upd (feA (zsT σ) (zsL σ) sg d9).2.1 1 (nI 1)) (feA (zsT σ) (zsL σ) sg d9).2.2 (frF (fun _ => 0)) 0 (by have := hσ.1; omega) (by have := hσ.1; omega) (by rw [← ht]; exact hg)
  rw [← ht] at hr2
  have h152 : (tsF (zsT σ) (zsL σ) (fun _ => 0)).2.1 152 = 0 := by
    rw [← hr2]
    exact (reR_152 120 1 _ _ _ _ OKr_fr).trans (frF_0 (by omega) (fun o ho => by omega) (by omega) (by omega))
  rw [hr2] at g
  refine ⟨_, ⟨(reR (zsT σ) (zsL σ) 120 1 (upd (feA (zsT σ) (zsL σ) sg d9).2.1 1 (nI 1)) (feA (zsT σ) (zsL σ) sg d9).2.2 (frF (fun _ => 0)) 0).1, (reR (zsT σ) (zsL σ) 120 1 (upd (feA (zsT σ) (zsL σ) sg d9).2.1 1 (nI 1)) (feA (zsT σ) (zsL σ) sg d9).2.2 (frF (fun _ => 0)) 0).2.1, gF (zsF σ) z, C, a9, bh, Fh, Xh, Zh, clB bs 2, Fs, Xs, Zs, ?_, ha, RGl.nil, fun i hi => Or.inl ⟨rfl, if_pos hi⟩, ?_⟩, w0_load gb_0 g⟩
  · exact (reR_0 _ _ _ _ _ _).trans ((pk_un (by omega)).trans (feA_0.trans h0))
  · exact congrArg (fun x9 => GB w hs0 k (_, zsT σ, _) (nT (tsF (zsT σ) (zsL σ) (fun _ => 0)).2.1 x9 (gF (zsF σ) z)) C (nI a9, 0, bh, Fh, Xh, Zh) (clB bs 2, Fs, Xs, Zs)) h152.symm
end
