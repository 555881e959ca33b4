/-! commands, as they act on a row: whether they succeed, the row behind them -/
def gN (f : Nat → Int32) : Nat := (f 146).toNatClampNeg
def bN (f : Nat → Int32) : Nat := (f 147).toNatClampNeg
def OKr (f : Nat → Int32) : Prop := RI f (gN f) (bN f) ∧ UD f (bN f) ∧ bN f ≤ 10
theorem OKr.of {f : Nat → Int32} {ng nb : Nat} (h : RI f ng nb) (hU : UD f nb) (h9 : nb ≤ 10) : OKr f := by
  have h6 := h.1.2.1
  have e1 : gN f = ng := by unfold gN; rw [h.1.1, nI_clamp (by omega)]
  have e2 : bN f = nb := by unfold bN; rw [h.2.1, nI_clamp (by omega)]
  exact ⟨by rw [e1, e2]; exact h, by rw [e2]; exact hU, by omega⟩
theorem RI.gN {f : Nat → Int32} {ng nb : Nat} (h : RI f ng nb) : gN f = ng := by
  have h6 := h.1.2.1
  show (f 146).toNatClampNeg = ng; rw [h.1.1, nI_clamp (by omega)]
theorem RI.bN {f : Nat → Int32} {ng nb : Nat} (h : RI f ng nb) : bN f = nb := by
  have h6 := h.2.2.1
  show (f 147).toNatClampNeg = nb; rw [h.2.1, nI_clamp (by omega)]
def pfG (f : Nat → Int32) (a b c d : Int32) : Bool × (Nat → Int32) := if ((4 ≤ a ∧ a ≤ 40) ∧ (0 ≤ b ∧ b ≤ 5)) ∧ gN f < 6 ∧ (gN f = 0 ∨ icl f (gN f) c d = true) then (true, adgF f (gN f) a b c d) else (false, f)
def pfB (f : Nat → Int32) (a b c : Int32) : Bool × (Nat → Int32) := if (0 ≤ c ∧ c ≤ 3) ∧ ((1 ≤ a ∧ a ≤ 9) ∧ (0 ≤ b ∧ b ≤ 3)) ∧ bN f < 10 then (true, adbF f (bN f) a b c) else (false, f)
def pfL (f : Nat → Int32) (a b : Int32) : Bool × (Nat → Int32) := if ((0 ≤ a ∧ a < nI (bN f)) ∧ (0 ≤ b ∧ b < nI (gN f))) ∧ f (24 + 10 * a.toNatClampNeg + 3) = 0 then (true, lnF f (bN f) a.toNatClampNeg b) else (false, f)
def pfM (f : Nat → Int32) (a : Int32) : Bool × (Nat → Int32) := if 1 ≤ a ∧ a ≤ 60 then (true, (gms (bN f) a.toNatClampNeg f).2) else (false, f)
def pfH (f : Nat → Int32) (a b c : Int32) : Bool × (Nat → Int32) := if (0 ≤ a ∧ a ≤ 3) ∧ icl f (gN f) b c = true then (true, hokF f a.toNatClampNeg b c) else (false, f)
def pfC (f : Nat → Int32) (a b : Int32) : Bool × (Nat → Int32) := if ((0 ≤ a ∧ a ≤ 3) ∧ (0 ≤ b ∧ b < nI (bN f))) ∧ whyF f a.toNatClampNeg b.toNatClampNeg = 0 then (true, clmF f a.toNatClampNeg b.toNatClampNeg) else (false, f)
def pfS (f : Nat → Int32) (a b : Int32) : Bool × (Nat → Int32) := if isSetP a b then (true, upd f (154 + a.toNatClampNeg) b) else (false, f)
def pf (f : Nat → Int32) (z a b c d : Int32) : Bool × (Nat → Int32) :=
  if z = 103 then pfG f a b c d else if z = 98 then pfB f a b c else if z = 108 then pfL f a b else if z = 109 then pfM f a else if z = 104 then pfH f a b c else if z = 99 then pfC f a b else if z = 115 then pfS f a b else (false, f)
theorem nI_box {x : Int32} {n : Nat} (hn : n < 2 ^ 31) (h : 0 ≤ x ∧ x < nI n) : ∃ i, i < n ∧ x = nI i ∧ x.toNatClampNeg = i := by
  obtain ⟨i, hi, rfl⟩ := nIx (r := n) hn (Int32.not_lt.mpr h.1) (Int32.not_le.mpr h.2)
  exact ⟨i, hi, rfl, nI_clamp (by omega)⟩
theorem nI_le9 {x : Int32} {a b : Nat} (hb : b < 2 ^ 31) (ha : a < 2 ^ 31) (h : nI a ≤ x ∧ x ≤ nI b) : ∃ i, a ≤ i ∧ i ≤ b ∧ x = nI i ∧ x.toNatClampNeg = i := by
  obtain ⟨i, h1, h2, rfl⟩ := nI_rng hb h.1 h.2 ha
  exact ⟨i, h1, h2, rfl, nI_clamp (by omega)⟩
theorem pfG_ok {f : Nat → Int32} {a b c d : Int32} (h : OKr f) : OKr (pfG f a b c d).2 := by
  unfold pfG; split
  · rename_i q
    have e := RI_adg h.1 q.2.1 q.1.1 q.1.2 q.2.2
    show OKr (adgF f (gN f) a b c d)
    refine OKr.of e (h.2.1.ex (adgF_n (by have := q.2.1; omega) (by omega)) (fun b hb => adgF_n (by have := q.2.1; omega) (by have := h.2.2; omega))) h.2.2
  · exact h
theorem pfB_ok {f : Nat → Int32} {a b c : Int32} (h : OKr f) : OKr (pfB f a b c).2 := by
  unfold pfB; split
  · rename_i q
    exact OKr.of (RI_adb h.1 (by have := q.2.2; omega) q.2.1.1 q.2.1.2 q.1) (UD_adb (by have := q.2.2; omega) h.2.1) (by have := q.2.2; omega)
  · exact h
theorem pfL_ok {f : Nat → Int32} {a b : Int32} (h : OKr f) : OKr (pfL f a b).2 := by
  unfold pfL; split
  · rename_i q
    obtain ⟨i, i1, i2, i3⟩ := nI_box (by have := h.2.2; omega) q.1.1
    obtain ⟨g, g1, g2, g3⟩ := nI_box (by have := h.1.1.2.1; omega) q.1.2
    rw [i3] at q ⊢
    rw [g2]
    exact OKr.of (RI_lnF h.1 i1 g1 q.2) (UD_lnF h.1.2.2.1 h.2.1 i1 q.2) h.2.2
  · exact h
theorem pfM_ok {f : Nat → Int32} {a : Int32} (h : OKr f) : OKr (pfM f a).2 := by
  unfold pfM; split
  · exact OKr.of (RI_gms _ f h.1) (UD_gms _ f h.1 h.2.1) h.2.2
  · exact h
theorem hokF_n {f : Nat → Int32} {o j : Nat} {x y : Int32} (h1 : j ≠ 134 + 3 * o + 1) (h2 : j ≠ 134 + 3 * o + 2) : hokF f o x y j = f j := by
  unfold hokF; rw [pk_un h2, pk_un h1]
theorem pfH_ok {f : Nat → Int32} {a b c : Int32} (h : OKr f) : OKr (pfH f a b c).2 := by
  unfold pfH; split
  · rename_i q
    obtain ⟨o, o1, o2, o3, o4⟩ := nI_le9 (a := 0) (b := 3) (by omega) (by omega) q.1
    obtain ⟨g, c, L, g1, g2, g3, g4, g5, g6⟩ := icl_in h.1.1 q.2
    rw [o4, g1, g2]
    show OKr (hokF f o (nI g) (nI c))
    exact OKr.of (RI_hok h.1 (by omega) g3 g4 g5 g6) (h.2.1.ex (hokF_n (by omega) (by omega)) (fun b hb => hokF_n (by have := h.2.2; omega) (by have := h.2.2; omega))) h.2.2
  · exact h
theorem pfC_ok {f : Nat → Int32} {a b : Int32} (h : OKr f) : OKr (pfC f a b).2 := by
  unfold pfC; split
  · rename_i q
    obtain ⟨o, o1, o2, o3, o4⟩ := nI_le9 (a := 0) (b := 3) (by omega) (by omega) q.1.1
    obtain ⟨i, i1, i2, i3⟩ := nI_box (by have := h.2.2; omega) q.1.2
    rw [o4, i3]
    exact OKr.of (RI_clm h.1 (by omega) i1) (UD_clm h.1.2.2.1 h.2.1 (by omega) i1) h.2.2
  · exact h
theorem isSetP_k {a b : Int32} (h : isSetP a b) : ∃ k, k < 3 ∧ a = nI k ∧ a.toNatClampNeg = k := by
  rcases h with ⟨q, -⟩ | ⟨q, -⟩ | ⟨q, -⟩
  · exact ⟨0, by omega, q, by rw [q]; rfl⟩
  · exact ⟨1, by omega, q, by rw [q]; rfl⟩
  · exact ⟨2, by omega, q, by rw [q]; rfl⟩
theorem pfS_ok {f : Nat → Int32} {a b : Int32} (h : OKr f) : OKr (pfS f a b).2 := by
  unfold pfS; split
  · rename_i q
    obtain ⟨k, k1, k2, k3⟩ := isSetP_k q
    rw [k3]
    exact OKr.of (RI_set h.1 (by rw [← k2]; exact q) k1) (h.2.1.ex (pk_un (by omega)) (fun b hb => pk_un (by have := h.2.2; omega))) h.2.2
  · exact h
theorem pf_ok {f : Nat → Int32} {z a b c d : Int32} (h : OKr f) : OKr (pf f z a b c d).2 := by
  unfold pf
  split
  · exact pfG_ok h
  split
  · exact pfB_ok h
  split
  · exact pfL_ok h
  split
  · exact pfM_ok h
  split
  · exact pfH_ok h
  split
  · exact pfC_ok h
  split
  · exact pfS_ok h
  · exact h
/-! reading a command: where it leads, its numbers -/
abbrev PZ : Type := (Nat × Bool) × Int32 × Int32 × Int32 × Int32
def pzG (t : Nat → Int32) (len y : Nat) : PZ := (twS t len 0 39 (dgS t len 0 5 (dgS t len 0 5 (twS t len 4 40 (y, true)))), twV t len 4 40 (y, true), dgV t len 0 5 (twS t len 4 40 (y, true)), dgV t len 0 5 (dgS t len 0 5 (twS t len 4 40 (y, true))), twV t len 0 39 (dgS t len 0 5 (dgS t len 0 5 (twS t len 4 40 (y, true)))))
def pzB (t : Nat → Int32) (len y : Nat) : PZ := (dgS t len 0 3 (dgS t len 0 3 (dgS t len 1 9 (y, true))), dgV t len 1 9 (y, true), dgV t len 0 3 (dgS t len 1 9 (y, true)), dgV t len 0 3 (dgS t len 0 3 (dgS t len 1 9 (y, true))), 0)
def pzL (t : Nat → Int32) (len y : Nat) : PZ := (dgS t len 0 5 (dgS t len 0 9 (y, true)), dgV t len 0 9 (y, true), dgV t len 0 5 (dgS t len 0 9 (y, true)), 0, 0)
def pzM (t : Nat → Int32) (len y : Nat) : PZ := (twS t len 1 60 (y, true), twV t len 1 60 (y, true), 0, 0, 0)
def pzH (t : Nat → Int32) (len y : Nat) : PZ := (twS t len 0 39 (dgS t len 0 5 (dgS t len 0 3 (y, true))), dgV t len 0 3 (y, true), dgV t len 0 5 (dgS t len 0 3 (y, true)), twV t len 0 39 (dgS t len 0 5 (dgS t len 0 3 (y, true))), 0)
def pzC (t : Nat → Int32) (len y : Nat) : PZ := (dgS t len 0 9 (dgS t len 0 3 (y, true)), dgV t len 0 3 (y, true), dgV t len 0 9 (dgS t len 0 3 (y, true)), 0, 0)
def pzS (t : Nat → Int32) (len y : Nat) : PZ := (dgS t len 0 9 (dgS t len 0 2 (y, true)), dgV t len 0 2 (y, true), dgV t len 0 9 (dgS t len 0 2 (y, true)), 0, 0)
def pz (t : Nat → Int32) (len : Nat) (z : Int32) (y : Nat) : PZ :=
  if z = 103 then pzG t len y else if z = 98 then pzB t len y else if z = 108 then pzL t len y else if z = 109 then pzM t len y else if z = 104 then pzH t len y else if z = 99 then pzC t len y else if z = 115 then pzS t len y else ((y, false), 0, 0, 0, 0)
abbrev isLet (z : Int32) : Prop := z = 103 ∨ z = 98 ∨ z = 108 ∨ z = 109 ∨ z = 104 ∨ z = 99 ∨ z = 115
def exR (g : Bool) (e : Bool × (Nat → Int32)) (f : Nat → Int32) (x5 : Int32) : (Nat → Int32) × Int32 := if g = true then (e.2, if e.1 = true then x5 else x5 + 1) else (f, x5)
abbrev TS : Type := (Nat × Bool) × (Nat → Int32) × Int32
def cmS (t : Nat → Int32) (len : Nat) (f : Nat → Int32) (y : Nat) (x5 : Int32) : TS :=
  if isLet (hrF t len y) then ((pz t len (hrF t len y) (y + 1)).1, exR (pz t len (hrF t len y) (y + 1)).1.2 (pf f (hrF t len y) (pz t len (hrF t len y) (y + 1)).2.1 (pz t len (hrF t len y) (y + 1)).2.2.1 (pz t len (hrF t len y) (y + 1)).2.2.2.1 (pz t len (hrF t len y) (y + 1)).2.2.2.2) f x5) else ((y, false), (f, x5))
def rdA (t : Nat → Int32) (len : Nat) : Nat → TS → TS
  | 0, S => S
  | k + 1, S => if S.1.2 = true ∧ S.1.1 < len then rdA t len k (cmS t len S.2.1 S.1.1 S.2.2) else S
theorem exR_ok {g : Bool} {e : Bool × (Nat → Int32)} {f : Nat → Int32} {x5 : Int32} (h : OKr f) (he : OKr e.2) : OKr (exR g e f x5).1 := by
  unfold exR; split
  · exact he
  · exact h
theorem cmS_ok {t : Nat → Int32} {len y : Nat} {f : Nat → Int32} {x5 : Int32} (h : OKr f) : OKr (cmS t len f y x5).2.1 := by
  unfold cmS; split
  · exact exR_ok h (pf_ok h)
  · exact h
theorem dgV_rng {t : Nat → Int32} {len : Nat} {lo hi : Int32} {q : Nat × Bool} (h : lo ≤ hi) : lo ≤ dgV t len lo hi q ∧ dgV t len lo hi q ≤ hi := by
  unfold dgV; split
  · rename_i c
    have := of_decide_eq_true (Bool.and_eq_true_iff.mp c).2
    exact this
  · exact ⟨Int32.le_refl _, h⟩
theorem dgV_n {t : Nat → Int32} {len a b : Nat} {q : Nat × Bool} (h : a ≤ b) (hb : b < 100) : ∃ v, a ≤ v ∧ v ≤ b ∧ dgV t len (nI a) (nI b) q = nI v := by
  obtain ⟨h1, h2⟩ := dgV_rng (t := t) (len := len) (q := q) (nI_le h (by omega))
  exact nI_rng (by omega) h1 h2 (by omega)
theorem twV_n {t : Nat → Int32} {len a b : Nat} {q : Nat × Bool} (h : a ≤ b) (hb : b < 100) : ∃ v, a ≤ v ∧ v ≤ b ∧ twV t len (nI a) (nI b) q = nI v := by
  have e1 : nI a / 10 = nI (a / 10) := pk_div (d := 10) (by omega) (by omega) (by omega)
  have e2 : nI b / 10 = nI (b / 10) := pk_div (d := 10) (by omega) (by omega) (by omega)
  have r1 : nI a - nI (a / 10) * 10 = nI (a % 10) := by have := pk_rem (a := a) (d := 10) (by omega) (by omega) (by omega); rw [← e1]; exact this
  have r2 : nI b - nI (b / 10) * 10 = nI (b % 10) := by have := pk_rem (a := b) (d := 10) (by omega) (by omega) (by omega); rw [← e2]; exact this
  unfold twV twL twH
  rw [e1, e2, r1, r2]
  obtain ⟨d, d1, d2, d3⟩ := dgV_n (t := t) (len := len) (q := q) (show a / 10 ≤ b / 10 by omega) (by omega)
  rw [d3]
  have q1 : (if nI d = nI (a / 10) then nI (a % 10) else (0 : Int32)) = nI (if d = a / 10 then a % 10 else 0) := by
    by_cases c : d = a / 10
    · rw [if_pos c, c, if_pos rfl]
    · rw [if_neg c, if_neg (fun z => c ((nI_eq (by omega) (by omega)).mp z))]; rfl
  have q2 : (if nI d = nI (b / 10) then nI (b % 10) else (9 : Int32)) = nI (if d = b / 10 then b % 10 else 9) := by
    by_cases c : d = b / 10
    · rw [if_pos c, c, if_pos rfl]
    · rw [if_neg c, if_neg (fun z => c ((nI_eq (by omega) (by omega)).mp z))]; rfl
  rw [q1, q2]
  obtain ⟨v, v1, v2, v3⟩ := dgV_n (t := t) (len := len) (q := dgS t len (nI (a / 10)) (nI (b / 10)) q) (show (if d = a / 10 then a % 10 else 0) ≤ (if d = b / 10 then b % 10 else 9) by split <;> split <;> omega) (by split <;> omega)
  rw [v3, show (10 : Int32) = nI 10 from rfl, pk_mul, nI_add]
  refine ⟨10 * d + v, ?_, ?_, rfl⟩
  · by_cases c : d = a / 10
    · rw [if_pos c] at v1; omega
    · omega
  · by_cases c : d = b / 10
    · rw [if_pos c] at v2; omega
    · rw [if_neg c] at v2; omega
theorem dgS_t {t : Nat → Int32} {len : Nat} {lo hi : Int32} {q : Nat × Bool} (h0 : 0 ≤ lo) (h : (dgS t len lo hi q).2 = true) : q.2 = true ∧ q.1 < len ∧ (dgS t len lo hi q).1 = q.1 + 1 := by
  unfold dgS at h ⊢
  split
  · rename_i c
    obtain ⟨c1, c2⟩ := Bool.and_eq_true_iff.mp c
    have c3 := of_decide_eq_true c2
    refine ⟨c1, ?_, rfl⟩
    rcases Nat.lt_or_ge q.1 len with z | z
    · exact z
    · have e : hrF t len q.1 = -1 := if_neg (by omega)
      rw [e] at c3
      exact absurd (Int32.le_trans h0 c3.1) (by decide)
  · rename_i c
    rw [if_neg c] at h; cases h
theorem twL_0 {lo d : Int32} {a : Nat} (ha : a < 100) (h : lo = nI a) : 0 ≤ twL lo d := by
  unfold twL; split
  · have e1 : nI a / 10 = nI (a / 10) := pk_div (d := 10) (by omega) (by omega) (by omega)
    have r1 : nI a - nI a / 10 * 10 = nI (a % 10) := pk_rem (a := a) (d := 10) (by omega) (by omega) (by omega)
    rw [h, r1]; exact nI_pos' (by omega)
  · decide
theorem twS_t {t : Nat → Int32} {len a : Nat} {hi : Int32} {q : Nat × Bool} (ha : a < 100) (h : (twS t len (nI a) hi q).2 = true) : q.2 = true ∧ q.1 < len ∧ (twS t len (nI a) hi q).1 = q.1 + 2 ∧ q.1 + 2 ≤ len := by
  unfold twS at h ⊢
  obtain ⟨h1, h2, h3⟩ := dgS_t (twL_0 ha rfl) h
  obtain ⟨h4, h5, h6⟩ := dgS_t (by rw [show nI a / 10 = nI (a / 10) from pk_div (d := 10) (by omega) (by omega) (by omega)]; exact nI_pos' (by omega)) h1
  refine ⟨h4, h5, ?_, ?_⟩
  · rw [h3, h6]
  · rw [h6] at h2; omega
/-- a command that is read leads on, and not beyond the text -/
theorem pz_t {t : Nat → Int32} {len y : Nat} {z : Int32} (h : (pz t len z y).1.2 = true) : y + 1 ≤ (pz t len z y).1.1 ∧ (pz t len z y).1.1 ≤ len := by
  unfold pz at h ⊢
  split at h
  · rename_i c
    rw [if_pos c]
    obtain ⟨a1, a2, a3, a4⟩ := twS_t (a := 0) (by omega) h
    obtain ⟨b1, b2, b3⟩ := dgS_t (by decide) a1
    obtain ⟨c1, c2, c3⟩ := dgS_t (by decide) b1
    obtain ⟨d1, d2, d3, d4⟩ := twS_t (a := 4) (by omega) c1
    have e1 : (twS t len 4 40 (y, true)).1 = y + 2 := d3
    show y + 1 ≤ (twS t len 0 39 _).1 ∧ (twS t len 0 39 _).1 ≤ len
    rw [show (twS t len 0 39 (dgS t len 0 5 (dgS t len 0 5 (twS t len 4 40 (y, true))))).1 = _ from a3]
    omega
  · rename_i c
    rw [if_neg c]
    split at h
    · rename_i c
      rw [if_pos c]
      obtain ⟨a1, a2, a3⟩ := dgS_t (by decide) h
      obtain ⟨b1, b2, b3⟩ := dgS_t (by decide) a1
      obtain ⟨c1, c2, c3⟩ := dgS_t (by decide) b1
      have e1 : (dgS t len 1 9 (y, true)).1 = y + 1 := c3
      show y + 1 ≤ (dgS t len 0 3 _).1 ∧ (dgS t len 0 3 _).1 ≤ len
      omega
    · rename_i c
      rw [if_neg c]
      split at h
      · rename_i c
        rw [if_pos c]
        obtain ⟨a1, a2, a3⟩ := dgS_t (by decide) h
        obtain ⟨b1, b2, b3⟩ := dgS_t (by decide) a1
        have e1 : (dgS t len 0 9 (y, true)).1 = y + 1 := b3
        show y + 1 ≤ (dgS t len 0 5 _).1 ∧ (dgS t len 0 5 _).1 ≤ len
        omega
      · rename_i c
        rw [if_neg c]
        split at h
        · rename_i c
          rw [if_pos c]
          obtain ⟨d1, d2, d3, d4⟩ := twS_t (a := 1) (by omega) h
          have e1 : (twS t len 1 60 (y, true)).1 = y + 2 := d3
          have e2 : y + 2 ≤ len := d4
          show y + 1 ≤ (twS t len 1 60 _).1 ∧ (twS t len 1 60 _).1 ≤ len
          omega
        · rename_i c
          rw [if_neg c]
          split at h
          · rename_i c
            rw [if_pos c]
            obtain ⟨a1, a2, a3, a4⟩ := twS_t (a := 0) (by omega) h
            obtain ⟨b1, b2, b3⟩ := dgS_t (by decide) a1
            obtain ⟨c1, c2, c3⟩ := dgS_t (by decide) b1
            have e1 : (dgS t len 0 3 (y, true)).1 = y + 1 := c3
            show y + 1 ≤ (twS t len 0 39 _).1 ∧ (twS t len 0 39 _).1 ≤ len
            rw [show (twS t len 0 39 (dgS t len 0 5 (dgS t len 0 3 (y, true)))).1 = _ from a3]
            omega
          · rename_i c
            rw [if_neg c]
            split at h
            · rename_i c
              rw [if_pos c]
              obtain ⟨a1, a2, a3⟩ := dgS_t (by decide) h
              obtain ⟨b1, b2, b3⟩ := dgS_t (by decide) a1
              have e1 : (dgS t len 0 3 (y, true)).1 = y + 1 := b3
              show y + 1 ≤ (dgS t len 0 9 _).1 ∧ (dgS t len 0 9 _).1 ≤ len
              omega
            · rename_i c
              rw [if_neg c]
              split at h
              · rename_i c
                rw [if_pos c]
                obtain ⟨a1, a2, a3⟩ := dgS_t (by decide) h
                obtain ⟨b1, b2, b3⟩ := dgS_t (by decide) a1
                have e1 : (dgS t len 0 2 (y, true)).1 = y + 1 := b3
                show y + 1 ≤ (dgS t len 0 9 _).1 ∧ (dgS t len 0 9 _).1 ≤ len
                omega
              · cases h
theorem cmS_t {t : Nat → Int32} {len y : Nat} {f : Nat → Int32} {x5 : Int32} (h : (cmS t len f y x5).1.2 = true) : y + 1 ≤ (cmS t len f y x5).1.1 ∧ (cmS t len f y x5).1.1 ≤ len := by
  unfold cmS at h ⊢
  split at h
  · rename_i c
    rw [if_pos c]
    have := pz_t (y := y + 1) h
    exact ⟨by have := this.1; show y + 1 ≤ (pz t len (hrF t len y) (y + 1)).1.1; omega, this.2⟩
  · cases h
