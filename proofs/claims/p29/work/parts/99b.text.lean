/-! the text that the law tells: its characters, and that it is a tournament -/
def chH (x j : Nat) : Nat := match j with
  | 0 => 84 | 1 => 103 | 2 => 49 | 3 => 48 + x % 10 | 4 => 49 + x % 4 | 5 => 48 | 6 => 48 | 7 => 48 | 8 => 103 | 9 => 48 | 10 => 53 + x % 5 | 11 => 48 + x / 3 % 6 | 12 => 48 | 13 => 48 | 14 => 48 + x / 7 % 10 | 15 => 115 | 16 => 49 | _ => 49 + x % 9
def chB (k y r : Nat) : Nat := match r with
  | 0 => 98 | 1 => 49 + y % 9 | 2 => 48 + y / 3 % 4 | 3 => 48 + y / 5 % 4 | 4 => 108 | 5 => 48 + k | 6 => 48 + y % 2 | 7 => 109 | 8 => 48 | 9 => 49 + y % 4 | 10 => 104 | 11 => 48 + y % 4 | 12 => 48 + y / 4 % 2 | 13 => 48 | 14 => 48 + y % 5 | 15 => 99 | 16 => 48 + y % 4 | _ => 48 + y / 9 % 5
def chF (x j : Nat) : Nat := if j < 18 then chH x j else chB ((j - 18) / 18) (x / 2 ^ ((j - 18) / 18)) ((j - 18) % 18)
theorem chF_b {x k r : Nat} (hr : r < 18) : chF x (18 + 18 * k + r) = chB k (x / 2 ^ k) r := by
  unfold chF
  rw [if_neg (by omega), show (18 + 18 * k + r - 18) / 18 = k by omega, show (18 + 18 * k + r - 18) % 18 = r by omega]
theorem chF_h {x j : Nat} (h : j < 18) : chF x j = chH x j := if_pos h
def txt (x : Nat) (c : Nat → Int32) (n : Nat) : Nat → Int32 := fun j => if j < n then nI (chF x j) else c j
theorem txt_0 {x : Nat} {c : Nat → Int32} : txt x c 0 = c := funext fun j => if_neg (Nat.not_lt_zero j)
theorem txt_s {x : Nat} {c : Nat → Int32} {n : Nat} : upd (txt x c n) n (nI (chF x n)) = txt x c (n + 1) := by
  funext j
  by_cases h : j = n
  · subst h; rw [pk_us]; unfold txt; rw [if_pos (Nat.lt_succ_self j)]
  · rw [pk_un h]; unfold txt
    by_cases h2 : j < n
    · rw [if_pos h2, if_pos (by omega)]
    · rw [if_neg h2, if_neg (by omega)]
theorem txt_r {x : Nat} {c : Nat → Int32} {n j : Nat} (h : j < n) : hrF (txt x c n) n j = nI (chF x j) := by
  unfold hrF txt; rw [if_pos h, if_pos h]
/-! digits -/
section
variable {t : Nat → Int32} {len : Nat}
theorem dg_ok {p v a b : Nat} (ht : hrF t len p = nI (48 + v)) (ha : a ≤ v) (hb : v ≤ b) (h9 : b < 100) : dgS t len (nI a) (nI b) (p, true) = (p + 1, true) ∧ dgV t len (nI a) (nI b) (p, true) = nI v := by
  have e : nI (48 + v) - 48 = nI v := by rw [show (48 : Int32) = nI 48 from rfl, nI_sb (by omega), show 48 + v - 48 = v by omega]
  have h : (true && dgO t len (nI a) (nI b) p) = true := by
    unfold dgO
    rw [ht, e, decide_eq_true ⟨nI_le ha (by omega), nI_le hb (by omega)⟩]; rfl
  refine ⟨if_pos h, ?_⟩
  unfold dgV
  rw [if_pos h, ht, e]
theorem tw_ok {p a b d1 d2 : Nat} (h1 : hrF t len p = nI (48 + d1)) (h2 : hrF t len (p + 1) = nI (48 + d2)) (h3 : d2 ≤ 9) (ha : a ≤ 10 * d1 + d2) (hb : 10 * d1 + d2 ≤ b) (h9 : b < 100) : twS t len (nI a) (nI b) (p, true) = (p + 2, true) := by
  have e1 : nI a / 10 = nI (a / 10) := pk_div (d := 10) (by omega) (by omega) (by omega)
  have e2 : nI b / 10 = nI (b / 10) := pk_div (d := 10) (by omega) (by omega) (by omega)
  have r1 : nI a - nI (a / 10) * 10 = nI (a % 10) := by have := pk_rem (a := a) (d := 10) (by omega) (by omega) (by omega); rw [← e1]; exact this
  have r2 : nI b - nI (b / 10) * 10 = nI (b % 10) := by have := pk_rem (a := b) (d := 10) (by omega) (by omega) (by omega); rw [← e2]; exact this
  obtain ⟨g1, g2⟩ := dg_ok (a := a / 10) (b := b / 10) h1 (by omega) (by omega) (by omega)
  unfold twS twL twH
  rw [e1, e2, r1, r2, g1, g2]
  have q1 : (if nI d1 = nI (a / 10) then nI (a % 10) else (0 : Int32)) = nI (if d1 = a / 10 then a % 10 else 0) := by
    by_cases c : d1 = a / 10
    · rw [if_pos c, c, if_pos rfl]
    · rw [if_neg c, if_neg (fun z => c ((nI_eq (by omega) (by omega)).mp z))]; rfl
  have q2 : (if nI d1 = nI (b / 10) then nI (b % 10) else (9 : Int32)) = nI (if d1 = b / 10 then b % 10 else 9) := by
    by_cases c : d1 = b / 10
    · rw [if_pos c, c, if_pos rfl]
    · rw [if_neg c, if_neg (fun z => c ((nI_eq (by omega) (by omega)).mp z))]; rfl
  rw [q1, q2]
  exact (dg_ok (p := p + 1) h2 (by split <;> omega) (by split <;> omega) (by split <;> omega)).1
/-! the commands -/
def NX9 (t : Nat → Int32) (len y y' : Nat) : Prop := ∀ (f : Nat → Int32) (x5 : Int32), (cmS t len f y x5).1 = (y', true)
theorem nx_of {y y' : Nat} {z : Int32} (hz : hrF t len y = z) (hL : isLet z) (hp : (pz t len z (y + 1)).1 = (y', true)) : NX9 t len y y' := by
  subst hz
  intro f x5
  unfold cmS
  rw [if_pos hL]
  exact hp
theorem nx_g {y d1 d2 c i a1 a2 : Nat} (h0 : hrF t len y = nI 103) (h1 : hrF t len (y + 1) = nI (48 + d1)) (h2 : hrF t len (y + 2) = nI (48 + d2)) (h3 : hrF t len (y + 3) = nI (48 + c)) (h4 : hrF t len (y + 4) = nI (48 + i)) (h5 : hrF t len (y + 5) = nI (48 + a1)) (h6 : hrF t len (y + 6) = nI (48 + a2)) (q1 : d2 ≤ 9) (q2 : 4 ≤ 10 * d1 + d2) (q3 : 10 * d1 + d2 ≤ 40) (q4 : c ≤ 5) (q5 : i ≤ 5) (q6 : a2 ≤ 9) (q7 : 10 * a1 + a2 ≤ 39) : NX9 t len y (y + 7) := by
  refine nx_of (z := 103) h0 (Or.inl rfl) ?_
  show twS t len (nI 0) (nI 39) (dgS t len (nI 0) (nI 5) (dgS t len (nI 0) (nI 5) (twS t len (nI 4) (nI 40) (y + 1, true)))) = (y + 7, true)
  rw [tw_ok h1 h2 q1 q2 q3 (by omega), (dg_ok (p := y + 1 + 2) h3 (by omega) q4 (by omega)).1, (dg_ok (p := y + 1 + 2 + 1) h4 (by omega) q5 (by omega)).1]
  exact tw_ok (p := y + 1 + 2 + 1 + 1) h5 h6 q6 (by omega) q7 (by omega)
theorem nx_s {y a b : Nat} (h0 : hrF t len y = nI 115) (h1 : hrF t len (y + 1) = nI (48 + a)) (h2 : hrF t len (y + 2) = nI (48 + b)) (q1 : a ≤ 2) (q2 : b ≤ 9) : NX9 t len y (y + 3) := by
  refine nx_of (z := 115) h0 (Or.inr (Or.inr (Or.inr (Or.inr (Or.inr (Or.inr rfl)))))) ?_
  show dgS t len (nI 0) (nI 9) (dgS t len (nI 0) (nI 2) (y + 1, true)) = (y + 3, true)
  rw [(dg_ok h1 (by omega) q1 (by omega)).1]
  exact (dg_ok (p := y + 1 + 1) h2 (by omega) q2 (by omega)).1
theorem nx_b {y a b c : Nat} (h0 : hrF t len y = nI 98) (h1 : hrF t len (y + 1) = nI (48 + a)) (h2 : hrF t len (y + 2) = nI (48 + b)) (h3 : hrF t len (y + 3) = nI (48 + c)) (q0 : 1 ≤ a) (q1 : a ≤ 9) (q2 : b ≤ 3) (q3 : c ≤ 3) : NX9 t len y (y + 4) := by
  refine nx_of (z := 98) h0 (Or.inr (Or.inl rfl)) ?_
  show dgS t len (nI 0) (nI 3) (dgS t len (nI 0) (nI 3) (dgS t len (nI 1) (nI 9) (y + 1, true))) = (y + 4, true)
  rw [(dg_ok h1 q0 q1 (by omega)).1, (dg_ok (p := y + 1 + 1) h2 (by omega) q2 (by omega)).1]
  exact (dg_ok (p := y + 1 + 1 + 1) h3 (by omega) q3 (by omega)).1
theorem nx_l {y a b : Nat} (h0 : hrF t len y = nI 108) (h1 : hrF t len (y + 1) = nI (48 + a)) (h2 : hrF t len (y + 2) = nI (48 + b)) (q1 : a ≤ 9) (q2 : b ≤ 5) : NX9 t len y (y + 3) := by
  refine nx_of (z := 108) h0 (Or.inr (Or.inr (Or.inl rfl))) ?_
  show dgS t len (nI 0) (nI 5) (dgS t len (nI 0) (nI 9) (y + 1, true)) = (y + 3, true)
  rw [(dg_ok h1 (by omega) q1 (by omega)).1]
  exact (dg_ok (p := y + 1 + 1) h2 (by omega) q2 (by omega)).1
theorem nx_m {y a b : Nat} (h0 : hrF t len y = nI 109) (h1 : hrF t len (y + 1) = nI (48 + a)) (h2 : hrF t len (y + 2) = nI (48 + b)) (q1 : b ≤ 9) (q2 : 1 ≤ 10 * a + b) (q3 : 10 * a + b ≤ 60) : NX9 t len y (y + 3) := by
  refine nx_of (z := 109) h0 (Or.inr (Or.inr (Or.inr (Or.inl rfl)))) ?_
  exact tw_ok (a := 1) (b := 60) h1 h2 q1 q2 q3 (by omega)
theorem nx_h {y a b c1 c2 : Nat} (h0 : hrF t len y = nI 104) (h1 : hrF t len (y + 1) = nI (48 + a)) (h2 : hrF t len (y + 2) = nI (48 + b)) (h3 : hrF t len (y + 3) = nI (48 + c1)) (h4 : hrF t len (y + 4) = nI (48 + c2)) (q1 : a ≤ 3) (q2 : b ≤ 5) (q3 : c2 ≤ 9) (q4 : 10 * c1 + c2 ≤ 39) : NX9 t len y (y + 5) := by
  refine nx_of (z := 104) h0 (Or.inr (Or.inr (Or.inr (Or.inr (Or.inl rfl))))) ?_
  show twS t len (nI 0) (nI 39) (dgS t len (nI 0) (nI 5) (dgS t len (nI 0) (nI 3) (y + 1, true))) = (y + 5, true)
  rw [(dg_ok h1 (by omega) q1 (by omega)).1, (dg_ok (p := y + 1 + 1) h2 (by omega) q2 (by omega)).1]
  exact tw_ok (p := y + 1 + 1 + 1) h3 h4 q3 (by omega) q4 (by omega)
theorem nx_c {y a b : Nat} (h0 : hrF t len y = nI 99) (h1 : hrF t len (y + 1) = nI (48 + a)) (h2 : hrF t len (y + 2) = nI (48 + b)) (q1 : a ≤ 3) (q2 : b ≤ 9) : NX9 t len y (y + 3) := by
  refine nx_of (z := 99) h0 (Or.inr (Or.inr (Or.inr (Or.inr (Or.inr (Or.inl rfl)))))) ?_
  show dgS t len (nI 0) (nI 9) (dgS t len (nI 0) (nI 3) (y + 1, true)) = (y + 3, true)
  rw [(dg_ok h1 (by omega) q1 (by omega)).1]
  exact (dg_ok (p := y + 1 + 1) h2 (by omega) q2 (by omega)).1
/-- read from here, the text is good -/
def RD9 (t : Nat → Int32) (len k y : Nat) : Prop := ∀ F : (Nat → Int32) × Int32, (rdA t len k ((y, true), F)).1 = (len, true)
theorem rd_end : ∀ k, RD9 t len k len
  | 0 => fun _ => rfl
  | k + 1 => fun F => by
    unfold rdA
    rw [if_neg (fun q => absurd q.2 (Nat.lt_irrefl len))]
theorem rd_s {k y y' : Nat} (h : RD9 t len k y') (hn : NX9 t len y y') (hy : y < len) : RD9 t len (k + 1) y := by
  intro F
  unfold rdA
  rw [if_pos ⟨rfl, hy⟩]
  have e : cmS t len F.1 y F.2 = ((y', true), (cmS t len F.1 y F.2).2) := Prod.ext (hn F.1 F.2) rfl
  show (rdA t len k (cmS t len F.1 y F.2)).1 = _
  rw [e]
  exact h _
end
theorem txt_blk {x : Nat} {c : Nat → Int32} {m : Nat} (hm : m ≤ 5) : ∀ (j k : Nat), k + j = m → RD9 (txt x c (18 + 18 * m)) (18 + 18 * m) (5 * j + 50) (18 + 18 * k)
  | 0, k, h => by
    obtain rfl : k = m := h
    exact rd_end _
  | j + 1, k, h => by
    have ih := txt_blk (x := x) (c := c) hm j (k + 1) (by omega)
    have r : ∀ i, i < 18 → hrF (txt x c (18 + 18 * m)) (18 + 18 * m) (18 + 18 * k + i) = nI (chB k (x / 2 ^ k) i) := fun i hi => (txt_r (by omega)).trans (by rw [chF_b hi])
    generalize x / 2 ^ k = y at r
    have h98 := r 0 (by omega)
    refine rd_s (y' := 18 + 18 * k + 4) ?_ (nx_b h98 ((r 1 (by omega)).trans (by rw [show chB k y 1 = 48 + (1 + y % 9) by show 49 + y % 9 = _; omega])) (r 2 (by omega)) (r 3 (by omega)) (by omega) (by omega) (by omega) (by omega)) (by omega)
    refine rd_s (y' := 18 + 18 * k + 7) ?_ (nx_l (r 4 (by omega)) (r 5 (by omega)) (r 6 (by omega)) (by omega) (by omega)) (by omega)
    refine rd_s (y' := 18 + 18 * k + 10) ?_ (nx_m (a := 0) (r 7 (by omega)) (r 8 (by omega)) ((r 9 (by omega)).trans (by rw [show chB k y 9 = 48 + (1 + y % 4) by show 49 + y % 4 = _; omega])) (by omega) (by omega) (by omega)) (by omega)
    refine rd_s (y' := 18 + 18 * k + 15) ?_ (nx_h (c1 := 0) (r 10 (by omega)) (r 11 (by omega)) (r 12 (by omega)) (r 13 (by omega)) (r 14 (by omega)) (by omega) (by omega) (by omega) (by omega)) (by omega)
    refine rd_s (y' := 18 + 18 * k + 18) ?_ (nx_c (r 15 (by omega)) (r 16 (by omega)) (r 17 (by omega)) (by omega) (by omega)) (by omega)
    exact ih
theorem txt_good {x : Nat} {c : Nat → Int32} {m : Nat} (hm : m ≤ 5) (f : Nat → Int32) : (tsF (txt x c (18 + 18 * m)) (18 + 18 * m) f).1 = (18 + 18 * m, true) := by
  have r : ∀ i, i < 18 → hrF (txt x c (18 + 18 * m)) (18 + 18 * m) i = nI (chH x i) := fun i hi => (txt_r (by omega)).trans (by rw [chF_h hi])
  have hT : hrF (txt x c (18 + 18 * m)) (18 + 18 * m) 0 = 84 := r 0 (by omega)
  unfold tsF
  rw [if_pos hT]
  have hB := txt_blk (x := x) (c := c) hm m 0 (by omega)
  have h3 : RD9 (txt x c (18 + 18 * m)) (18 + 18 * m) (5 * m + 50 + 3) 1 := by
    refine rd_s (y' := 8) ?_ (nx_g (y := 1) (d1 := 1) (i := 0) (a1 := 0) (a2 := 0) (r 1 (by omega)) (r 2 (by omega)) (r 3 (by omega)) ((r 4 (by omega)).trans (by rw [show chH x 4 = 48 + (1 + x % 4) by show 49 + x % 4 = _; omega])) (r 5 (by omega)) (r 6 (by omega)) (r 7 (by omega)) (by omega) (by omega) (by omega) (by omega) (by omega) (by omega) (by omega)) (by omega)
    refine rd_s (y' := 15) ?_ (nx_g (y := 8) (d1 := 0) (i := 0) (a1 := 0) (r 8 (by omega)) (r 9 (by omega)) ((r 10 (by omega)).trans (by rw [show chH x 10 = 48 + (5 + x % 5) by show 53 + x % 5 = _; omega])) (r 11 (by omega)) (r 12 (by omega)) (r 13 (by omega)) (r 14 (by omega)) (by omega) (by omega) (by omega) (by omega) (by omega) (by omega) (by omega)) (by omega)
    refine rd_s (y' := 18) ?_ (nx_s (y := 15) (a := 1) (r 15 (by omega)) (r 16 (by omega)) ((r 17 (by omega)).trans (by rw [show chH x 17 = 48 + (1 + x % 9) by show 49 + x % 9 = _; omega])) (by omega) (by omega)) (by omega)
    exact hB
  obtain ⟨d, hd⟩ : ∃ d, 121 = 5 * m + 50 + 3 + d := ⟨121 - (5 * m + 50 + 3), by omega⟩
  rw [hd]
  have up : ∀ (d k y : Nat) (t : Nat → Int32) (len : Nat), RD9 t len k y → RD9 t len (k + d) y := by
    intro d
    induction d with
    | zero => intro k y t len h; exact h
    | succ d ih =>
      intro k y t len h F
      have h9 := ih k y t len h
      have mono : ∀ (k : Nat) (S : TS), (rdA t len k S).1 = (len, true) → (rdA t len (k + 1) S).1 = (len, true) := by
        intro k
        induction k with
        | zero =>
          intro S hS
          have hS2 : S.1 = (len, true) := hS
          unfold rdA
          rw [if_neg (fun q => by rw [hS2] at q; exact absurd q.2 (Nat.lt_irrefl len))]
          exact hS2
        | succ k ik =>
          intro S hS
          unfold rdA at hS ⊢
          split
          · rename_i q
            rw [if_pos q] at hS
            exact ik _ hS
          · rename_i q
            rw [if_neg q] at hS
            exact hS
      exact mono (k + d) _ (h9 F)
  exact up d _ _ _ _ h3 _
/-! the row that such a text comes to -/
theorem cmS_K {M : Nat} {t : Nat → Int32} {len y : Nat} {f : Nat → Int32} {x5 : Int32} (h : OK2 M f) : OK2 (M + 60) (cmS t len f y x5).2.1 := by
  unfold cmS; split
  · show OK2 (M + 60) (exR _ _ _ _).1
    unfold exR; split
    · exact pf_K h
    · exact h.mono (by omega)
  · exact h.mono (by omega)
theorem rdA_K {t : Nat → Int32} {len : Nat} : ∀ (k M : Nat) (S : TS), OK2 M S.2.1 → OK2 (M + 60 * k) (rdA t len k S).2.1
  | 0, _, _, h => h
  | k + 1, M, S, h => by
    unfold rdA; split
    · exact (rdA_K k (M + 60) _ (cmS_K h)).mono (by omega)
    · exact h.mono (by omega)
theorem OK2_fr {f : Nat → Int32} : OK2 0 (frF f) := by
  have z : ∀ j, j < 157 → (∀ o, o < 4 → j ≠ 134 + 3 * o + 1 ∧ j ≠ 134 + 3 * o + 2) → j ≠ 155 → j ≠ 156 → frF f j = 0 := fun j => frF_0
  have hb : bN (frF f) = 0 := by unfold bN; rw [z 147 (by omega) (fun o ho => by omega) (by omega) (by omega)]; rfl
  refine ⟨OKr_fr, 0, 0, fun _ => 0, fun _ => 0, fun _ => 0, ⟨z 148 (by omega) (fun o ho => by omega) (by omega) (by omega), Nat.le_refl 0⟩, ⟨z 149 (by omega) (fun o ho => by omega) (by omega) (by omega), Nat.le_refl 0⟩, fun b h => ?_, fun o ho => z _ (by omega) (fun o ho => by omega) (by omega) (by omega), ?_, ?_, ?_⟩
  · rw [hb] at h; exact absurd h (Nat.not_lt_zero b)
  · rw [hb, z 150 (by omega) (fun o ho => by omega) (by omega) (by omega)]; exact Nat.le_refl 0
  · exact Nat.le_of_eq (by rw [hb]; rfl)
  · exact Nat.le_refl 0
theorem ts_K {t : Nat → Int32} {len : Nat} {f : Nat → Int32} : OK2 7260 (tsF t len f).2.1 := by
  unfold tsF
  have h : ∀ S : TS, S.2.1 = frF f → OK2 7260 (rdA t len 121 S).2.1 := fun S hS => (rdA_K 121 0 S (by rw [hS]; exact OK2_fr)).mono (by omega)
  split
  · exact h _ rfl
  · exact h _ rfl
