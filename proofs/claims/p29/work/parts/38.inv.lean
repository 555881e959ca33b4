/-! A ROW AS IT CAN BE -/
theorem inC9.to {f f' : Nat → Int32} {ng b : Nat} (h6 : ng ≤ 6) (h : inC9 f ng b) (h1 : ∀ j, j < 24 → f' j = f j) (h4 : f' (24 + 10 * b + 4) = f (24 + 10 * b + 4)) (h5 : f' (24 + 10 * b + 5) = f (24 + 10 * b + 5)) : inC9 f' ng b := by
  obtain ⟨g, c, L, a1, a2, a3, a4, a5⟩ := h
  exact ⟨g, c, L, a1, h4.trans a2, h5.trans a3, (h1 _ (by omega)).trans a4, a5⟩
def BT (f : Nat → Int32) (ng b : Nat) : Prop := ∃ F W O S K : Nat, 1 ≤ F ∧ F ≤ 9 ∧ W ≤ 3 ∧ O ≤ 3 ∧ S ≤ 4 ∧ K ≤ 97 ∧ f (24 + 10 * b + 0) = nI F ∧ f (24 + 10 * b + 1) = nI W ∧ f (24 + 10 * b + 2) = nI O ∧ f (24 + 10 * b + 3) = nI S ∧ f (24 + 10 * b + 6) = nI K ∧ (S = 1 → K ≤ 93) ∧ (S = 1 ∨ S = 3 → inC9 f ng b)
theorem BT.to {f f' : Nat → Int32} {ng b : Nat} (h6 : ng ≤ 6) (h : BT f ng b) (h1 : ∀ j, j < 24 → f' j = f j) (h2 : ∀ c, c < 10 → f' (24 + 10 * b + c) = f (24 + 10 * b + c)) : BT f' ng b := by
  obtain ⟨F, W, O, S, K, a1, a2, a3, a4, a5, a6, b0, b1, b2, b3, b4, b5, b6⟩ := h
  exact ⟨F, W, O, S, K, a1, a2, a3, a4, a5, a6, (h2 0 (by omega)).trans b0, (h2 1 (by omega)).trans b1, (h2 2 (by omega)).trans b2, (h2 3 (by omega)).trans b3, (h2 6 (by omega)).trans b4, b5, fun q => (b6 q).to h6 h1 (h2 4 (by omega)) (h2 5 (by omega))⟩
def SE (f : Nat → Int32) : Prop := ∃ r m h : Nat, r ≤ 3 ∧ 1 ≤ m ∧ m ≤ 9 ∧ h ≤ 9 ∧ f 154 = nI r ∧ f 155 = nI m ∧ f 156 = nI h
def OW (f : Nat → Int32) (ng : Nat) : Prop := ∀ o, o < 4 → (f (134 + 3 * o + 1) = -1 ∧ f (134 + 3 * o + 2) = -1) ∨ ∃ g c L, g < ng ∧ f (134 + 3 * o + 1) = nI g ∧ f (134 + 3 * o + 2) = nI c ∧ f (4 * g + 0) = nI L ∧ c < L ∧ L ≤ 40
theorem OW.to {f f' : Nat → Int32} {ng : Nat} (h6 : ng ≤ 6) (h : OW f ng) (h1 : ∀ j, j < 24 → f' j = f j) (h2 : ∀ o, o < 4 → f' (134 + 3 * o + 1) = f (134 + 3 * o + 1) ∧ f' (134 + 3 * o + 2) = f (134 + 3 * o + 2)) : OW f' ng := by
  intro o ho
  obtain ⟨q1, q2⟩ := h2 o ho
  rcases h o ho with ⟨a, b⟩ | ⟨g, c, L, a1, a2, a3, a4, a5⟩
  · exact Or.inl ⟨q1.trans a, q2.trans b⟩
  · exact Or.inr ⟨g, c, L, a1, q1.trans a2, q2.trans a3, (h1 _ (by omega)).trans a4, a5⟩
def PLc (f : Nat → Int32) (nb : Nat) : Prop := f 153 = nI (cntS f nb 2) ∧ (∀ b, b < nb → f (24 + 10 * b + 3) = 2 → ∃ q, 1 ≤ q ∧ q ≤ cntS f nb 2 ∧ f (24 + 10 * b + 7) = nI q) ∧ ∀ b b', b < nb → b' < nb → f (24 + 10 * b + 3) = 2 → f (24 + 10 * b' + 3) = 2 → f (24 + 10 * b + 7) = f (24 + 10 * b' + 7) → b = b'
def WN (f : Nat → Int32) (nb : Nat) : Prop := f 151 = bx_sum (fun b => f (24 + 10 * b + 8)) nb
def RI (f : Nat → Int32) (ng nb : Nat) : Prop := GG f ng ∧ f 147 = nI nb ∧ nb ≤ 11 ∧ (∀ b, b < nb → BT f ng b) ∧ SE f ∧ OW f ng ∧ PLc f nb ∧ WN f nb
def UD (f : Nat → Int32) (nb : Nat) : Prop := (f 150 = 1 ∧ 0 < cntS f nb 1) ∨ (f 150 = 0 ∧ cntS f nb 1 = 0 ∧ cntS f nb 2 = 0)
theorem cntN_c {P Q : Nat → Bool} : ∀ (n : Nat), (∀ j, j < n → P j = Q j) → cntN P n = cntN Q n
  | 0, _ => rfl
  | n + 1, h => by
    unfold cntN
    rw [cntN_c n (fun j hj => h j (by omega)), h n (by omega)]
theorem cntN_u {P Q : Nat → Bool} {b : Nat} : ∀ (n : Nat), b < n → (∀ j, j < n → j ≠ b → Q j = P j) → cntN Q n + (if P b = true then 1 else 0) = cntN P n + (if Q b = true then 1 else 0)
  | 0, h, _ => absurd h (Nat.not_lt_zero b)
  | n + 1, h, hq => by
    unfold cntN
    by_cases e : b = n
    · subst e
      rw [cntN_c (P := Q) (Q := P) b (fun j hj => hq j (by omega) (by omega))]
      omega
    · have := cntN_u (P := P) (Q := Q) n (by omega) (fun j hj hn => hq j (by omega) hn)
      rw [hq n (by omega) (fun q => e q.symm)]
      omega
theorem bxs_c {g h : Nat → Int32} : ∀ (n : Nat), (∀ j, j < n → g j = h j) → bx_sum g n = bx_sum h n
  | 0, _ => rfl
  | n + 1, q => by
    show bx_sum g n + g n = bx_sum h n + h n
    rw [bxs_c n (fun j hj => q j (by omega)), q n (by omega)]
theorem bxs_u {g h : Nat → Int32} {b : Nat} {v : Int32} : ∀ (n : Nat), b < n → (∀ j, j < n → j ≠ b → h j = g j) → h b = g b + v → bx_sum h n = bx_sum g n + v
  | 0, q, _, _ => absurd q (Nat.not_lt_zero b)
  | n + 1, q, hj, hb => by
    show bx_sum h n + h n = bx_sum g n + g n + v
    by_cases e : b = n
    · subst e
      rw [bxs_c (g := h) (h := g) b (fun j h1 => hj j (by omega) (by omega)), hb, Int32.add_assoc]
    · rw [bxs_u n (by omega) (fun j h1 h2 => hj j (by omega) h2) hb, hj n (by omega) (fun z => e z.symm), Int32.add_assoc, Int32.add_assoc, Int32.add_comm v]
theorem cntS_c {f f' : Nat → Int32} {nb : Nat} {x : Int32} (h : ∀ b, b < nb → f' (24 + 10 * b + 3) = f (24 + 10 * b + 3)) : cntS f' nb x = cntS f nb x := by
  unfold cntS; exact cntN_c nb (fun j hj => by rw [h j hj])
theorem cntS_u {f f' : Nat → Int32} {nb b : Nat} {x : Int32} (hb : b < nb) (h : ∀ j, j < nb → j ≠ b → f' (24 + 10 * j + 3) = f (24 + 10 * j + 3)) : cntS f' nb x + (if f (24 + 10 * b + 3) = x then 1 else 0) = cntS f nb x + (if f' (24 + 10 * b + 3) = x then 1 else 0) := by
  have := cntN_u (P := fun b => decide (f (24 + 10 * b + 3) = x)) (Q := fun b => decide (f' (24 + 10 * b + 3) = x)) nb hb (fun j h1 h2 => by rw [h j h1 h2])
  simp only [decide_eq_true_eq] at this
  exact this
theorem cntN_0 {P : Nat → Bool} : ∀ (n : Nat), cntN P n = 0 → ∀ j, j < n → P j = false
  | 0, _, j, hj => absurd hj (Nat.not_lt_zero j)
  | n + 1, h, j, hj => by
    unfold cntN at h
    by_cases e : j = n
    · subst e
      cases hp : P j with
      | false => rfl
      | true => rw [hp] at h; simp at h
    · exact cntN_0 n (by omega) j (by omega)
theorem cntS_0 {f : Nat → Int32} {nb : Nat} {x : Int32} (h : cntS f nb x = 0) : ∀ b, b < nb → f (24 + 10 * b + 3) ≠ x :=
  fun b hb => of_decide_eq_false (cntN_0 nb h b hb)
theorem cntS_z {f : Nat → Int32} {nb : Nat} {x : Int32} (h : ∀ b, b < nb → f (24 + 10 * b + 3) ≠ x) : cntS f nb x = 0 := by
  unfold cntS
  rw [cntN_c (Q := fun _ => false) nb (fun j hj => decide_eq_false (h j hj))]
  clear h
  induction nb with
  | zero => rfl
  | succ n ih => unfold cntN; rw [ih]; rfl
/-- a change that leaves all but one boat's row, and counters -/
theorem RI_b {f f' : Nat → Int32} {ng nb b : Nat} (h : RI f ng nb) (h1 : ∀ j, j < 24 → f' j = f j) (h2 : f' 146 = f 146) (h3 : f' 147 = f 147) (h4 : f' 154 = f 154 ∧ f' 155 = f 155 ∧ f' 156 = f 156) (h5 : ∀ o, o < 4 → f' (134 + 3 * o + 1) = f (134 + 3 * o + 1) ∧ f' (134 + 3 * o + 2) = f (134 + 3 * o + 2))
    (h6 : ∀ j c, j < nb → j ≠ b → c < 10 → f' (24 + 10 * j + c) = f (24 + 10 * j + c)) (h7 : BT f' ng b) (h8 : PLc f' nb) (h9 : WN f' nb) : RI f' ng nb := by
  obtain ⟨a1, a2, a3, a4, a5, a6, a7, a8⟩ := h
  refine ⟨a1.to h1 h2, h3.trans a2, a3, fun j hj => ?_, ?_, a6.to a1.2.1 h1 h5, h8, h9⟩
  · by_cases e : j = b
    · rw [e]; exact h7
    · exact (a4 j hj).to a1.2.1 h1 (fun c hc => h6 j c hj e hc)
  · obtain ⟨r, m, h, b1, b2, b3, b4, b5, b6, b7⟩ := a5
    exact ⟨r, m, h, b1, b2, b3, b4, h4.1.trans b5, h4.2.1.trans b6, h4.2.2.trans b7⟩
/-- what a boat's drifting comes to: it has moved, and then come into the drain, or soaked -/
def Mv (f f1 : Nat → Int32) (b : Nat) : Prop := ∀ j, j ≠ 24 + 10 * b + 4 → j ≠ 24 + 10 * b + 5 → j ≠ 24 + 10 * b + 9 → f1 j = f j
theorem drf_c {ng nb b : Nat} (hb : b < 11) : ∀ (k : Nat) (f : Nat → Int32), GG f ng → inC9 f ng b → ∃ f1, Mv f f1 b ∧ inC9 f1 ng b ∧ (drf nb b k f = f1 ∨ drf nb b k f = arv f1 b)
  | 0, f, _, hc => ⟨f, fun _ _ _ _ => rfl, hc, Or.inl rfl⟩
  | k + 1, f, hG, hc => by
    rcases mv_go (nb := nb) hG hc hb with ⟨m1, m2, g, c, m3⟩ | ⟨m1, m2⟩
    · have hM : Mv f (mv f nb b).2 b := by
        intro j h1 h2 h3
        rw [m3]
        unfold mvd
        rw [pk_un h3, pk_un h2, pk_un h1]
      obtain ⟨f1, q1, q2, q3⟩ := drf_c hb k (mv f nb b).2 (hG.to (fun j hj => hM j (by omega) (by omega) (by omega)) (hM _ (by omega) (by omega) (by omega))) m2
      refine ⟨f1, fun j h1 h2 h3 => (q1 j h1 h2 h3).trans (hM j h1 h2 h3), q2, ?_⟩
      show (if _ then _ else _) = _ ∨ (if _ then _ else _) = _
      rw [if_pos m1]
      exact q3
    · refine ⟨f, fun _ _ _ _ => rfl, hc, ?_⟩
      show (if _ then _ else _) = _ ∨ (if _ then _ else _) = _
      rw [if_neg (by rw [m1]; decide)]
      exact m2
theorem arv_3 {f : Nat → Int32} {b : Nat} : arv f b (24 + 10 * b + 3) = 2 := by
  unfold arv; rw [pk_un (by omega), pk_un (by omega), pk_us]
theorem arv_7 {f : Nat → Int32} {b : Nat} : arv f b (24 + 10 * b + 7) = f 153 + 1 := by
  unfold arv; rw [pk_un (by omega), pk_us]
theorem arv_153 {f : Nat → Int32} {b : Nat} (hb : b < 11) : arv f b 153 = f 153 + 1 := by
  unfold arv; rw [pk_un (by omega), pk_un (by omega), pk_un (by omega), pk_us]
theorem dri_c {f : Nat → Int32} {ng nb b : Nat} (hb : b < 11) (hG : GG f ng) (hc : inC9 f ng b) (hs : f (24 + 10 * b + 3) = 1) : ∃ f1, Mv f f1 b ∧ inC9 f1 ng b ∧ (dri f nb b = arv f1 b ∨ dri f nb b = soa f1 b) := by
  obtain ⟨f1, q1, q2, q3⟩ := drf_c (nb := nb) hb (dcl f b).toNatClampNeg f hG hc
  refine ⟨f1, q1, q2, ?_⟩
  unfold dri
  rcases q3 with e | e
  · rw [e, if_pos ((q1 _ (by omega) (by omega) (by omega)).trans hs)]
    exact Or.inr rfl
  · rw [e, if_neg (by rw [arv_3]; decide)]
    exact Or.inl rfl
