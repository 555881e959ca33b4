/-! the model: scripts, simulations, a new object -/
theorem tnF_e : ∀ n : Nat, tnF n = lN (10 ^ n)
  | 0 => rfl
  | n + 1 => by
    show tnF n * 10 = _
    rw [tnF_e n, show (10 : Int64) = lN 10 from rfl, lN_mul, Nat.pow_succ]
theorem gq1 {G : Nat} (h : G < 100000) : nI G / 1000 - nI G / 1000 / 10 * 10 = nI (G / 1000 % 10) := by
  rw [show nI G / 1000 = nI (G / 1000) from pk_div (d := 1000) (by omega) (by omega) (by omega)]
  exact pk_rem (d := 10) (by omega) (by omega) (by omega)
theorem gq2 {G : Nat} (h : G < 100000) : nI G / 100 - nI G / 100 / 10 * 10 = nI (G / 100 % 10) := by
  rw [show nI G / 100 = nI (G / 100) from pk_div (d := 100) (by omega) (by omega) (by omega)]
  exact pk_rem (d := 10) (by omega) (by omega) (by omega)
theorem gq3 {G : Nat} (h : G < 100000) : nI G / 10 - nI G / 10 / 10 * 10 = nI (G / 10 % 10) := by
  rw [show nI G / 10 = nI (G / 10) from pk_div (d := 10) (by omega) (by omega) (by omega)]
  exact pk_rem (d := 10) (by omega) (by omega) (by omega)
theorem gq5 {G : Nat} (h : G < 100000) : nI G - nI G / 10 * 10 = nI (G % 10) := pk_rem (d := 10) (by omega) (by omega) (by omega)
theorem gq7 {G : Nat} (h : G < 100000) : nI G / 10000 = nI (G / 10000) := pk_div (d := 10000) (by omega) (by omega) (by omega)
def cmdF (f : Nat → Int32) (G : Nat) : Bool × (Nat → Int32) := match G / 10000 with
  | 1 => if G % 100 = 0 then pfL f (nI (G / 1000 % 10)) (nI (G / 100 % 10)) else (false, f)
  | 2 => if G % 10000 < 100 then pfM f (nI (G % 100)) else (false, f)
  | 3 => pfH f (nI (G / 1000 % 10)) (nI (G / 100 % 10)) (nI (G % 100))
  | 4 => if G % 100 = 0 then pfT f (nI (G / 1000 % 10)) (nI (G / 100 % 10)) else (false, f)
  | 5 => if G % 1000 < 10 then pfS f (nI (G / 1000 % 10)) (nI (G % 10)) else (false, f)
  | 6 => if G % 10 = 0 then pfB f (nI (G / 1000 % 10)) (nI (G / 100 % 10)) (nI (G / 10 % 10)) else (false, f)
  | 7 => (decide (G % 1000 < 10 ∧ G / 1000 % 10 < bN f ∧ f (24 + 10 * (G / 1000 % 10) + 3) = nI (G % 10)), f)
  | 8 => (decide (G / 100 % 10 = 0 ∧ G / 1000 % 10 ≤ 3 ∧ nI (G % 100) ≤ f (134 + 3 * (G / 1000 % 10))), f)
  | 9 => (decide (G / 100 % 10 = 0 ∧ G / 1000 % 10 < bN f ∧ f (24 + 10 * (G / 1000 % 10) + 6) ≤ nI (G % 100)), f)
  | _ => (false, f)
theorem cmdF_ok {f : Nat → Int32} {G : Nat} (h : OKr f) : OKr (cmdF f G).2 := by
  unfold cmdF
  split
  · split
    · exact pfL_ok h
    · exact h
  · split
    · exact pfM_ok h
    · exact h
  · exact pfH_ok h
  · split
    · exact pfT_ok h
    · exact h
  · split
    · exact pfS_ok h
    · exact h
  · split
    · exact pfB_ok h
    · exact h
  · exact h
  · exact h
  · exact h
  · exact h
abbrev rm (a b : Int32) : Int32 := a - a / b * b
def stN (f : Nat → Int32) (q : Int32) (i : Nat) : Bool × (Nat → Int32) := match i with
  | 0 => pfG f (4 + rm q 20) (rm (q / 32) 6) (rm (q / 256) 6) (rm (q / 2048) 20)
  | 1 => pfB f (1 + rm q 9) (rm (q / 16) 4) (rm (q / 64) 4)
  | 2 => pfB f (1 + rm q 9) (rm (q / 16) 4) (rm (q / 64) 4)
  | 3 => pfL f (rm q 10) (rm (q / 16) 6)
  | 4 => pfL f (rm q 10) (rm (q / 16) 6)
  | 5 => pfL f (rm q 10) (rm (q / 16) 6)
  | 6 => pfL f (rm q 10) (rm (q / 16) 6)
  | 7 => pfH f (rm q 4) (rm (q / 4) 6) (rm (q / 32) 20)
  | 8 => pfT f (rm q 4) (rm (q / 4) 10)
  | 9 => pfT f (rm q 4) (rm (q / 4) 10)
  | 10 => pfS f (rm q 3) (rm (q / 4) 5)
  | _ => pfM f (1 + rm q 4)
def stF (f : Nat → Int32) (r : Int32) : Bool × (Nat → Int32) := stN f (r / 16) (if 0 ≤ rm r 16 ∧ rm r 16 ≤ 10 then (rm r 16).toNatClampNeg else 11)
theorem stF_ok {f : Nat → Int32} {r : Int32} (h : OKr f) : OKr (stF f r).2 := by
  unfold stF
  generalize (if 0 ≤ rm r 16 ∧ rm r 16 ≤ 10 then (rm r 16).toNatClampNeg else 11) = i
  unfold stN
  split <;> first | exact pfG_ok h | exact pfB_ok h | exact pfL_ok h | exact pfH_ok h | exact pfT_ok h | exact pfS_ok h | exact pfM_ok h
def scR (S N : Nat) : Nat → Nat → (Nat → Int32) → Int32 × (Nat → Int32)
  | 0, _, tr => (-1, tr)
  | j + 1, k, tr => if (cmdF tr (S / 10 ^ (5 * (N - 1 - k)) % 100000)).1 = true then scR S N j (k + 1) (cmdF tr (S / 10 ^ (5 * (N - 1 - k)) % 100000)).2 else (nI k, (cmdF tr (S / 10 ^ (5 * (N - 1 - k)) % 100000)).2)
def sxF (x : Int64) : Int32 := ((x.toUInt64 >>> ((33 : Int32).toInt64.toUInt64 &&& Int64.toUInt64 63)).toInt64).toInt32
def nxF (x : Int64) : Int64 := x * 6364136223846793005 + 1442695040888963407
def itR (nx : Int64 → Int64) (sx : Int64 → Int32) : Nat → Int64 → (Nat → Int32) → (Nat → Int32)
  | 0, _, tr => tr
  | j + 1, x, tr => itR nx sx j (nx x) (stF tr (sx (nx x))).2
theorem itR_s {nx : Int64 → Int64} {sx : Int64 → Int32} {j : Nat} {x : Int64} {tr : Nat → Int32} : itR nx sx (j + 1) x tr = itR nx sx j (nx x) (stF tr (sx (nx x))).2 := rfl
theorem itR_ok {nx : Int64 → Int64} {sx : Int64 → Int32} : ∀ (j : Nat) (x : Int64) (tr : Nat → Int32), OKr tr → OKr (itR nx sx j x tr)
  | 0, _, _, h => h
  | j + 1, x, tr, h => by
    rw [itR_s]; exact itR_ok j (nx x) _ (stF_ok h)
def smV (f T : Nat → Int32) : Int32 := 10000 * (T 149 - f 149) + 100 * (ptsF T - ptsF T / 100 * 100) + nI (cntS T (bN T) 3)
