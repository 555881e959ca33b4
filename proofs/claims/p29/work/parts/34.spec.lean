/-! WHAT A ROW COMES TO: the game's steps as functions of the row's contents (boats at 24 + 10 * b, owners at 134 + 3 * o) -/
def cntS (f : Nat → Int32) (nb : Nat) (st : Int32) : Nat := cntN (fun b => decide (f (24 + 10 * b + 3) = st)) nb
def wrk (f : Nat → Int32) (nb : Nat) (g c : Int32) : Bool := anyN (fun b => decide (f (24 + 10 * b + 3) = 3 ∧ f (24 + 10 * b + 4) = g ∧ f (24 + 10 * b + 5) = c)) nb
/-- the way: what is summed so far, the gutter, the cell -/
def drn (f : Nat → Int32) : Nat → Int32 → Nat → Int32 → Int32
  | 0, sm, _, c => sm + f 0 - c
  | k + 1, sm, g, c => if g = 0 then sm + f 0 - c else drn f k (sm + (f (4 * g + 0) - c)) (f (4 * g + 2)).toNatClampNeg (f (4 * g + 3))
def bea (f : Nat → Int32) (b : Nat) : Int32 := f (24 + 10 * b + 0) * f 155 + 4 * f (24 + 10 * b + 1)
/-- boat b comes into the drain; boat b comes to a cell -/
def arv (f : Nat → Int32) (b : Nat) : Nat → Int32 := upd (upd (upd (upd f 153 (f 153 + 1)) (24 + 10 * b + 3) 2) (24 + 10 * b + 7) (f 153 + 1)) (24 + 10 * b + 9) (f (24 + 10 * b + 9) + 1)
def mvd (f : Nat → Int32) (b : Nat) (g c : Int32) : Nat → Int32 := upd (upd (upd f (24 + 10 * b + 4) g) (24 + 10 * b + 5) c) (24 + 10 * b + 9) (f (24 + 10 * b + 9) + 1)
def mv2 (f : Nat → Int32) (nb b : Nat) (g c : Int32) : Bool × (Nat → Int32) := if wrk f nb g c = true then (false, f) else (true, mvd f b g c)
def mv (f : Nat → Int32) (nb b : Nat) : Bool × (Nat → Int32) :=
  if f (24 + 10 * b + 5) + 1 = f (4 * (f (24 + 10 * b + 4)).toNatClampNeg + 0) then
    (if f (24 + 10 * b + 4) = 0 then (false, arv f b) else mv2 f nb b (f (4 * (f (24 + 10 * b + 4)).toNatClampNeg + 2)) (f (4 * (f (24 + 10 * b + 4)).toNatClampNeg + 3)))
  else mv2 f nb b (f (24 + 10 * b + 4)) (f (24 + 10 * b + 5) + 1)
def drf (nb b : Nat) : Nat → (Nat → Int32) → (Nat → Int32)
  | 0, f => f
  | k + 1, f => if (mv f nb b).1 = true then drf nb b k (mv f nb b).2 else (mv f nb b).2
/-- how many cells the boat drifts at most -/
def dcl (f : Nat → Int32) (b : Nat) : Int32 := f (4 * (f (24 + 10 * b + 4)).toNatClampNeg + 1) + f 154 - f (24 + 10 * b + 0) / 4
def soa (f : Nat → Int32) (b : Nat) : Nat → Int32 :=
  upd (upd f (24 + 10 * b + 6) (f (24 + 10 * b + 6) + (1 + f 154))) (24 + 10 * b + 3) (if bea f b < f (24 + 10 * b + 6) + (1 + f 154) then 3 else 1)
def dri (f : Nat → Int32) (nb b : Nat) : Nat → Int32 :=
  if drf nb b (dcl f b).toNatClampNeg f (24 + 10 * b + 3) = 1 then soa (drf nb b (dcl f b).toNatClampNeg f) b else drf nb b (dcl f b).toNatClampNeg f
/-- the end of a heat: the boats below b -/
def eht (f : Nat → Int32) : Nat → Int32 × (Nat → Int32)
  | 0 => (-1, f)
  | b + 1 => if (eht f b).2 (24 + 10 * b + 3) = 2 then (if (eht f b).2 (24 + 10 * b + 7) = 1 then nI b else (eht f b).1, upd (eht f b).2 (24 + 10 * b + 3) 0) else eht f b
def ehw (f : Nat → Int32) (b : Nat) : Nat → Int32 :=
  upd (upd (upd f (134 + 3 * (f (24 + 10 * b + 2)).toNatClampNeg) (f (134 + 3 * (f (24 + 10 * b + 2)).toNatClampNeg) + 3)) (24 + 10 * b + 8) (f (24 + 10 * b + 8) + 1)) 151 (f 151 + 1)
def ehe (f : Nat → Int32) (nb : Nat) : Nat → Int32 :=
  upd (upd (if (eht f nb).1 = -1 then (eht f nb).2 else ehw (eht f nb).2 (eht f nb).1.toNatClampNeg) 150 0) 153 0
/-- a minute: the boats below b (how many have arrived, the row) -/
def gmb (f : Nat → Int32) (nb : Nat) : Nat → Nat × (Nat → Int32)
  | 0 => (0, upd f 148 (f 148 + 1))
  | b + 1 => if (gmb f nb b).2 (24 + 10 * b + 3) = 1 then ((gmb f nb b).1 + (if dri (gmb f nb b).2 nb b (24 + 10 * b + 3) = 2 then 1 else 0), dri (gmb f nb b).2 nb b) else gmb f nb b
def gmi (f : Nat → Int32) (nb : Nat) : Nat × (Nat → Int32) :=
  ((gmb f nb nb).1, if (gmb f nb nb).2 150 = 1 ∧ cntS (gmb f nb nb).2 nb 1 = 0 then ehe (gmb f nb nb).2 nb else (gmb f nb nb).2)
def gms (nb : Nat) : Nat → (Nat → Int32) → Nat × (Nat → Int32)
  | 0, f => (0, f)
  | k + 1, f => ((gms nb k f).1 + (gmi (gms nb k f).2 nb).1, (gmi (gms nb k f).2 nb).2)
def farF (f : Nat → Int32) (o b : Nat) : Int32 := abI (f (134 + 3 * o + 2) - f (24 + 10 * b + 5))
abbrev hkd (f : Nat → Int32) (o b : Nat) : Prop := f (134 + 3 * o + 1) = f (24 + 10 * b + 4)
def nrr (f : Nat → Int32) (o b : Nat) : Bool := anyN (fun q => decide (q ≠ o ∧ hkd f q b ∧ farF f q b < farF f o b)) 4
def whyF (f : Nat → Int32) (o b : Nat) : Int32 :=
  if f (24 + 10 * b + 3) ≠ 3 then 1 else if ¬ hkd f o b ∨ f 156 < farF f o b then 2 else if nrr f o b = true then 3 else 0
def clmF (f : Nat → Int32) (o b : Nat) : Nat → Int32 :=
  if whyF f o b = 0 then upd (upd f (24 + 10 * b + 3) 4) (134 + 3 * o) (f (134 + 3 * o) + f (24 + 10 * b + 0)) else upd f 152 (f 152 + 1)
def clbF (f : Nat → Int32) (nb o : Nat) : Nat := cntN (fun b => decide (whyF f o b = 0)) nb
def hokF (f : Nat → Int32) (o : Nat) (g c : Int32) : Nat → Int32 := upd (upd f (134 + 3 * o + 1) g) (134 + 3 * o + 2) c
def adgF (f : Nat → Int32) (ng : Nat) (size current into cell : Int32) : Nat → Int32 :=
  upd (upd (upd (upd (upd f (4 * ng + 0) size) (4 * ng + 1) current) (4 * ng + 2) (if ng = 0 then -1 else into)) (4 * ng + 3) (if ng = 0 then -1 else cell)) 146 (nI (ng + 1))
def adbF (f : Nat → Int32) (nb : Nat) (folds wax owner : Int32) : Nat → Int32 :=
  upd (upd (upd (upd (fun j => if 24 + 10 * nb ≤ j ∧ j < 24 + 10 * nb + 10 then 0 else f j) (24 + 10 * nb + 0) folds) (24 + 10 * nb + 1) wax) (24 + 10 * nb + 2) owner) 147 (nI (nb + 1))
def ln1 (f : Nat → Int32) (nb : Nat) : Nat → Int32 := if cntS f nb 1 + cntS f nb 2 = 0 then upd (upd (upd f 149 (f 149 + 1)) 150 1) 153 0 else f
def lnF (f : Nat → Int32) (nb b : Nat) (g : Int32) : Nat → Int32 :=
  upd (upd (upd (upd (ln1 f nb) (24 + 10 * b + 3) 1) (24 + 10 * b + 4) g) (24 + 10 * b + 5) 0) (24 + 10 * b + 6) 0
/-- the gutters of a row are as they can be -/
def GG (f : Nat → Int32) (ng : Nat) : Prop := f 146 = nI ng ∧ ng ≤ 6 ∧ (0 < ng → f 2 = -1 ∧ f 3 = -1) ∧ ∀ g, g < ng → (∃ L, 4 ≤ L ∧ L ≤ 40 ∧ f (4 * g + 0) = nI L) ∧ (∃ q, q ≤ 5 ∧ f (4 * g + 1) = nI q) ∧
  (0 < g → ∃ i a L, i < g ∧ f (4 * g + 2) = nI i ∧ f (4 * g + 3) = nI a ∧ f (4 * i + 0) = nI L ∧ a < L ∧ L ≤ 40)
theorem GG.to {f f' : Nat → Int32} {ng : Nat} (h : GG f ng) (h1 : ∀ j, j < 24 → f' j = f j) (h2 : f' 146 = f 146) : GG f' ng := by
  obtain ⟨q1, q2, q3, q4⟩ := h
  refine ⟨h2.trans q1, q2, fun h0 => ⟨(h1 2 (by omega)).trans (q3 h0).1, (h1 3 (by omega)).trans (q3 h0).2⟩, fun g hg => ?_⟩
  obtain ⟨⟨L, a1, a2, a3⟩, ⟨q, b1, b2⟩, b3⟩ := q4 g hg
  refine ⟨⟨L, a1, a2, (h1 _ (by omega)).trans a3⟩, ⟨q, b1, (h1 _ (by omega)).trans b2⟩, fun h0 => ?_⟩
  obtain ⟨i, a, L2, d1, d2, d3, d4, d5, d6⟩ := b3 h0
  exact ⟨i, a, L2, d1, (h1 _ (by omega)).trans d2, (h1 _ (by omega)).trans d3, (h1 _ (by omega)).trans d4, d5, d6⟩
