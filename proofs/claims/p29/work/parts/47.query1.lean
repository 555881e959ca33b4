/-- what a boat's number is, as asked -/
def nv (f : Nat → Int32) (b c : Nat) : Int32 := match c with
  | 4 => if f (24 + 10 * b + 3) = 1 ∨ f (24 + 10 * b + 3) = 3 then f (24 + 10 * b + 4) else -1
  | 5 => if f (24 + 10 * b + 3) = 1 ∨ f (24 + 10 * b + 3) = 3 then f (24 + 10 * b + 5) else -1
  | 7 => if f (24 + 10 * b + 3) = 2 then f (24 + 10 * b + 7) else -1
  | c => f (24 + 10 * b + c)
def boV (f : Nat → Int32) (b i : Nat) : Int32 := if i = 10 then bea f b else nv f b i
def ptsF (f : Nat → Int32) : Int32 := bx_sum (fun o => f (134 + 3 * o)) 4
def drtF (f : Nat → Int32) (nb : Nat) : Int32 := bx_sum (fun b => f (24 + 10 * b + 9)) nb
def abV (f : Nat → Int32) (i : Nat) : Int32 := match i with
  | 0 => f 146
  | 1 => f 147
  | 7 => f 148
  | 8 => f 149
  | 9 => f 150
  | 10 => f 151
  | 11 => f 152
  | 12 => ptsF f
  | 13 => drtF f (bN f)
  | i => nI (cntS f (bN f) (nI (i - 2)))
def igF (f : Nat → Int32) (nb : Nat) (g st : Int32) : Nat := cntN (fun b => decide (f (24 + 10 * b + 3) = st ∧ f (24 + 10 * b + 4) = g)) nb
def lwR (f : Nat → Int32) (nb : Nat) (g : Int32) : Nat → Nat → Int32
  | 0, _ => -1
  | j + 1, c => if wrk f nb g (nI c) = true then nI c else lwR f nb g j (c + 1)
def gtV (f : Nat → Int32) (g i : Nat) : Int32 := match i with
  | 4 => nI (igF f (bN f) (nI g) 1)
  | 5 => nI (igF f (bN f) (nI g) 3)
  | 6 => lwR f (bN f) (nI g) (f (4 * g + 0)).toNatClampNeg 0
  | i => f (4 * g + i)
def bofF (f : Nat → Int32) (nb : Nat) (o : Int32) : Nat := cntN (fun b => decide (f (24 + 10 * b + 2) = o)) nb
def owV (f : Nat → Int32) (o i : Nat) : Int32 := match i with
  | 0 => f (134 + 3 * o)
  | 1 => nI (bofF f (bN f) (nI o))
  | 4 => nI (clbF f (bN f) o)
  | i => f (134 + 3 * o + i - 1)
