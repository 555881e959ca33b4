/-! a row of the reference: one array of 157 ints; reads and writes by natural indices -/
def rowH (w : Wt) (hs : Hs) (a : Nat) (f : Nat → Int32) : Hs := upH hs a (.inl (wC w 0, 157, .inl f))
theorem row_0 {w : Wt} {hs : Hs} {a : Nat} {f : Nat → Int32} : rowH w hs a f a = some (.inl (wC w 0, 157, .inl f)) := upH_s _ _ _
theorem row_n {w : Wt} {hs : Hs} {a j : Nat} {f : Nat → Int32} (h : j ≠ a) : rowH w hs a f j = hs j := upH_n h
theorem row_u {w : Wt} {hs : Hs} {a : Nat} {f f' : Nat → Int32} : upH (rowH w hs a f) a (.inl (wC w 0, 157, .inl f')) = rowH w hs a f' := upH_up _ _ _ _
theorem row_self {w : Wt} {hs : Hs} {a : Nat} {f : Nat → Int32} (h : hs a = some (.inl (wC w 0, 157, .inl f))) : rowH w hs a f = hs := by
  funext j; unfold rowH upH
  by_cases h1 : j = a
  · subst h1; simp [h]
  · simp [h1]
section ZI
variable {p : Program} {l : Launch} {e : Env} {R : Room} {s : State} {m : MethodId} {args : Array Value} {below : List Frame} {meth : Method} {c : Code} {w : Wt} {own nm : String} {cc : ByteArray} {nL : Nat} {rt : Option FieldType} {fr lo mc ms : Nat} {hs : Hs} {n : Option Nat} {cells slots : Nat} {Q : State → Prop} {pc : Nat} {lv : List (Nat × Value)} {st : List Value}
theorem z_ia (C : Ctx p s m args meth c R w own nm cc nL rt fr lo mc ms) {i len j : Nat} {f : Nat → Int32} {x : Int32} (d : decode cc pc = .ok (.iaload, 1)) (hh : hs i = some (.inl (wC w 0, len, .inl f))) (hx : x = nI j) (hj : j < len) (hl : len < 2 ^ 31) (K : ZW p l e R s m args below meth c w nL hs n cells slots Q (pc + 1) lv (.int (f j) :: st)) : ZW p l e R s m args below meth c w nL hs n cells slots Q pc lv (.int x :: .ref (wB w + i) :: st) :=
  z_iald C d hh (ix_in hx hj hl) (by rw [ix_cl hx (by omega)]) K
theorem z_is (C : Ctx p s m args meth c R w own nm cc nL rt fr lo mc ms) {i len j : Nat} {f : Nat → Int32} {x y : Int32} (d : decode cc pc = .ok (.iastore, 1)) (hh : hs i = some (.inl (wC w 0, len, .inl f))) (hx : x = nI j) (hj : j < len) (hl : len < 2 ^ 31) (K : ZW p l e R s m args below meth c w nL (upH hs i (.inl (wC w 0, len, .inl (upd f j y)))) n cells slots Q (pc + 1) lv st) : ZW p l e R s m args below meth c w nL hs n cells slots Q pc lv (.int y :: .int x :: .ref (wB w + i) :: st) := by
  refine z_iast C d hh (ix_in hx hj hl) ?_
  rw [ix_cl hx (by omega)]
  exact K
end ZI
