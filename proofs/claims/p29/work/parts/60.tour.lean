/-! A TOURNAMENT: seven cells: the object, three tables and their cells. s: its numbers (0 rain, 1 minutes for a fold, 2 reach, 3 minutes, 4 heats, 5 under way, 6 refusals); g: the tables' cells; r: their rows -/
def upR (r : Nat → Nat) (i v : Nat) : Nat → Nat := fun j => if j = i then v else r j
def tcell (w : Wt) (k : Nat) (s : Nat → Int32) (g : Nat → Nat → Int32) (r : Nat → Nat) (i : Nat) : va_E := match i with
  | 0 => .inr (4, [.ref (wB w + (k + 1)), .ref (wB w + (k + 3)), .ref (wB w + (k + 5)), .int (s 0), .int (s 1), .int (s 2), .int (s 3), .int (s 4), .int (s 5), .int (s 6)])
  | 1 => .inr (2, [.int (nI 4), .ref (wB w + (k + 1 + 1)), .int (nI (r 0))])
  | 2 => .inl (wC w 0, 24, .inl (g 0))
  | 3 => .inr (2, [.int (nI 10), .ref (wB w + (k + 3 + 1)), .int (nI (r 1))])
  | 4 => .inl (wC w 0, 110, .inl (g 1))
  | 5 => .inr (2, [.int (nI 3), .ref (wB w + (k + 5 + 1)), .int (nI (r 2))])
  | _ => .inl (wC w 0, 12, .inl (g 2))
def TT (w : Wt) (hs : Hs) (k : Nat) (s : Nat → Int32) (g : Nat → Nat → Int32) (r : Nat → Nat) : Hs := fun j => if k ≤ j ∧ j < k + 7 then some (tcell w k s g r (j - k)) else hs j
section
variable {w : Wt} {hs : Hs} {k : Nat} {s : Nat → Int32} {g : Nat → Nat → Int32} {r : Nat → Nat}
theorem to_i {i : Nat} (h : i < 7) : TT w hs k s g r (k + i) = some (tcell w k s g r i) := by
  unfold TT; rw [if_pos ⟨by omega, by omega⟩, show k + i - k = i by omega]
theorem to_n {j : Nat} (h : j < k ∨ k + 7 ≤ j) : TT w hs k s g r j = hs j := if_neg (by omega)
theorem to_0 : TT w hs k s g r k = some (.inr (4, [.ref (wB w + (k + 1)), .ref (wB w + (k + 3)), .ref (wB w + (k + 5)), .int (s 0), .int (s 1), .int (s 2), .int (s 3), .int (s 4), .int (s 5), .int (s 6)])) := to_i (i := 0) (by omega)
theorem to_1 : TT w hs k s g r (k + 1) = some (.inr (2, [.int (nI 4), .ref (wB w + (k + 1 + 1)), .int (nI (r 0))])) := to_i (i := 1) (by omega)
theorem to_2 : TT w hs k s g r (k + 1 + 1) = some (.inl (wC w 0, 24, .inl (g 0))) := to_i (i := 2) (by omega)
theorem to_3 : TT w hs k s g r (k + 3) = some (.inr (2, [.int (nI 10), .ref (wB w + (k + 3 + 1)), .int (nI (r 1))])) := to_i (i := 3) (by omega)
theorem to_4 : TT w hs k s g r (k + 3 + 1) = some (.inl (wC w 0, 110, .inl (g 1))) := to_i (i := 4) (by omega)
theorem to_5 : TT w hs k s g r (k + 5) = some (.inr (2, [.int (nI 3), .ref (wB w + (k + 5 + 1)), .int (nI (r 2))])) := to_i (i := 5) (by omega)
theorem to_6 : TT w hs k s g r (k + 5 + 1) = some (.inl (wC w 0, 12, .inl (g 2))) := to_i (i := 6) (by omega)
theorem to_up {i : Nat} {e : va_E} {s' : Nat → Int32} {g' : Nat → Nat → Int32} {r' : Nat → Nat} (h : i < 7) (he : e = tcell w k s' g' r' i) (ho : ∀ j, j < 7 → j ≠ i → tcell w k s g r j = tcell w k s' g' r' j) : upH (TT w hs k s g r) (k + i) e = TT w hs k s' g' r' := by
  funext j
  unfold upH
  by_cases h1 : j = k + i
  · rw [if_pos h1, h1, to_i h, he]
  · rw [if_neg h1]
    unfold TT
    by_cases h2 : k ≤ j ∧ j < k + 7
    · rw [if_pos h2, if_pos h2, ho (j - k) (by omega) (by omega)]
    · rw [if_neg h2, if_neg h2]
theorem upR_s {i v : Nat} : upR r i v i = v := if_pos rfl
theorem upR_n {i j v : Nat} (h : j ≠ i) : upR r i v j = r j := if_neg h
theorem upR_id {i : Nat} : upR r i (r i) = r := by
  funext j; unfold upR; split
  · rename_i h; rw [h]
  · rfl
theorem upR_up {i a b : Nat} : upR (upR r i a) i b = upR r i b := by
  funext j; unfold upR; split <;> rfl
theorem to_f0 {x : Int32} : upH (TT w hs k s g r) k (.inr (4, [.ref (wB w + (k + 1)), .ref (wB w + (k + 3)), .ref (wB w + (k + 5)), .int x, .int (s 1), .int (s 2), .int (s 3), .int (s 4), .int (s 5), .int (s 6)])) = TT w hs k (upd s 0 x) g r := to_up (i := 0) (by omega) (by show _ = (.inr (4, _) : va_E); simp only [pk_us, pk_un (show 1 ≠ 0 by decide), pk_un (show 2 ≠ 0 by decide), pk_un (show 3 ≠ 0 by decide), pk_un (show 4 ≠ 0 by decide), pk_un (show 5 ≠ 0 by decide), pk_un (show 6 ≠ 0 by decide)]) (fun j hj hn => by match j, hj, hn with | 0, _, h => exact absurd rfl h | 1, _, _ => rfl | 2, _, _ => rfl | 3, _, _ => rfl | 4, _, _ => rfl | 5, _, _ => rfl | 6, _, _ => rfl)
theorem to_f1 {x : Int32} : upH (TT w hs k s g r) k (.inr (4, [.ref (wB w + (k + 1)), .ref (wB w + (k + 3)), .ref (wB w + (k + 5)), .int (s 0), .int x, .int (s 2), .int (s 3), .int (s 4), .int (s 5), .int (s 6)])) = TT w hs k (upd s 1 x) g r := to_up (i := 0) (by omega) (by show _ = (.inr (4, _) : va_E); simp only [pk_us, pk_un (show 0 ≠ 1 by decide), pk_un (show 2 ≠ 1 by decide), pk_un (show 3 ≠ 1 by decide), pk_un (show 4 ≠ 1 by decide), pk_un (show 5 ≠ 1 by decide), pk_un (show 6 ≠ 1 by decide)]) (fun j hj hn => by match j, hj, hn with | 0, _, h => exact absurd rfl h | 1, _, _ => rfl | 2, _, _ => rfl | 3, _, _ => rfl | 4, _, _ => rfl | 5, _, _ => rfl | 6, _, _ => rfl)
theorem to_f2 {x : Int32} : upH (TT w hs k s g r) k (.inr (4, [.ref (wB w + (k + 1)), .ref (wB w + (k + 3)), .ref (wB w + (k + 5)), .int (s 0), .int (s 1), .int x, .int (s 3), .int (s 4), .int (s 5), .int (s 6)])) = TT w hs k (upd s 2 x) g r := to_up (i := 0) (by omega) (by show _ = (.inr (4, _) : va_E); simp only [pk_us, pk_un (show 0 ≠ 2 by decide), pk_un (show 1 ≠ 2 by decide), pk_un (show 3 ≠ 2 by decide), pk_un (show 4 ≠ 2 by decide), pk_un (show 5 ≠ 2 by decide), pk_un (show 6 ≠ 2 by decide)]) (fun j hj hn => by match j, hj, hn with | 0, _, h => exact absurd rfl h | 1, _, _ => rfl | 2, _, _ => rfl | 3, _, _ => rfl | 4, _, _ => rfl | 5, _, _ => rfl | 6, _, _ => rfl)
theorem to_f3 {x : Int32} : upH (TT w hs k s g r) k (.inr (4, [.ref (wB w + (k + 1)), .ref (wB w + (k + 3)), .ref (wB w + (k + 5)), .int (s 0), .int (s 1), .int (s 2), .int x, .int (s 4), .int (s 5), .int (s 6)])) = TT w hs k (upd s 3 x) g r := to_up (i := 0) (by omega) (by show _ = (.inr (4, _) : va_E); simp only [pk_us, pk_un (show 0 ≠ 3 by decide), pk_un (show 1 ≠ 3 by decide), pk_un (show 2 ≠ 3 by decide), pk_un (show 4 ≠ 3 by decide), pk_un (show 5 ≠ 3 by decide), pk_un (show 6 ≠ 3 by decide)]) (fun j hj hn => by match j, hj, hn with | 0, _, h => exact absurd rfl h | 1, _, _ => rfl | 2, _, _ => rfl | 3, _, _ => rfl | 4, _, _ => rfl | 5, _, _ => rfl | 6, _, _ => rfl)
theorem to_f4 {x : Int32} : upH (TT w hs k s g r) k (.inr (4, [.ref (wB w + (k + 1)), .ref (wB w + (k + 3)), .ref (wB w + (k + 5)), .int (s 0), .int (s 1), .int (s 2), .int (s 3), .int x, .int (s 5), .int (s 6)])) = TT w hs k (upd s 4 x) g r := to_up (i := 0) (by omega) (by show _ = (.inr (4, _) : va_E); simp only [pk_us, pk_un (show 0 ≠ 4 by decide), pk_un (show 1 ≠ 4 by decide), pk_un (show 2 ≠ 4 by decide), pk_un (show 3 ≠ 4 by decide), pk_un (show 5 ≠ 4 by decide), pk_un (show 6 ≠ 4 by decide)]) (fun j hj hn => by match j, hj, hn with | 0, _, h => exact absurd rfl h | 1, _, _ => rfl | 2, _, _ => rfl | 3, _, _ => rfl | 4, _, _ => rfl | 5, _, _ => rfl | 6, _, _ => rfl)
theorem to_f5 {x : Int32} : upH (TT w hs k s g r) k (.inr (4, [.ref (wB w + (k + 1)), .ref (wB w + (k + 3)), .ref (wB w + (k + 5)), .int (s 0), .int (s 1), .int (s 2), .int (s 3), .int (s 4), .int x, .int (s 6)])) = TT w hs k (upd s 5 x) g r := to_up (i := 0) (by omega) (by show _ = (.inr (4, _) : va_E); simp only [pk_us, pk_un (show 0 ≠ 5 by decide), pk_un (show 1 ≠ 5 by decide), pk_un (show 2 ≠ 5 by decide), pk_un (show 3 ≠ 5 by decide), pk_un (show 4 ≠ 5 by decide), pk_un (show 6 ≠ 5 by decide)]) (fun j hj hn => by match j, hj, hn with | 0, _, h => exact absurd rfl h | 1, _, _ => rfl | 2, _, _ => rfl | 3, _, _ => rfl | 4, _, _ => rfl | 5, _, _ => rfl | 6, _, _ => rfl)
theorem to_f6 {x : Int32} : upH (TT w hs k s g r) k (.inr (4, [.ref (wB w + (k + 1)), .ref (wB w + (k + 3)), .ref (wB w + (k + 5)), .int (s 0), .int (s 1), .int (s 2), .int (s 3), .int (s 4), .int (s 5), .int x])) = TT w hs k (upd s 6 x) g r := to_up (i := 0) (by omega) (by show _ = (.inr (4, _) : va_E); simp only [pk_us, pk_un (show 0 ≠ 6 by decide), pk_un (show 1 ≠ 6 by decide), pk_un (show 2 ≠ 6 by decide), pk_un (show 3 ≠ 6 by decide), pk_un (show 4 ≠ 6 by decide), pk_un (show 5 ≠ 6 by decide)]) (fun j hj hn => by match j, hj, hn with | 0, _, h => exact absurd rfl h | 1, _, _ => rfl | 2, _, _ => rfl | 3, _, _ => rfl | 4, _, _ => rfl | 5, _, _ => rfl | 6, _, _ => rfl)
theorem to_r0 {x : Nat} : upH (TT w hs k s g r) (k + 1) (.inr (2, [.int (nI 4), .ref (wB w + (k + 1 + 1)), .int (nI x)])) = TT w hs k s g (upR r 0 x) := to_up (i := 1) (by omega) rfl (fun j hj hn => by match j, hj, hn with | 0, _, _ => rfl | 1, _, h => exact absurd rfl h | 2, _, _ => rfl | 3, _, _ => rfl | 4, _, _ => rfl | 5, _, _ => rfl | 6, _, _ => rfl)
theorem tt_0 {f' : Nat → Int32} {x : Nat} : tabH w (TT w hs k s g r) (k + 1) 4 24 x f' = TT w hs k s (upA g 0 f') (upR r 0 x) := by
  unfold tabH
  rw [to_r0]
  exact to_up (i := 2) (by omega) rfl (fun j hj hn => by match j, hj, hn with | 0, _, _ => rfl | 1, _, _ => rfl | 2, _, h => exact absurd rfl h | 3, _, _ => rfl | 4, _, _ => rfl | 5, _, _ => rfl | 6, _, _ => rfl)
theorem tq_0 : tabH w (TT w hs k s g r) (k + 1) 4 24 (r 0) (g 0) = TT w hs k s g r := tab_self to_1 to_2
theorem tp_0 {f' : Nat → Int32} : tabH w (TT w hs k s g r) (k + 1) 4 24 (r 0) f' = TT w hs k s (upA g 0 f') r := tt_0.trans (by rw [upR_id])
theorem to_r1 {x : Nat} : upH (TT w hs k s g r) (k + 3) (.inr (2, [.int (nI 10), .ref (wB w + (k + 3 + 1)), .int (nI x)])) = TT w hs k s g (upR r 1 x) := to_up (i := 3) (by omega) rfl (fun j hj hn => by match j, hj, hn with | 0, _, _ => rfl | 1, _, _ => rfl | 2, _, _ => rfl | 3, _, h => exact absurd rfl h | 4, _, _ => rfl | 5, _, _ => rfl | 6, _, _ => rfl)
theorem tt_1 {f' : Nat → Int32} {x : Nat} : tabH w (TT w hs k s g r) (k + 3) 10 110 x f' = TT w hs k s (upA g 1 f') (upR r 1 x) := by
  unfold tabH
  rw [to_r1]
  exact to_up (i := 4) (by omega) rfl (fun j hj hn => by match j, hj, hn with | 0, _, _ => rfl | 1, _, _ => rfl | 2, _, _ => rfl | 3, _, _ => rfl | 4, _, h => exact absurd rfl h | 5, _, _ => rfl | 6, _, _ => rfl)
theorem tq_1 : tabH w (TT w hs k s g r) (k + 3) 10 110 (r 1) (g 1) = TT w hs k s g r := tab_self to_3 to_4
theorem tp_1 {f' : Nat → Int32} : tabH w (TT w hs k s g r) (k + 3) 10 110 (r 1) f' = TT w hs k s (upA g 1 f') r := tt_1.trans (by rw [upR_id])
theorem to_r2 {x : Nat} : upH (TT w hs k s g r) (k + 5) (.inr (2, [.int (nI 3), .ref (wB w + (k + 5 + 1)), .int (nI x)])) = TT w hs k s g (upR r 2 x) := to_up (i := 5) (by omega) rfl (fun j hj hn => by match j, hj, hn with | 0, _, _ => rfl | 1, _, _ => rfl | 2, _, _ => rfl | 3, _, _ => rfl | 4, _, _ => rfl | 5, _, h => exact absurd rfl h | 6, _, _ => rfl)
theorem tt_2 {f' : Nat → Int32} {x : Nat} : tabH w (TT w hs k s g r) (k + 5) 3 12 x f' = TT w hs k s (upA g 2 f') (upR r 2 x) := by
  unfold tabH
  rw [to_r2]
  exact to_up (i := 6) (by omega) rfl (fun j hj hn => by match j, hj, hn with | 0, _, _ => rfl | 1, _, _ => rfl | 2, _, _ => rfl | 3, _, _ => rfl | 4, _, _ => rfl | 5, _, _ => rfl | 6, _, h => exact absurd rfl h)
theorem tq_2 : tabH w (TT w hs k s g r) (k + 5) 3 12 (r 2) (g 2) = TT w hs k s g r := tab_self to_5 to_6
theorem tp_2 {f' : Nat → Int32} : tabH w (TT w hs k s g r) (k + 5) 3 12 (r 2) f' = TT w hs k s (upA g 2 f') r := tt_2.trans (by rw [upR_id])
end
theorem Cn.tab {l : Launch} {w : Wt} {d : MD} {c1 s1 a cn len r r' : Nat} {av : List Value} {X X' : Hs} {n n9 : Option Nat} {v : Option Value} {f f' : Nat → Int32} (h1 : tabH w X a cn len r f = X) (h2 : tabH w X a cn len r' f' = X') (h : Cn l w d c1 s1 av (tabH w X a cn len r f) n (tabH w X a cn len r' f') n9 v) : Cn l w d c1 s1 av X n X' n9 v := by
  rw [h1, h2] at h; exact h
theorem tG_at {l : Launch} {w : Wt} {hs : Hs} {n : Option Nat} {k : Nat} {s : Nat → Int32} {g : Nat → Nat → Int32} {r : Nat → Nat} (hr : r 0 ≤ 6) {b c : Nat} (hb : b < r 0) (hc : c < 4) : Cn l w mX2_at 0 0 [.ref (wB w + (k + 1)), .int (nI b), .int (nI c)] (TT w hs k s g r) n (TT w hs k s g r) n (some (.int (g 0 (b * 4 + c)))) := by
  have h := Cn.tab (tq_0 (w := w) (hs := hs) (k := k) (s := s) (g := g) (r := r)) tq_0 (c_at (l := l) (n := n) (x := nI b) (y := nI c) (by omega) (by omega) (by omega) (by omega))
  rw [atV_in (by omega) (by omega) hb hc] at h
  exact h
theorem tG_put {l : Launch} {w : Wt} {hs : Hs} {n : Option Nat} {k : Nat} {s : Nat → Int32} {g : Nat → Nat → Int32} {r : Nat → Nat} (hr : r 0 ≤ 6) {b c : Nat} (hb : b < r 0) (hc : c < 4) (v : Int32) : Cn l w mX2_put 0 0 [.ref (wB w + (k + 1)), .int (nI b), .int (nI c), .int v] (TT w hs k s g r) n (TT w hs k s (upA g 0 (upd (g 0) (b * 4 + c) v)) r) n none := by
  have h := Cn.tab (tq_0 (w := w) (hs := hs) (k := k) (s := s) (g := g) (r := r)) tp_0 (c_put (l := l) (n := n) (x := nI b) (y := nI c) (v := v) (by omega) (by omega) (by omega) (by omega))
  rw [ptV_in (by omega) (by omega) hb hc] at h
  exact h
theorem tG_inc {l : Launch} {w : Wt} {hs : Hs} {n : Option Nat} {k : Nat} {s : Nat → Int32} {g : Nat → Nat → Int32} {r : Nat → Nat} (hr : r 0 ≤ 6) {b c : Nat} (hb : b < r 0) (hc : c < 4) (v : Int32) : Cn l w mX2_increase 0 0 [.ref (wB w + (k + 1)), .int (nI b), .int (nI c), .int v] (TT w hs k s g r) n (TT w hs k s (upA g 0 (upd (g 0) (b * 4 + c) (g 0 (b * 4 + c) + v))) r) n none := by
  have h := Cn.tab (tq_0 (w := w) (hs := hs) (k := k) (s := s) (g := g) (r := r)) tp_0 (c_inc (l := l) (n := n) (x := nI b) (y := nI c) (v := v) (by omega) (by omega) (by omega) (by omega))
  rw [atV_in (by omega) (by omega) hb hc, ptV_in (by omega) (by omega) hb hc] at h
  exact h
theorem tG_cnt {l : Launch} {w : Wt} {hs : Hs} {n : Option Nat} {k : Nat} {s : Nat → Int32} {g : Nat → Nat → Int32} {r : Nat → Nat} (hr : r 0 ≤ 6) {c : Nat} (hc : c < 4) (v : Int32) : Cn l w mX2_count 0 0 [.ref (wB w + (k + 1)), .int (nI c), .int v] (TT w hs k s g r) n (TT w hs k s g r) n (some (.int (nI (cntN (fun a => decide (g 0 (a * 4 + c) = v)) (r 0))))) :=
  Cn.tab tq_0 tq_0 (c_cnt (by omega) (by omega) (by omega) (by omega) hc v)
theorem tG_sum {l : Launch} {w : Wt} {hs : Hs} {n : Option Nat} {k : Nat} {s : Nat → Int32} {g : Nat → Nat → Int32} {r : Nat → Nat} (hr : r 0 ≤ 6) {c : Nat} (hc : c < 4) : Cn l w mX2_sum 0 0 [.ref (wB w + (k + 1)), .int (nI c)] (TT w hs k s g r) n (TT w hs k s g r) n (some (.int (bx_sum (fun a => g 0 (a * 4 + c)) (r 0)))) :=
  Cn.tab tq_0 tq_0 (c_sum (by omega) (by omega) (by omega) (by omega) hc)
theorem tG_add {l : Launch} {w : Wt} {hs : Hs} {n : Option Nat} {k : Nat} {s : Nat → Int32} {g : Nat → Nat → Int32} {r : Nat → Nat} (hr : r 0 < 6) : Cn l w mX2_addRow 0 0 [.ref (wB w + (k + 1))] (TT w hs k s g r) n (TT w hs k s (upA g 0 (clrF (r 0 * 4) (r 0 * 4 + 4) (g 0))) (upR r 0 (r 0 + 1))) n (some (.int (nI (r 0)))) :=
  Cn.tab tq_0 tt_0 (c_addRow (by omega) (by omega) (by omega) (by omega))
theorem tB_at {l : Launch} {w : Wt} {hs : Hs} {n : Option Nat} {k : Nat} {s : Nat → Int32} {g : Nat → Nat → Int32} {r : Nat → Nat} (hr : r 1 ≤ 11) {b c : Nat} (hb : b < r 1) (hc : c < 10) : Cn l w mX2_at 0 0 [.ref (wB w + (k + 3)), .int (nI b), .int (nI c)] (TT w hs k s g r) n (TT w hs k s g r) n (some (.int (g 1 (b * 10 + c)))) := by
  have h := Cn.tab (tq_1 (w := w) (hs := hs) (k := k) (s := s) (g := g) (r := r)) tq_1 (c_at (l := l) (n := n) (x := nI b) (y := nI c) (by omega) (by omega) (by omega) (by omega))
  rw [atV_in (by omega) (by omega) hb hc] at h
  exact h
theorem tB_put {l : Launch} {w : Wt} {hs : Hs} {n : Option Nat} {k : Nat} {s : Nat → Int32} {g : Nat → Nat → Int32} {r : Nat → Nat} (hr : r 1 ≤ 11) {b c : Nat} (hb : b < r 1) (hc : c < 10) (v : Int32) : Cn l w mX2_put 0 0 [.ref (wB w + (k + 3)), .int (nI b), .int (nI c), .int v] (TT w hs k s g r) n (TT w hs k s (upA g 1 (upd (g 1) (b * 10 + c) v)) r) n none := by
  have h := Cn.tab (tq_1 (w := w) (hs := hs) (k := k) (s := s) (g := g) (r := r)) tp_1 (c_put (l := l) (n := n) (x := nI b) (y := nI c) (v := v) (by omega) (by omega) (by omega) (by omega))
  rw [ptV_in (by omega) (by omega) hb hc] at h
  exact h
theorem tB_inc {l : Launch} {w : Wt} {hs : Hs} {n : Option Nat} {k : Nat} {s : Nat → Int32} {g : Nat → Nat → Int32} {r : Nat → Nat} (hr : r 1 ≤ 11) {b c : Nat} (hb : b < r 1) (hc : c < 10) (v : Int32) : Cn l w mX2_increase 0 0 [.ref (wB w + (k + 3)), .int (nI b), .int (nI c), .int v] (TT w hs k s g r) n (TT w hs k s (upA g 1 (upd (g 1) (b * 10 + c) (g 1 (b * 10 + c) + v))) r) n none := by
  have h := Cn.tab (tq_1 (w := w) (hs := hs) (k := k) (s := s) (g := g) (r := r)) tp_1 (c_inc (l := l) (n := n) (x := nI b) (y := nI c) (v := v) (by omega) (by omega) (by omega) (by omega))
  rw [atV_in (by omega) (by omega) hb hc, ptV_in (by omega) (by omega) hb hc] at h
  exact h
theorem tB_cnt {l : Launch} {w : Wt} {hs : Hs} {n : Option Nat} {k : Nat} {s : Nat → Int32} {g : Nat → Nat → Int32} {r : Nat → Nat} (hr : r 1 ≤ 11) {c : Nat} (hc : c < 10) (v : Int32) : Cn l w mX2_count 0 0 [.ref (wB w + (k + 3)), .int (nI c), .int v] (TT w hs k s g r) n (TT w hs k s g r) n (some (.int (nI (cntN (fun a => decide (g 1 (a * 10 + c) = v)) (r 1))))) :=
  Cn.tab tq_1 tq_1 (c_cnt (by omega) (by omega) (by omega) (by omega) hc v)
theorem tB_sum {l : Launch} {w : Wt} {hs : Hs} {n : Option Nat} {k : Nat} {s : Nat → Int32} {g : Nat → Nat → Int32} {r : Nat → Nat} (hr : r 1 ≤ 11) {c : Nat} (hc : c < 10) : Cn l w mX2_sum 0 0 [.ref (wB w + (k + 3)), .int (nI c)] (TT w hs k s g r) n (TT w hs k s g r) n (some (.int (bx_sum (fun a => g 1 (a * 10 + c)) (r 1)))) :=
  Cn.tab tq_1 tq_1 (c_sum (by omega) (by omega) (by omega) (by omega) hc)
theorem tB_add {l : Launch} {w : Wt} {hs : Hs} {n : Option Nat} {k : Nat} {s : Nat → Int32} {g : Nat → Nat → Int32} {r : Nat → Nat} (hr : r 1 < 11) : Cn l w mX2_addRow 0 0 [.ref (wB w + (k + 3))] (TT w hs k s g r) n (TT w hs k s (upA g 1 (clrF (r 1 * 10) (r 1 * 10 + 10) (g 1))) (upR r 1 (r 1 + 1))) n (some (.int (nI (r 1)))) :=
  Cn.tab tq_1 tt_1 (c_addRow (by omega) (by omega) (by omega) (by omega))
theorem tO_at {l : Launch} {w : Wt} {hs : Hs} {n : Option Nat} {k : Nat} {s : Nat → Int32} {g : Nat → Nat → Int32} {r : Nat → Nat} (hr : r 2 ≤ 4) {b c : Nat} (hb : b < r 2) (hc : c < 3) : Cn l w mX2_at 0 0 [.ref (wB w + (k + 5)), .int (nI b), .int (nI c)] (TT w hs k s g r) n (TT w hs k s g r) n (some (.int (g 2 (b * 3 + c)))) := by
  have h := Cn.tab (tq_2 (w := w) (hs := hs) (k := k) (s := s) (g := g) (r := r)) tq_2 (c_at (l := l) (n := n) (x := nI b) (y := nI c) (by omega) (by omega) (by omega) (by omega))
  rw [atV_in (by omega) (by omega) hb hc] at h
  exact h
theorem tO_put {l : Launch} {w : Wt} {hs : Hs} {n : Option Nat} {k : Nat} {s : Nat → Int32} {g : Nat → Nat → Int32} {r : Nat → Nat} (hr : r 2 ≤ 4) {b c : Nat} (hb : b < r 2) (hc : c < 3) (v : Int32) : Cn l w mX2_put 0 0 [.ref (wB w + (k + 5)), .int (nI b), .int (nI c), .int v] (TT w hs k s g r) n (TT w hs k s (upA g 2 (upd (g 2) (b * 3 + c) v)) r) n none := by
  have h := Cn.tab (tq_2 (w := w) (hs := hs) (k := k) (s := s) (g := g) (r := r)) tp_2 (c_put (l := l) (n := n) (x := nI b) (y := nI c) (v := v) (by omega) (by omega) (by omega) (by omega))
  rw [ptV_in (by omega) (by omega) hb hc] at h
  exact h
theorem tO_inc {l : Launch} {w : Wt} {hs : Hs} {n : Option Nat} {k : Nat} {s : Nat → Int32} {g : Nat → Nat → Int32} {r : Nat → Nat} (hr : r 2 ≤ 4) {b c : Nat} (hb : b < r 2) (hc : c < 3) (v : Int32) : Cn l w mX2_increase 0 0 [.ref (wB w + (k + 5)), .int (nI b), .int (nI c), .int v] (TT w hs k s g r) n (TT w hs k s (upA g 2 (upd (g 2) (b * 3 + c) (g 2 (b * 3 + c) + v))) r) n none := by
  have h := Cn.tab (tq_2 (w := w) (hs := hs) (k := k) (s := s) (g := g) (r := r)) tp_2 (c_inc (l := l) (n := n) (x := nI b) (y := nI c) (v := v) (by omega) (by omega) (by omega) (by omega))
  rw [atV_in (by omega) (by omega) hb hc, ptV_in (by omega) (by omega) hb hc] at h
  exact h
theorem tO_cnt {l : Launch} {w : Wt} {hs : Hs} {n : Option Nat} {k : Nat} {s : Nat → Int32} {g : Nat → Nat → Int32} {r : Nat → Nat} (hr : r 2 ≤ 4) {c : Nat} (hc : c < 3) (v : Int32) : Cn l w mX2_count 0 0 [.ref (wB w + (k + 5)), .int (nI c), .int v] (TT w hs k s g r) n (TT w hs k s g r) n (some (.int (nI (cntN (fun a => decide (g 2 (a * 3 + c) = v)) (r 2))))) :=
  Cn.tab tq_2 tq_2 (c_cnt (by omega) (by omega) (by omega) (by omega) hc v)
theorem tO_sum {l : Launch} {w : Wt} {hs : Hs} {n : Option Nat} {k : Nat} {s : Nat → Int32} {g : Nat → Nat → Int32} {r : Nat → Nat} (hr : r 2 ≤ 4) {c : Nat} (hc : c < 3) : Cn l w mX2_sum 0 0 [.ref (wB w + (k + 5)), .int (nI c)] (TT w hs k s g r) n (TT w hs k s g r) n (some (.int (bx_sum (fun a => g 2 (a * 3 + c)) (r 2)))) :=
  Cn.tab tq_2 tq_2 (c_sum (by omega) (by omega) (by omega) (by omega) hc)
theorem tO_add {l : Launch} {w : Wt} {hs : Hs} {n : Option Nat} {k : Nat} {s : Nat → Int32} {g : Nat → Nat → Int32} {r : Nat → Nat} (hr : r 2 < 4) : Cn l w mX2_addRow 0 0 [.ref (wB w + (k + 5))] (TT w hs k s g r) n (TT w hs k s (upA g 2 (clrF (r 2 * 3) (r 2 * 3 + 3) (g 2))) (upR r 2 (r 2 + 1))) n (some (.int (nI (r 2)))) :=
  Cn.tab tq_2 tt_2 (c_addRow (by omega) (by omega) (by omega) (by omega))
/-! the tournament that a row of the reference is -/
def sF (f : Nat → Int32) (x : Int32) : Nat → Int32 := fun i => match i with
  | 0 => f 154
  | 1 => f 155
  | 2 => f 156
  | 3 => f 148
  | 4 => f 149
  | 5 => f 150
  | _ => x
def gF (f : Nat → Int32) (z : Nat → Nat → Int32) : Nat → Nat → Int32 := fun t => match t with
  | 0 => fun j => if j < 4 * gN f then f j else z 0 j
  | 1 => fun j => if j < 10 * bN f then nv f (j / 10) (j % 10) else z 1 j
  | _ => fun j => if j < 12 then f (134 + j) else z 2 j
def rF (f : Nat → Int32) : Nat → Nat := fun t => match t with
  | 0 => gN f
  | 1 => bN f
  | _ => 4
abbrev TH (w : Wt) (hs : Hs) (k : Nat) (f : Nat → Int32) (x : Int32) (z : Nat → Nat → Int32) : Hs := TT w hs k (sF f x) (gF f z) (rF f)
theorem TT_eq {w : Wt} {hs : Hs} {k : Nat} {s s' : Nat → Int32} {g g' : Nat → Nat → Int32} {r r' : Nat → Nat} (h0 : ∀ i, i < 7 → s i = s' i) (h1 : ∀ t, t < 3 → ∀ j, g t j = g' t j) (h2 : ∀ t, t < 3 → r t = r' t) : TT w hs k s g r = TT w hs k s' g' r' := by
  funext j
  unfold TT
  by_cases h : k ≤ j ∧ j < k + 7
  · rw [if_pos h, if_pos h]
    have hi : j - k < 7 := by omega
    have e0 : g 0 = g' 0 := funext (h1 0 (by omega))
    have e1 : g 1 = g' 1 := funext (h1 1 (by omega))
    have e2 : g 2 = g' 2 := funext (h1 2 (by omega))
    generalize j - k = i at hi
    match i, hi with
    | 0, _ => unfold tcell; rw [h0 0 (by omega), h0 1 (by omega), h0 2 (by omega), h0 3 (by omega), h0 4 (by omega), h0 5 (by omega), h0 6 (by omega)]; rfl
    | 1, _ => unfold tcell; rw [h2 0 (by omega)]; rfl
    | 2, _ => unfold tcell; rw [e0]; rfl
    | 3, _ => unfold tcell; rw [h2 1 (by omega)]; rfl
    | 4, _ => unfold tcell; rw [e1]; rfl
    | 5, _ => unfold tcell; rw [h2 2 (by omega)]; rfl
    | 6, _ => unfold tcell; rw [e2]; rfl
  · rw [if_neg h, if_neg h]
theorem TH_of {w : Wt} {hs : Hs} {k : Nat} {s : Nat → Int32} {g : Nat → Nat → Int32} {r : Nat → Nat} {f : Nat → Int32} {x : Int32} {z : Nat → Nat → Int32} (h0 : s 0 = f 154 ∧ s 1 = f 155 ∧ s 2 = f 156 ∧ s 3 = f 148 ∧ s 4 = f 149 ∧ s 5 = f 150 ∧ s 6 = x) (hr : r 0 = gN f ∧ r 1 = bN f ∧ r 2 = 4)
    (hg : (∀ j, j < 4 * gN f → g 0 j = f j) ∧ ∀ j, 4 * gN f ≤ j → g 0 j = z 0 j) (hb : (∀ b c, b < bN f → c < 10 → g 1 (b * 10 + c) = nv f b c) ∧ ∀ j, 10 * bN f ≤ j → g 1 j = z 1 j) (ho : (∀ j, j < 12 → g 2 j = f (134 + j)) ∧ ∀ j, 12 ≤ j → g 2 j = z 2 j) : TT w hs k s g r = TH w hs k f x z := by
  refine TT_eq (fun i hi => ?_) (fun t ht j => ?_) (fun t ht => ?_)
  · match i, hi with
    | 0, _ => exact h0.1
    | 1, _ => exact h0.2.1
    | 2, _ => exact h0.2.2.1
    | 3, _ => exact h0.2.2.2.1
    | 4, _ => exact h0.2.2.2.2.1
    | 5, _ => exact h0.2.2.2.2.2.1
    | 6, _ => exact h0.2.2.2.2.2.2
  · match t, ht with
    | 0, _ =>
      show _ = if j < 4 * gN f then f j else z 0 j
      by_cases c : j < 4 * gN f
      · rw [if_pos c]; exact hg.1 j c
      · rw [if_neg c]; exact hg.2 j (by omega)
    | 1, _ =>
      show _ = if j < 10 * bN f then nv f (j / 10) (j % 10) else z 1 j
      by_cases c : j < 10 * bN f
      · rw [if_pos c]
        have := hb.1 (j / 10) (j % 10) (by omega) (by omega)
        rw [show j / 10 * 10 + j % 10 = j by omega] at this
        exact this
      · rw [if_neg c]; exact hb.2 j (by omega)
    | 2, _ =>
      show _ = if j < 12 then f (134 + j) else z 2 j
      by_cases c : j < 12
      · rw [if_pos c]; exact ho.1 j c
      · rw [if_neg c]; exact ho.2 j (by omega)
  · match t, ht with
    | 0, _ => exact hr.1
    | 1, _ => exact hr.2.1
    | 2, _ => exact hr.2.2
theorem gF_0 {f : Nat → Int32} {z : Nat → Nat → Int32} {j : Nat} (h : j < 4 * gN f) : gF f z 0 j = f j := if_pos h
theorem gF_0n {f : Nat → Int32} {z : Nat → Nat → Int32} {j : Nat} (h : 4 * gN f ≤ j) : gF f z 0 j = z 0 j := if_neg (by omega)
theorem gF_1 {f : Nat → Int32} {z : Nat → Nat → Int32} {b c : Nat} (hb : b < bN f) (hc : c < 10) : gF f z 1 (b * 10 + c) = nv f b c := by
  show (if _ then _ else _) = _
  rw [if_pos (by omega), show (b * 10 + c) / 10 = b by omega, show (b * 10 + c) % 10 = c by omega]
theorem gF_1n {f : Nat → Int32} {z : Nat → Nat → Int32} {j : Nat} (h : 10 * bN f ≤ j) : gF f z 1 j = z 1 j := if_neg (by omega)
theorem gF_2 {f : Nat → Int32} {z : Nat → Nat → Int32} {j : Nat} (h : j < 12) : gF f z 2 j = f (134 + j) := if_pos h
theorem gF_2n {f : Nat → Int32} {z : Nat → Nat → Int32} {j : Nat} (h : 12 ≤ j) : gF f z 2 j = z 2 j := if_neg (by omega)
theorem nv_o {f : Nat → Int32} {b c : Nat} (h : c ≠ 4 ∧ c ≠ 5 ∧ c ≠ 7) : nv f b c = f (24 + 10 * b + c) := by
  unfold nv; split <;> first | rfl | omega
theorem nv_e {f f' : Nat → Int32} {b c : Nat} (h : ∀ c, c < 10 → f' (24 + 10 * b + c) = f (24 + 10 * b + c)) (hc : c < 10) : nv f' b c = nv f b c := by
  unfold nv; split
  · rw [h 3 (by omega), h 4 (by omega)]
  · rw [h 3 (by omega), h 5 (by omega)]
  · rw [h 3 (by omega), h 7 (by omega)]
  · exact h c hc
theorem gN_e {f f' : Nat → Int32} (h : f' 146 = f 146) : gN f' = gN f := by unfold gN; rw [h]
theorem bN_e {f f' : Nat → Int32} (h : f' 147 = f 147) : bN f' = bN f := by unfold bN; rw [h]
theorem TH_ext {w : Wt} {hs : Hs} {k : Nat} {f f' : Nat → Int32} {x : Int32} {z : Nat → Nat → Int32} (h6 : gN f ≤ 6) (h9 : bN f ≤ 11) (h : ∀ j, j < 157 → j ≠ 152 → j ≠ 151 → j ≠ 153 → f' j = f j) : TH w hs k f x z = TH w hs k f' x z := by
  have e6 : gN f' = gN f := gN_e (h _ (by omega) (by omega) (by omega) (by omega))
  have e7 : bN f' = bN f := bN_e (h _ (by omega) (by omega) (by omega) (by omega))
  refine TH_of ⟨(h _ (by omega) (by omega) (by omega) (by omega)).symm, (h _ (by omega) (by omega) (by omega) (by omega)).symm, (h _ (by omega) (by omega) (by omega) (by omega)).symm, (h _ (by omega) (by omega) (by omega) (by omega)).symm, (h _ (by omega) (by omega) (by omega) (by omega)).symm, (h _ (by omega) (by omega) (by omega) (by omega)).symm, rfl⟩ ⟨e6.symm, e7.symm, rfl⟩ ⟨fun j hj => ?_, fun j hj => gF_0n (by omega)⟩ ⟨fun b c hb hc => ?_, fun j hj => gF_1n (by omega)⟩ ⟨fun j hj => ?_, fun j hj => gF_2n hj⟩
  · rw [gF_0 (by omega)]; exact (h _ (by omega) (by omega) (by omega) (by omega)).symm
  · rw [gF_1 (by omega) hc]; exact (nv_e (fun c hc => h _ (by omega) (by omega) (by omega) (by omega)) hc).symm
  · rw [gF_2 hj]; exact (h _ (by omega) (by omega) (by omega) (by omega)).symm
abbrev RIs (f : Nat → Int32) : Prop := RI f (gN f) (bN f)
theorem RIs.of {f : Nat → Int32} {ng nb : Nat} (h : RI f ng nb) : RIs f := by
  have e1 := h.gN
  have e2 := h.bN
  subst e1; subst e2; exact h
