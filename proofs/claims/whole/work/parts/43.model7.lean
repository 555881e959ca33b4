/-! the model as an object: its fields (0 refusal, 1 states, 2 length, 3 at, 4 good, 5 leftOut), its arrays (0 now, 1 trial, 2 read, 3 book, 4 kept, 5 isKept, 6 text) -/
def upA (A : Nat → Nat → Int32) (i : Nat) (f : Nat → Int32) : Nat → Nat → Int32 := fun j => if j = i then f else A j
def mcell (w : Wt) (k : Nat) (s : Nat → Int32) (A : Nat → Nat → Int32) (i : Nat) : va_E := match i with
  | 0 => .inr (6, [.int (s 0), .ref (wB w + (k + 1)), .ref (wB w + (k + 2)), .ref (wB w + (k + 3)), .ref (wB w + (k + 4)), .int (s 1), .ref (wB w + (k + 5)), .ref (wB w + (k + 6)), .ref (wB w + (k + 7)), .int (s 2), .int (s 3), .int (s 4), .int (s 5)])
  | 1 => .inl (wC w 0, 157, .inl (A 0))
  | 2 => .inl (wC w 0, 157, .inl (A 1))
  | 3 => .inl (wC w 0, 157, .inl (A 2))
  | 4 => .inl (wC w 0, 2198, .inl (A 3))
  | 5 => .inl (wC w 0, 314, .inl (A 4))
  | 6 => .inl (wC w 1, 2, .inl (A 5))
  | _ => .inl (wC w 0, 120, .inl (A 6))
def modH (w : Wt) (hs : Hs) (k : Nat) (s : Nat → Int32) (A : Nat → Nat → Int32) : Hs := fun j => if k ≤ j ∧ j < k + 8 then some (mcell w k s A (j - k)) else hs j
section
variable {w : Wt} {hs : Hs} {k : Nat} {s : Nat → Int32} {A : Nat → Nat → Int32}
theorem mo_i {i : Nat} (h : i < 8) : modH w hs k s A (k + i) = some (mcell w k s A i) := by
  unfold modH; rw [if_pos ⟨by omega, by omega⟩, show k + i - k = i by omega]
theorem mo_n {j : Nat} (h : j < k ∨ k + 8 ≤ j) : modH w hs k s A j = hs j := if_neg (by omega)
theorem mo_up {i : Nat} {e : va_E} {s' : Nat → Int32} {A' : Nat → Nat → Int32} (h : i < 8) (he : e = mcell w k s' A' i) (ho : ∀ j, j < 8 → j ≠ i → mcell w k s A j = mcell w k s' A' j) : upH (modH w hs k s A) (k + i) e = modH w hs k s' A' := by
  funext j
  unfold upH
  by_cases h1 : j = k + i
  · rw [if_pos h1, h1, mo_i h, he]
  · rw [if_neg h1]
    unfold modH
    by_cases h2 : k ≤ j ∧ j < k + 8
    · rw [if_pos h2, if_pos h2, ho (j - k) (by omega) (by omega)]
    · rw [if_neg h2, if_neg h2]
theorem mcA {i : Nat} {f : Nat → Int32} (hi : i < 7) : ∀ j, j < 8 → j ≠ i + 1 → mcell w k s A j = mcell w k s (upA A i f) j := by
  intro j hj hn
  match j, hj, hn with
  | 0, _, _ => rfl
  | 1, _, h => show _ = (.inl (_, _, .inl (upA A i f 0)) : va_E); rw [show upA A i f 0 = A 0 from if_neg (by omega)]; rfl
  | 2, _, h => show _ = (.inl (_, _, .inl (upA A i f 1)) : va_E); rw [show upA A i f 1 = A 1 from if_neg (by omega)]; rfl
  | 3, _, h => show _ = (.inl (_, _, .inl (upA A i f 2)) : va_E); rw [show upA A i f 2 = A 2 from if_neg (by omega)]; rfl
  | 4, _, h => show _ = (.inl (_, _, .inl (upA A i f 3)) : va_E); rw [show upA A i f 3 = A 3 from if_neg (by omega)]; rfl
  | 5, _, h => show _ = (.inl (_, _, .inl (upA A i f 4)) : va_E); rw [show upA A i f 4 = A 4 from if_neg (by omega)]; rfl
  | 6, _, h => show _ = (.inl (_, _, .inl (upA A i f 5)) : va_E); rw [show upA A i f 5 = A 5 from if_neg (by omega)]; rfl
  | 7, _, h => show _ = (.inl (_, _, .inl (upA A i f 6)) : va_E); rw [show upA A i f 6 = A 6 from if_neg (by omega)]; rfl
theorem mcS {s' : Nat → Int32} : ∀ j, j < 8 → j ≠ 0 → mcell w k s A j = mcell w k s' A j := by
  intro j hj hn
  match j, hj, hn with
  | 0, _, h => exact absurd rfl h
  | 1, _, _ => rfl
  | 2, _, _ => rfl
  | 3, _, _ => rfl
  | 4, _, _ => rfl
  | 5, _, _ => rfl
  | 6, _, _ => rfl
  | 7, _, _ => rfl
theorem mo_0 : modH w hs k s A k = some (.inr (6, [.int (s 0), .ref (wB w + (k + 1)), .ref (wB w + (k + 2)), .ref (wB w + (k + 3)), .ref (wB w + (k + 4)), .int (s 1), .ref (wB w + (k + 5)), .ref (wB w + (k + 6)), .ref (wB w + (k + 7)), .int (s 2), .int (s 3), .int (s 4), .int (s 5)])) := mo_i (i := 0) (by omega)
theorem mo_1 : modH w hs k s A (k + 1) = some (.inl (wC w 0, 157, .inl (A 0))) := mo_i (i := 1) (by omega)
theorem mo_a0 {f : Nat → Int32} : upH (modH w hs k s A) (k + 1) (.inl (wC w 0, 157, .inl f)) = modH w hs k s (upA A 0 f) := mo_up (i := 1) (by omega) (show _ = (.inl (_, _, .inl (upA A 0 f 0)) : va_E) by rw [show upA A 0 f 0 = f from if_pos rfl]) (mcA (by omega))
theorem mo_2 : modH w hs k s A (k + 2) = some (.inl (wC w 0, 157, .inl (A 1))) := mo_i (i := 2) (by omega)
theorem mo_a1 {f : Nat → Int32} : upH (modH w hs k s A) (k + 2) (.inl (wC w 0, 157, .inl f)) = modH w hs k s (upA A 1 f) := mo_up (i := 2) (by omega) (show _ = (.inl (_, _, .inl (upA A 1 f 1)) : va_E) by rw [show upA A 1 f 1 = f from if_pos rfl]) (mcA (by omega))
theorem mo_3 : modH w hs k s A (k + 3) = some (.inl (wC w 0, 157, .inl (A 2))) := mo_i (i := 3) (by omega)
theorem mo_a2 {f : Nat → Int32} : upH (modH w hs k s A) (k + 3) (.inl (wC w 0, 157, .inl f)) = modH w hs k s (upA A 2 f) := mo_up (i := 3) (by omega) (show _ = (.inl (_, _, .inl (upA A 2 f 2)) : va_E) by rw [show upA A 2 f 2 = f from if_pos rfl]) (mcA (by omega))
theorem mo_4 : modH w hs k s A (k + 4) = some (.inl (wC w 0, 2198, .inl (A 3))) := mo_i (i := 4) (by omega)
theorem mo_a3 {f : Nat → Int32} : upH (modH w hs k s A) (k + 4) (.inl (wC w 0, 2198, .inl f)) = modH w hs k s (upA A 3 f) := mo_up (i := 4) (by omega) (show _ = (.inl (_, _, .inl (upA A 3 f 3)) : va_E) by rw [show upA A 3 f 3 = f from if_pos rfl]) (mcA (by omega))
theorem mo_5 : modH w hs k s A (k + 5) = some (.inl (wC w 0, 314, .inl (A 4))) := mo_i (i := 5) (by omega)
theorem mo_a4 {f : Nat → Int32} : upH (modH w hs k s A) (k + 5) (.inl (wC w 0, 314, .inl f)) = modH w hs k s (upA A 4 f) := mo_up (i := 5) (by omega) (show _ = (.inl (_, _, .inl (upA A 4 f 4)) : va_E) by rw [show upA A 4 f 4 = f from if_pos rfl]) (mcA (by omega))
theorem mo_6 : modH w hs k s A (k + 6) = some (.inl (wC w 1, 2, .inl (A 5))) := mo_i (i := 6) (by omega)
theorem mo_a5 {f : Nat → Int32} : upH (modH w hs k s A) (k + 6) (.inl (wC w 1, 2, .inl f)) = modH w hs k s (upA A 5 f) := mo_up (i := 6) (by omega) (show _ = (.inl (_, _, .inl (upA A 5 f 5)) : va_E) by rw [show upA A 5 f 5 = f from if_pos rfl]) (mcA (by omega))
theorem mo_7 : modH w hs k s A (k + 7) = some (.inl (wC w 0, 120, .inl (A 6))) := mo_i (i := 7) (by omega)
theorem mo_a6 {f : Nat → Int32} : upH (modH w hs k s A) (k + 7) (.inl (wC w 0, 120, .inl f)) = modH w hs k s (upA A 6 f) := mo_up (i := 7) (by omega) (show _ = (.inl (_, _, .inl (upA A 6 f 6)) : va_E) by rw [show upA A 6 f 6 = f from if_pos rfl]) (mcA (by omega))
theorem upA_s {i : Nat} {f : Nat → Int32} : upA A i f i = f := if_pos rfl
theorem upA_n {i j : Nat} {f : Nat → Int32} (h : j ≠ i) : upA A i f j = A j := if_neg h
theorem upA_up {i : Nat} {f g : Nat → Int32} : upA (upA A i f) i g = upA A i g := by
  funext j; unfold upA; split <;> rfl
theorem upA_id {i : Nat} : upA A i (A i) = A := by
  funext j; unfold upA; split
  · rename_i h; rw [h]
  · rfl
theorem mo_f0 {x : Int32} : upH (modH w hs k s A) k (.inr (6, [.int x, .ref (wB w + (k + 1)), .ref (wB w + (k + 2)), .ref (wB w + (k + 3)), .ref (wB w + (k + 4)), .int (s 1), .ref (wB w + (k + 5)), .ref (wB w + (k + 6)), .ref (wB w + (k + 7)), .int (s 2), .int (s 3), .int (s 4), .int (s 5)])) = modH w hs k (upd s 0 x) A := mo_up (i := 0) (by omega) (by show _ = (.inr (6, _) : va_E); simp only [pk_us, pk_un (show 1 ≠ 0 by decide), pk_un (show 2 ≠ 0 by decide), pk_un (show 3 ≠ 0 by decide), pk_un (show 4 ≠ 0 by decide), pk_un (show 5 ≠ 0 by decide)]) mcS
theorem mo_f1 {x : Int32} : upH (modH w hs k s A) k (.inr (6, [.int (s 0), .ref (wB w + (k + 1)), .ref (wB w + (k + 2)), .ref (wB w + (k + 3)), .ref (wB w + (k + 4)), .int x, .ref (wB w + (k + 5)), .ref (wB w + (k + 6)), .ref (wB w + (k + 7)), .int (s 2), .int (s 3), .int (s 4), .int (s 5)])) = modH w hs k (upd s 1 x) A := mo_up (i := 0) (by omega) (by show _ = (.inr (6, _) : va_E); simp only [pk_us, pk_un (show 0 ≠ 1 by decide), pk_un (show 2 ≠ 1 by decide), pk_un (show 3 ≠ 1 by decide), pk_un (show 4 ≠ 1 by decide), pk_un (show 5 ≠ 1 by decide)]) mcS
theorem mo_f2 {x : Int32} : upH (modH w hs k s A) k (.inr (6, [.int (s 0), .ref (wB w + (k + 1)), .ref (wB w + (k + 2)), .ref (wB w + (k + 3)), .ref (wB w + (k + 4)), .int (s 1), .ref (wB w + (k + 5)), .ref (wB w + (k + 6)), .ref (wB w + (k + 7)), .int x, .int (s 3), .int (s 4), .int (s 5)])) = modH w hs k (upd s 2 x) A := mo_up (i := 0) (by omega) (by show _ = (.inr (6, _) : va_E); simp only [pk_us, pk_un (show 0 ≠ 2 by decide), pk_un (show 1 ≠ 2 by decide), pk_un (show 3 ≠ 2 by decide), pk_un (show 4 ≠ 2 by decide), pk_un (show 5 ≠ 2 by decide)]) mcS
theorem mo_f3 {x : Int32} : upH (modH w hs k s A) k (.inr (6, [.int (s 0), .ref (wB w + (k + 1)), .ref (wB w + (k + 2)), .ref (wB w + (k + 3)), .ref (wB w + (k + 4)), .int (s 1), .ref (wB w + (k + 5)), .ref (wB w + (k + 6)), .ref (wB w + (k + 7)), .int (s 2), .int x, .int (s 4), .int (s 5)])) = modH w hs k (upd s 3 x) A := mo_up (i := 0) (by omega) (by show _ = (.inr (6, _) : va_E); simp only [pk_us, pk_un (show 0 ≠ 3 by decide), pk_un (show 1 ≠ 3 by decide), pk_un (show 2 ≠ 3 by decide), pk_un (show 4 ≠ 3 by decide), pk_un (show 5 ≠ 3 by decide)]) mcS
theorem mo_f4 {x : Int32} : upH (modH w hs k s A) k (.inr (6, [.int (s 0), .ref (wB w + (k + 1)), .ref (wB w + (k + 2)), .ref (wB w + (k + 3)), .ref (wB w + (k + 4)), .int (s 1), .ref (wB w + (k + 5)), .ref (wB w + (k + 6)), .ref (wB w + (k + 7)), .int (s 2), .int (s 3), .int x, .int (s 5)])) = modH w hs k (upd s 4 x) A := mo_up (i := 0) (by omega) (by show _ = (.inr (6, _) : va_E); simp only [pk_us, pk_un (show 0 ≠ 4 by decide), pk_un (show 1 ≠ 4 by decide), pk_un (show 2 ≠ 4 by decide), pk_un (show 3 ≠ 4 by decide), pk_un (show 5 ≠ 4 by decide)]) mcS
theorem mo_f5 {x : Int32} : upH (modH w hs k s A) k (.inr (6, [.int (s 0), .ref (wB w + (k + 1)), .ref (wB w + (k + 2)), .ref (wB w + (k + 3)), .ref (wB w + (k + 4)), .int (s 1), .ref (wB w + (k + 5)), .ref (wB w + (k + 6)), .ref (wB w + (k + 7)), .int (s 2), .int (s 3), .int (s 4), .int x])) = modH w hs k (upd s 5 x) A := mo_up (i := 0) (by omega) (by show _ = (.inr (6, _) : va_E); simp only [pk_us, pk_un (show 0 ≠ 5 by decide), pk_un (show 1 ≠ 5 by decide), pk_un (show 2 ≠ 5 by decide), pk_un (show 3 ≠ 5 by decide), pk_un (show 4 ≠ 5 by decide)]) mcS
theorem mr_0 {f : Nat → Int32} : rowH w (modH w hs k s A) (k + 1) f = modH w hs k s (upA A 0 f) := mo_a0
theorem mq_0 : rowH w (modH w hs k s A) (k + 1) (A 0) = modH w hs k s A := row_self mo_1
theorem mr_1 {f : Nat → Int32} : rowH w (modH w hs k s A) (k + 2) f = modH w hs k s (upA A 1 f) := mo_a1
theorem mq_1 : rowH w (modH w hs k s A) (k + 2) (A 1) = modH w hs k s A := row_self mo_2
theorem mr_2 {f : Nat → Int32} : rowH w (modH w hs k s A) (k + 3) f = modH w hs k s (upA A 2 f) := mo_a2
theorem mq_2 : rowH w (modH w hs k s A) (k + 3) (A 2) = modH w hs k s A := row_self mo_3
end
theorem Cn.row {l : Launch} {w : Wt} {d : MD} {c1 s1 a : Nat} {av : List Value} {X X' : Hs} {n n9 : Option Nat} {v : Option Value} {f f' : Nat → Int32} (h1 : rowH w X a f = X) (h2 : rowH w X a f' = X') (h : Cn l w d c1 s1 av (rowH w X a f) n (rowH w X a f') n9 v) : Cn l w d c1 s1 av X n X' n9 v := by
  rw [h1, h2] at h; exact h
/-- fields of the text's reading: at, good, leftOut -/
def sT5 (s : Nat → Int32) (p : Nat) (g : Bool) (lo : Int32) : Nat → Int32 := fun i => match i with
  | 3 => nI p
  | 4 => bI g
  | 5 => lo
  | _ => s i
theorem sT_3 {s : Nat → Int32} {p p' : Nat} {g : Bool} {lo : Int32} : upd (sT5 s p g lo) 3 (nI p') = sT5 s p' g lo := by
  funext i; unfold upd
  by_cases h : i = 3
  · subst h; rfl
  · rw [if_neg h]; unfold sT5; split <;> first | rfl | exact absurd rfl h
theorem sT_4 {s : Nat → Int32} {p : Nat} {g g' : Bool} {lo : Int32} : upd (sT5 s p g lo) 4 (bI g') = sT5 s p g' lo := by
  funext i; unfold upd
  by_cases h : i = 4
  · subst h; rfl
  · rw [if_neg h]; unfold sT5; split <;> first | rfl | exact absurd rfl h
theorem sT_5 {s : Nat → Int32} {p : Nat} {g : Bool} {lo lo' : Int32} : upd (sT5 s p g lo) 5 lo' = sT5 s p g lo' := by
  funext i; unfold upd
  by_cases h : i = 5
  · subst h; rfl
  · rw [if_neg h]; unfold sT5; split <;> first | rfl | exact absurd rfl h
/-- the character at hand; a digit's reading: where it leads, what it is -/
def hrF (t : Nat → Int32) (len p : Nat) : Int32 := if p < len then t p else -1
def dgO (t : Nat → Int32) (len : Nat) (lo hi : Int32) (p : Nat) : Bool := decide (lo ≤ hrF t len p - 48 ∧ hrF t len p - 48 ≤ hi)
def dgS (t : Nat → Int32) (len : Nat) (lo hi : Int32) (q : Nat × Bool) : Nat × Bool := if (q.2 && dgO t len lo hi q.1) = true then (q.1 + 1, true) else (q.1, false)
def dgV (t : Nat → Int32) (len : Nat) (lo hi : Int32) (q : Nat × Bool) : Int32 := if (q.2 && dgO t len lo hi q.1) = true then hrF t len q.1 - 48 else lo
def twL (lo d : Int32) : Int32 := if d = lo / 10 then lo - lo / 10 * 10 else 0
def twH (hi d : Int32) : Int32 := if d = hi / 10 then hi - hi / 10 * 10 else 9
def twS (t : Nat → Int32) (len : Nat) (lo hi : Int32) (q : Nat × Bool) : Nat × Bool := dgS t len (twL lo (dgV t len (lo / 10) (hi / 10) q)) (twH hi (dgV t len (lo / 10) (hi / 10) q)) (dgS t len (lo / 10) (hi / 10) q)
def twV (t : Nat → Int32) (len : Nat) (lo hi : Int32) (q : Nat × Bool) : Int32 := 10 * dgV t len (lo / 10) (hi / 10) q + dgV t len (twL lo (dgV t len (lo / 10) (hi / 10) q)) (twH hi (dgV t len (lo / 10) (hi / 10) q)) (dgS t len (lo / 10) (hi / 10) q)
theorem dgS_le {t : Nat → Int32} {len : Nat} {lo hi : Int32} {q : Nat × Bool} : q.1 ≤ (dgS t len lo hi q).1 ∧ (dgS t len lo hi q).1 ≤ q.1 + 1 := by
  unfold dgS; split
  · exact ⟨by show q.1 ≤ q.1 + 1; omega, Nat.le_refl _⟩
  · exact ⟨Nat.le_refl _, by show q.1 ≤ q.1 + 1; omega⟩
theorem twS_le {t : Nat → Int32} {len : Nat} {lo hi : Int32} {q : Nat × Bool} : q.1 ≤ (twS t len lo hi q).1 ∧ (twS t len lo hi q).1 ≤ q.1 + 2 := by
  unfold twS
  have h1 := dgS_le (t := t) (len := len) (lo := lo / 10) (hi := hi / 10) (q := q)
  have h2 := dgS_le (t := t) (len := len) (lo := twL lo (dgV t len (lo / 10) (hi / 10) q)) (hi := twH hi (dgV t len (lo / 10) (hi / 10) q)) (q := dgS t len (lo / 10) (hi / 10) q)
  omega
set_option maxHeartbeats 4000000 in
set_option maxRecDepth 100000 in
theorem c_thrown {l : Launch} {w : Wt} {hs : Hs} {n : Option Nat} {k : Nat} {u : Nat → Int32} {A : Nat → Nat → Int32}  : Cn l w mX6_thrown 0 0 [.ref (wB w + k)] (modH w hs k u A) n (modH w hs k u A) n (some (.int (u 0))) := by
  refine Cn.of (d := mX6_thrown) (by decide +kernel) (Nat.le_of_ble_eq_true rfl) ?_
  intro p e R s m args below meth c CX
  replace CX : Ctx p s m args meth c R w RX6 "thrown" cX6_thrown 1 (some .int) 0 0 0 0 := CX
  show ZW p l e R s m args below meth c w 1 _ _ 0 0 (MQ below (Qn w _ _ _) args s 0 0 (wA w)) 0 [(0, .ref (wB w + k))] []
  refine z_aload_n CX 0 dX6_thrown_0 rfl rfl ?_
  refine z_get CX dX6_thrown_1 fg_X6_36 mo_0 rfl ?_
  exact z_iret CX dX6_thrown_4 rfl rfl rfl (Or.inl rfl)
set_option maxHeartbeats 4000000 in
set_option maxRecDepth 100000 in
theorem c_ref {l : Launch} {w : Wt} {hs : Hs} {n : Option Nat} {k : Nat} {u : Nat → Int32} {A : Nat → Nat → Int32} (x : Int32) : Cn l w mX6_refused 0 0 [.ref (wB w + k), .int x] (modH w hs k u A) n (modH w hs k (upd u 0 x) A) n (some (.int (bI (decide (x ≠ 0))))) := by
  refine Cn.of (d := mX6_refused) (by decide +kernel) (Nat.le_of_ble_eq_true rfl) ?_
  intro p e R s m args below meth c CX
  replace CX : Ctx p s m args meth c R w RX6 "refused" cX6_refused 2 (some .boolean) 0 0 0 0 := CX
  show ZW p l e R s m args below meth c w 2 _ _ 0 0 (MQ below (Qn w _ _ _) args s 0 0 (wA w)) 0 [(0, .ref (wB w + k)), (1, .int x)] []
  refine z_aload_n CX 0 dX6_refused_0 rfl rfl ?_
  refine z_iload_n CX 1 dX6_refused_1 rfl rfl ?_
  refine z_put CX dX6_refused_2 fg_X6_36 fp_X6_0 mo_0 (Nat.le_of_ble_eq_true rfl) rfl rfl ?_
  refine z_heap mo_f0 ?_
  refine z_iload_n CX 1 dX6_refused_5 rfl rfl ?_
  refine z_if_eq CX 13 dX6_refused_6 (by decide) (fun c_6 => ?_) (fun c_6 => ?_)
  · skip
    refine z_iconst CX (v := 0) dX6_refused_13 (by decide) ?_
    exact z_zret CX dX6_refused_14 rfl (by first | rfl | exact bI_nar _) (congrArg Value.int (by rw [decide_eq_false (fun q => q c_6)]; rfl)) rfl (Or.inl rfl)
  · skip
    refine z_iconst CX (v := 1) dX6_refused_9 (by decide) ?_
    refine z_goto CX 14 dX6_refused_10 (by decide) ?_
    exact z_zret CX dX6_refused_14 rfl (by first | rfl | exact bI_nar _) (congrArg Value.int (by rw [decide_eq_true c_6]; rfl)) rfl (Or.inl rfl)
def tnF : Nat → Int64
  | 0 => 1
  | n + 1 => tnF n * 10
set_option maxHeartbeats 4000000 in
set_option maxRecDepth 100000 in
theorem c_tens {l : Launch} {w : Wt} {hs : Hs} {n : Option Nat}  {m9 : Nat} (hm : m9 < 1000) : Cn l w mX6_tens 0 0 [.int (nI m9)] hs n hs n (some (.long (tnF m9))) := by
  refine Cn.of (d := mX6_tens) (by decide +kernel) (Nat.le_of_ble_eq_true rfl) ?_
  intro p e R s m args below meth c CX
  replace CX : Ctx p s m args meth c R w RX6 "tens" cX6_tens 4 (some .long) 0 0 0 0 := CX
  show ZW p l e R s m args below meth c w 4 _ _ 0 0 (MQ below (Qn w _ _ _) args s 0 0 (wA w)) 0 [(0, .int (nI m9))] []
  have LP : ∀ (j i : Nat), i + j = m9 → ZW p l e R s m args below meth c w 4 hs n 0 0 (MQ below (Qn w hs n (some (.long (tnF m9)))) args s 0 0 (wA w)) 4 [(0, .int (nI m9)), (1, .long (tnF i)), (3, .int (nI i))] [] := by
    intro j
    induction j with
    | zero =>
      intro i hi
      refine z_iload_n CX 3 dX6_tens_4 rfl rfl ?_
      refine z_iload_n CX 0 dX6_tens_5 rfl rfl ?_
      refine z_icmp_ge CX 21 dX6_tens_6 (by decide) (fun _ => ?_) (fun q9 => absurd (nI_le (by omega) (by omega)) q9)
      refine z_lload_n CX 1 dX6_tens_21 rfl rfl ?_
      exact z_lret CX dX6_tens_22 rfl (by rw [show i = m9 by omega]) rfl (Or.inl rfl)
    | succ j ih =>
      intro i hi
      refine z_iload_n CX 3 dX6_tens_4 rfl rfl ?_
      refine z_iload_n CX 0 dX6_tens_5 rfl rfl ?_
      refine z_icmp_ge CX 21 dX6_tens_6 (by decide) (fun q9 => absurd q9 (nI_ge (by omega) (by omega))) (fun _ => ?_)
      refine z_lload_n CX 1 dX6_tens_9 rfl rfl ?_
      refine z_ldc2 CX (v := 10) dX6_tens_10 (wa_mem 1031 (by decide +kernel) rfl) ?_
      refine z_lmul CX dX6_tens_13 ?_
      refine z_lstore_n CX 1 dX6_tens_14 rfl (by decide) ?_
      refine z_iinc CX (v := nI (i + 1)) dX6_tens_15 rfl (nI_1 i) (by decide) ?_
      refine z_goto CX 4 dX6_tens_18 (by decide) ?_
      refine z_loc [(0, .int (nI m9)), (1, .long (tnF (i + 1))), (3, .int (nI (i + 1)))] ⟨rfl, rfl, rfl, trivial⟩ ?_
      exact ih (i + 1) (by omega)
  refine z_lconst CX (v := 1) dX6_tens_0 (by decide) ?_
  refine z_lstore_n CX 1 dX6_tens_1 rfl (by decide) ?_
  refine z_iconst CX (v := 0) dX6_tens_2 (by decide) ?_
  refine z_istore_n CX 3 dX6_tens_3 rfl (by decide) ?_
  refine z_loc [(0, .int (nI m9)), (1, .long (tnF 0)), (3, .int (nI 0))] ⟨rfl, rfl, rfl, trivial⟩ ?_
  exact LP m9 0 (by omega)
def frZ (f : Nat → Int32) (i : Nat) : Nat → Int32 := fun j => if j < i then 0 else f j
theorem frZ_s {f : Nat → Int32} {i : Nat} : upd (frZ f i) i 0 = frZ f (i + 1) := by
  funext j; unfold upd frZ
  by_cases h : j = i
  · subst h; simp
  · rw [if_neg h]
    by_cases h2 : j < i
    · rw [if_pos h2, if_pos (by omega)]
    · rw [if_neg h2, if_neg (by omega)]
def frO (f : Nat → Int32) : Nat → Nat → Int32
  | 0 => f
  | o + 1 => upd (upd (frO f o) (134 + 3 * o + 1) (-1)) (134 + 3 * o + 2) (-1)
def frF (f : Nat → Int32) : Nat → Int32 := upd (upd (frO (frZ f 157) 4) 155 3) 156 2
set_option maxHeartbeats 4000000 in
set_option maxRecDepth 100000 in
theorem c_fresh {l : Launch} {w : Wt} {hs : Hs} {n : Option Nat} {a : Nat} {f : Nat → Int32}  : Cn l w mX6_fresh 0 0 [.ref (wB w + a)] (rowH w hs a f) n (rowH w hs a (frF f)) n none := by
  refine Cn.of (d := mX6_fresh) (by decide +kernel) (Nat.le_of_ble_eq_true rfl) ?_
  intro p e R s m args below meth c CX
  replace CX : Ctx p s m args meth c R w RX6 "fresh" cX6_fresh 2 none 0 0 0 0 := CX
  show ZW p l e R s m args below meth c w 2 _ _ 0 0 (MQ below (Qn w _ _ _) args s 0 0 (wA w)) 0 [(0, .ref (wB w + a))] []
  have LO : ∀ (j i : Nat), i + j = 4 → ZW p l e R s m args below meth c w 2 (rowH w hs a (frO (frZ f 157) i)) n 0 0 (MQ below (Qn w (rowH w hs a (frF f)) n none) args s 0 0 (wA w)) 21 [(0, .ref (wB w + a)), (1, .int (nI i))] [] := by
    intro j
    induction j with
    | zero =>
      intro i hi
      have hi9 : i = 4 := by omega
      subst hi9
      refine z_iload_n CX 1 dX6_fresh_21 rfl rfl ?_
      refine z_iconst CX (v := 4) dX6_fresh_22 (by decide) ?_
      refine z_icmp_ge CX 56 dX6_fresh_23 (by decide) (fun _ => ?_) (fun q9 => absurd (by decide) q9)
      refine z_aload_n CX 0 dX6_fresh_56 rfl rfl ?_
      refine z_sipush CX (v := 155) dX6_fresh_57 (by decide) ?_
      refine z_iconst CX (v := 3) dX6_fresh_60 (by decide) ?_
      refine z_is CX (j := 155) dX6_fresh_61 row_0 rfl (by omega) (by decide) ?_
      refine z_heap row_u ?_
      refine z_aload_n CX 0 dX6_fresh_62 rfl rfl ?_
      refine z_sipush CX (v := 156) dX6_fresh_63 (by decide) ?_
      refine z_iconst CX (v := 2) dX6_fresh_66 (by decide) ?_
      refine z_is CX (j := 156) dX6_fresh_67 row_0 rfl (by omega) (by decide) ?_
      refine z_heap row_u ?_
      exact z_vret CX dX6_fresh_68 rfl rfl (Or.inl rfl)
    | succ j ih =>
      intro i hi
      refine z_iload_n CX 1 dX6_fresh_21 rfl rfl ?_
      refine z_iconst CX (v := 4) dX6_fresh_22 (by decide) ?_
      refine z_icmp_ge CX 56 dX6_fresh_23 (by decide) (fun q9 => absurd q9 (nI_ge (b := 4) (by omega) (by omega))) (fun _ => ?_)
      refine z_aload_n CX 0 dX6_fresh_26 rfl rfl ?_
      refine z_sipush CX (v := 134) dX6_fresh_27 (by decide) ?_
      refine z_iconst CX (v := 3) dX6_fresh_30 (by decide) ?_
      refine z_iload_n CX 1 dX6_fresh_31 rfl rfl ?_
      refine z_imul CX dX6_fresh_32 ?_
      refine z_iadd CX dX6_fresh_33 ?_
      refine z_iconst CX (v := 1) dX6_fresh_34 (by decide) ?_
      refine z_iadd CX dX6_fresh_35 ?_
      refine z_iconst CX (v := (-1 : Int32)) dX6_fresh_36 (by decide) ?_
      refine z_is CX (j := ((134 + (3 * i)) + 1)) dX6_fresh_37 row_0 (ix_add (ix_add rfl (ix_mul rfl rfl)) rfl) (by omega) (by decide) ?_
      refine z_heap row_u ?_
      refine z_aload_n CX 0 dX6_fresh_38 rfl rfl ?_
      refine z_sipush CX (v := 134) dX6_fresh_39 (by decide) ?_
      refine z_iconst CX (v := 3) dX6_fresh_42 (by decide) ?_
      refine z_iload_n CX 1 dX6_fresh_43 rfl rfl ?_
      refine z_imul CX dX6_fresh_44 ?_
      refine z_iadd CX dX6_fresh_45 ?_
      refine z_iconst CX (v := 2) dX6_fresh_46 (by decide) ?_
      refine z_iadd CX dX6_fresh_47 ?_
      refine z_iconst CX (v := (-1 : Int32)) dX6_fresh_48 (by decide) ?_
      refine z_is CX (j := ((134 + (3 * i)) + 2)) dX6_fresh_49 row_0 (ix_add (ix_add rfl (ix_mul rfl rfl)) rfl) (by omega) (by decide) ?_
      refine z_heap row_u ?_
      refine z_iinc CX (v := nI (i + 1)) dX6_fresh_50 rfl (nI_1 i) (by decide) ?_
      refine z_goto CX 21 dX6_fresh_53 (by decide) ?_
      refine z_loc [(0, .ref (wB w + a)), (1, .int (nI (i + 1)))] ⟨rfl, rfl, trivial⟩ ?_
      exact ih (i + 1) (by omega)
  have LP : ∀ (j i : Nat), i + j = 157 → ZW p l e R s m args below meth c w 2 (rowH w hs a (frZ f i)) n 0 0 (MQ below (Qn w (rowH w hs a (frF f)) n none) args s 0 0 (wA w)) 2 [(0, .ref (wB w + a)), (1, .int (nI i))] [] := by
    intro j
    induction j with
    | zero =>
      intro i hi
      have hi9 : i = 157 := by omega
      subst hi9
      refine z_iload_n CX 1 dX6_fresh_2 rfl rfl ?_
      refine z_sipush CX (v := 157) dX6_fresh_3 (by decide) ?_
      refine z_icmp_ge CX 19 dX6_fresh_6 (by decide) (fun _ => ?_) (fun q9 => absurd (by decide) q9)
      refine z_iconst CX (v := 0) dX6_fresh_19 (by decide) ?_
      refine z_istore_n CX 1 dX6_fresh_20 rfl (by decide) ?_
      refine z_loc [(0, .ref (wB w + a)), (1, .int (nI 0))] ⟨rfl, rfl, trivial⟩ ?_
      exact LO 4 0 (by omega)
    | succ j ih =>
      intro i hi
      refine z_iload_n CX 1 dX6_fresh_2 rfl rfl ?_
      refine z_sipush CX (v := 157) dX6_fresh_3 (by decide) ?_
      refine z_icmp_ge CX 19 dX6_fresh_6 (by decide) (fun q9 => absurd q9 (nI_ge (b := 157) (by omega) (by omega))) (fun _ => ?_)
      refine z_aload_n CX 0 dX6_fresh_9 rfl rfl ?_
      refine z_iload_n CX 1 dX6_fresh_10 rfl rfl ?_
      refine z_iconst CX (v := 0) dX6_fresh_11 (by decide) ?_
      refine z_is CX (j := i) dX6_fresh_12 row_0 rfl (by omega) (by decide) ?_
      refine z_heap row_u ?_
      refine z_iinc CX (v := nI (i + 1)) dX6_fresh_13 rfl (nI_1 i) (by decide) ?_
      refine z_goto CX 2 dX6_fresh_16 (by decide) ?_
      refine z_heap (congrArg (rowH w hs a) frZ_s) ?_
      refine z_loc [(0, .ref (wB w + a)), (1, .int (nI (i + 1)))] ⟨rfl, rfl, trivial⟩ ?_
      exact ih (i + 1) (by omega)
  refine z_iconst CX (v := 0) dX6_fresh_0 (by decide) ?_
  refine z_istore_n CX 1 dX6_fresh_1 rfl (by decide) ?_
  refine z_heap (congrArg (rowH w hs a) (show f = frZ f 0 from funext fun j => (if_neg (Nat.not_lt_zero j)).symm)) ?_
  refine z_loc [(0, .ref (wB w + a)), (1, .int (nI 0))] ⟨rfl, rfl, trivial⟩ ?_
  exact LP 157 0 (by omega)
theorem cpyF_s {g f : Nat → Int32} {i : Nat} : upd (cpyF i g f) i (g i) = cpyF (i + 1) g f := by
  funext j; unfold upd cpyF
  by_cases h : j = i
  · subst h; simp
  · rw [if_neg h]
    by_cases h2 : j < i
    · rw [if_pos h2, if_pos (by omega)]
    · rw [if_neg h2, if_neg (by omega)]
theorem cpyF_0 {g f : Nat → Int32} : cpyF 0 g f = f := funext fun j => if_neg (Nat.not_lt_zero j)
set_option maxHeartbeats 4000000 in
set_option maxRecDepth 100000 in
theorem c_copyM {l : Launch} {w : Wt} {hs : Hs} {n : Option Nat} {a : Nat} {f : Nat → Int32} {q : Nat} {g : Nat → Int32} (hq : q ≠ a) (hg : hs q = some (.inl (wC w 0, 157, .inl g))) : Cn l w mX6_copy 0 0 [.ref (wB w + q), .ref (wB w + a)] (rowH w hs a f) n (rowH w hs a (cpyF 157 g f)) n none := by
  refine Cn.of (d := mX6_copy) (by decide +kernel) (Nat.le_of_ble_eq_true rfl) ?_
  intro p e R s m args below meth c CX
  replace CX : Ctx p s m args meth c R w RX6 "copy" cX6_copy 3 none 0 0 0 0 := CX
  show ZW p l e R s m args below meth c w 3 _ _ 0 0 (MQ below (Qn w _ _ _) args s 0 0 (wA w)) 0 [(0, .ref (wB w + q)), (1, .ref (wB w + a))] []
  have LP : ∀ (j i : Nat), i + j = 157 → ZW p l e R s m args below meth c w 3 (rowH w hs a (cpyF i g f)) n 0 0 (MQ below (Qn w (rowH w hs a (cpyF 157 g f)) n none) args s 0 0 (wA w)) 2 [(0, .ref (wB w + q)), (1, .ref (wB w + a)), (2, .int (nI i))] [] := by
    intro j
    induction j with
    | zero =>
      intro i hi
      have hi9 : i = 157 := by omega
      subst hi9
      refine z_iload_n CX 2 dX6_copy_2 rfl rfl ?_
      refine z_sipush CX (v := 157) dX6_copy_3 (by decide) ?_
      refine z_icmp_ge CX 21 dX6_copy_6 (by decide) (fun _ => ?_) (fun q9 => absurd (by decide) q9)
      exact z_vret CX dX6_copy_21 rfl rfl (Or.inl rfl)
    | succ j ih =>
      intro i hi
      refine z_iload_n CX 2 dX6_copy_2 rfl rfl ?_
      refine z_sipush CX (v := 157) dX6_copy_3 (by decide) ?_
      refine z_icmp_ge CX 21 dX6_copy_6 (by decide) (fun q9 => absurd q9 (nI_ge (b := 157) (by omega) (by omega))) (fun _ => ?_)
      refine z_aload_n CX 1 dX6_copy_9 rfl rfl ?_
      refine z_iload_n CX 2 dX6_copy_10 rfl rfl ?_
      refine z_aload_n CX 0 dX6_copy_11 rfl rfl ?_
      refine z_iload_n CX 2 dX6_copy_12 rfl rfl ?_
      refine z_ia CX (j := i) dX6_copy_13 ((row_n hq).trans hg) rfl (by omega) (by decide) ?_
      refine z_is CX (j := i) dX6_copy_14 row_0 rfl (by omega) (by decide) ?_
      refine z_heap row_u ?_
      refine z_iinc CX (v := nI (i + 1)) dX6_copy_15 rfl (nI_1 i) (by decide) ?_
      refine z_goto CX 2 dX6_copy_18 (by decide) ?_
      refine z_heap (congrArg (rowH w hs a) cpyF_s) ?_
      refine z_loc [(0, .ref (wB w + q)), (1, .ref (wB w + a)), (2, .int (nI (i + 1)))] ⟨rfl, rfl, rfl, trivial⟩ ?_
      exact ih (i + 1) (by omega)
  refine z_iconst CX (v := 0) dX6_copy_0 (by decide) ?_
  refine z_istore_n CX 2 dX6_copy_1 rfl (by decide) ?_
  refine z_heap (congrArg (rowH w hs a) (cpyF_0 (g := g)).symm) ?_
  refine z_loc [(0, .ref (wB w + q)), (1, .ref (wB w + a)), (2, .int (nI 0))] ⟨rfl, rfl, rfl, trivial⟩ ?_
  exact LP 157 0 (by omega)
set_option maxHeartbeats 4000000 in
set_option maxRecDepth 100000 in
theorem c_here {l : Launch} {w : Wt} {hs : Hs} {n : Option Nat} {k : Nat} {u : Nat → Int32} {A : Nat → Nat → Int32} {y len : Nat} (h2 : u 2 = nI len) (h3 : u 3 = nI y) (hp9 : y < 1000) (hl : len ≤ 120) : Cn l w mX6_here 0 0 [.ref (wB w + k)] (modH w hs k u A) n (modH w hs k u A) n (some (.int (hrF (A 6) len y))) := by
  refine Cn.of (d := mX6_here) (by decide +kernel) (Nat.le_of_ble_eq_true rfl) ?_
  intro p e R s m args below meth c CX
  replace CX : Ctx p s m args meth c R w RX6 "here" cX6_here 1 (some .int) 0 0 0 0 := CX
  show ZW p l e R s m args below meth c w 1 _ _ 0 0 (MQ below (Qn w _ _ _) args s 0 0 (wA w)) 0 [(0, .ref (wB w + k))] []
  refine z_aload_n CX 0 dX6_here_0 rfl rfl ?_
  refine z_get CX dX6_here_1 fg_X6_126 mo_0 rfl ?_
  refine z_aload_n CX 0 dX6_here_4 rfl rfl ?_
  refine z_get CX dX6_here_5 fg_X6_119 mo_0 rfl ?_
  refine z_icmp_ge CX 23 dX6_here_8 (by decide) (fun c_8 => ?_) (fun c_8 => ?_)
  · skip
    refine z_iconst CX (v := (-1 : Int32)) dX6_here_23 (by decide) ?_
    exact z_iret CX dX6_here_24 rfl (congrArg Value.int (by unfold hrF; rw [h2, h3] at c_8; rw [if_neg (fun q => absurd c_8 (nI_ge q (by omega)))])) rfl (Or.inl rfl)
  · skip
    rw [h2, h3] at c_8
    have hp : y < len := Nat.lt_of_not_le (fun q => c_8 (nI_le q (by omega)))
    refine z_aload_n CX 0 dX6_here_11 rfl rfl ?_
    refine z_get CX dX6_here_12 fg_X6_29 mo_0 rfl ?_
    refine z_aload_n CX 0 dX6_here_15 rfl rfl ?_
    refine z_get CX dX6_here_16 fg_X6_126 mo_0 rfl ?_
    refine z_ia CX (j := y) dX6_here_19 mo_7 h3 (by omega) (by decide) ?_
    refine z_goto CX 24 dX6_here_20 (by decide) ?_
    exact z_iret CX dX6_here_24 rfl (congrArg Value.int (by unfold hrF; rw [if_pos hp])) rfl (Or.inl rfl)
set_option maxHeartbeats 4000000 in
set_option maxRecDepth 100000 in
theorem c_take {l : Launch} {w : Wt} {hs : Hs} {n : Option Nat} {k : Nat} {u : Nat → Int32} {A : Nat → Nat → Int32} {y : Nat} {g ok : Bool} {lo : Int32} : Cn l w mX6_take 0 0 [.ref (wB w + k), .int (bI ok)] (modH w hs k (sT5 u y g lo) A) n (modH w hs k (sT5 u (if (g && ok) = true then y + 1 else y) (g && ok) lo) A) n none := by
  refine Cn.of (d := mX6_take) (by decide +kernel) (Nat.le_of_ble_eq_true rfl) ?_
  intro p e R s m args below meth c CX
  replace CX : Ctx p s m args meth c R w RX6 "take" cX6_take 2 none 0 0 0 0 := CX
  show ZW p l e R s m args below meth c w 2 _ _ 0 0 (MQ below (Qn w _ _ _) args s 0 0 (wA w)) 0 [(0, .ref (wB w + k)), (1, .int (bI ok))] []
  rcases g with _ | _ <;> rcases ok with _ | _
  · skip
    refine z_aload_n CX 0 dX6_take_0 rfl rfl ?_
    refine z_aload_n CX 0 dX6_take_1 rfl rfl ?_
    refine z_get CX dX6_take_2 fg_X6_129 mo_0 rfl ?_
    refine z_if_eq CX 16 dX6_take_5 (by decide) (fun _ => ?_) (fun q9 => absurd rfl q9)
    refine z_iconst CX (v := 0) dX6_take_16 (by decide) ?_
    refine z_put CX dX6_take_17 fg_X6_129 fp_X6_11 mo_0 (Nat.le_of_ble_eq_true rfl) rfl rfl ?_
    refine z_heap mo_f4 ?_
    refine z_aload_n CX 0 dX6_take_20 rfl rfl ?_
    refine z_dup CX dX6_take_21 rfl ?_
    refine z_get CX dX6_take_22 fg_X6_126 mo_0 rfl ?_
    refine z_aload_n CX 0 dX6_take_25 rfl rfl ?_
    refine z_get CX dX6_take_26 fg_X6_129 mo_0 rfl ?_
    refine z_if_eq CX 36 dX6_take_29 (by decide) (fun _ => ?_) (fun q9 => absurd rfl q9)
    refine z_iconst CX (v := 0) dX6_take_36 (by decide) ?_
    rw [show (upd (sT5 u y false lo) 4 0) 3 = nI y from rfl]
    refine z_iadd CX dX6_take_37 ?_
    refine z_put CX dX6_take_38 fg_X6_126 fp_X6_10 mo_0 (Nat.le_of_ble_eq_true rfl) rfl rfl ?_
    refine z_heap mo_f3 ?_
    exact z_vret CX dX6_take_41 rfl (congrArg (fun z => modH w hs k z A) ((congrArg (fun z => upd z 3 _) (sT_4 (g' := false))).trans ((congrArg (upd _ 3) (Int32.add_zero _)).trans sT_3))) (Or.inl rfl)
  · skip
    refine z_aload_n CX 0 dX6_take_0 rfl rfl ?_
    refine z_aload_n CX 0 dX6_take_1 rfl rfl ?_
    refine z_get CX dX6_take_2 fg_X6_129 mo_0 rfl ?_
    refine z_if_eq CX 16 dX6_take_5 (by decide) (fun _ => ?_) (fun q9 => absurd rfl q9)
    refine z_iconst CX (v := 0) dX6_take_16 (by decide) ?_
    refine z_put CX dX6_take_17 fg_X6_129 fp_X6_11 mo_0 (Nat.le_of_ble_eq_true rfl) rfl rfl ?_
    refine z_heap mo_f4 ?_
    refine z_aload_n CX 0 dX6_take_20 rfl rfl ?_
    refine z_dup CX dX6_take_21 rfl ?_
    refine z_get CX dX6_take_22 fg_X6_126 mo_0 rfl ?_
    refine z_aload_n CX 0 dX6_take_25 rfl rfl ?_
    refine z_get CX dX6_take_26 fg_X6_129 mo_0 rfl ?_
    refine z_if_eq CX 36 dX6_take_29 (by decide) (fun _ => ?_) (fun q9 => absurd rfl q9)
    refine z_iconst CX (v := 0) dX6_take_36 (by decide) ?_
    rw [show (upd (sT5 u y false lo) 4 0) 3 = nI y from rfl]
    refine z_iadd CX dX6_take_37 ?_
    refine z_put CX dX6_take_38 fg_X6_126 fp_X6_10 mo_0 (Nat.le_of_ble_eq_true rfl) rfl rfl ?_
    refine z_heap mo_f3 ?_
    exact z_vret CX dX6_take_41 rfl (congrArg (fun z => modH w hs k z A) ((congrArg (fun z => upd z 3 _) (sT_4 (g' := false))).trans ((congrArg (upd _ 3) (Int32.add_zero _)).trans sT_3))) (Or.inl rfl)
  · skip
    refine z_aload_n CX 0 dX6_take_0 rfl rfl ?_
    refine z_aload_n CX 0 dX6_take_1 rfl rfl ?_
    refine z_get CX dX6_take_2 fg_X6_129 mo_0 rfl ?_
    refine z_if_eq CX 16 dX6_take_5 (by decide) (fun q9 => absurd q9 (show ¬ bI true = 0 by decide)) (fun _ => ?_)
    refine z_iload_n CX 1 dX6_take_8 rfl rfl ?_
    refine z_if_eq CX 16 dX6_take_9 (by decide) (fun _ => ?_) (fun q9 => absurd rfl q9)
    refine z_iconst CX (v := 0) dX6_take_16 (by decide) ?_
    refine z_put CX dX6_take_17 fg_X6_129 fp_X6_11 mo_0 (Nat.le_of_ble_eq_true rfl) rfl rfl ?_
    refine z_heap mo_f4 ?_
    refine z_aload_n CX 0 dX6_take_20 rfl rfl ?_
    refine z_dup CX dX6_take_21 rfl ?_
    refine z_get CX dX6_take_22 fg_X6_126 mo_0 rfl ?_
    refine z_aload_n CX 0 dX6_take_25 rfl rfl ?_
    refine z_get CX dX6_take_26 fg_X6_129 mo_0 rfl ?_
    refine z_if_eq CX 36 dX6_take_29 (by decide) (fun _ => ?_) (fun q9 => absurd rfl q9)
    refine z_iconst CX (v := 0) dX6_take_36 (by decide) ?_
    rw [show (upd (sT5 u y true lo) 4 0) 3 = nI y from rfl]
    refine z_iadd CX dX6_take_37 ?_
    refine z_put CX dX6_take_38 fg_X6_126 fp_X6_10 mo_0 (Nat.le_of_ble_eq_true rfl) rfl rfl ?_
    refine z_heap mo_f3 ?_
    exact z_vret CX dX6_take_41 rfl (congrArg (fun z => modH w hs k z A) ((congrArg (fun z => upd z 3 _) (sT_4 (g' := false))).trans ((congrArg (upd _ 3) (Int32.add_zero _)).trans sT_3))) (Or.inl rfl)
  · skip
    refine z_aload_n CX 0 dX6_take_0 rfl rfl ?_
    refine z_aload_n CX 0 dX6_take_1 rfl rfl ?_
    refine z_get CX dX6_take_2 fg_X6_129 mo_0 rfl ?_
    refine z_if_eq CX 16 dX6_take_5 (by decide) (fun q9 => absurd q9 (show ¬ bI true = 0 by decide)) (fun _ => ?_)
    refine z_iload_n CX 1 dX6_take_8 rfl rfl ?_
    refine z_if_eq CX 16 dX6_take_9 (by decide) (fun q9 => absurd q9 (show ¬ bI true = 0 by decide)) (fun _ => ?_)
    refine z_iconst CX (v := 1) dX6_take_12 (by decide) ?_
    refine z_goto CX 17 dX6_take_13 (by decide) ?_
    refine z_put CX dX6_take_17 fg_X6_129 fp_X6_11 mo_0 (Nat.le_of_ble_eq_true rfl) rfl rfl ?_
    refine z_heap mo_f4 ?_
    refine z_aload_n CX 0 dX6_take_20 rfl rfl ?_
    refine z_dup CX dX6_take_21 rfl ?_
    refine z_get CX dX6_take_22 fg_X6_126 mo_0 rfl ?_
    refine z_aload_n CX 0 dX6_take_25 rfl rfl ?_
    refine z_get CX dX6_take_26 fg_X6_129 mo_0 rfl ?_
    refine z_if_eq CX 36 dX6_take_29 (by decide) (fun q9 => absurd q9 (show ¬ bI true = 0 by decide)) (fun _ => ?_)
    refine z_iconst CX (v := 1) dX6_take_32 (by decide) ?_
    refine z_goto CX 37 dX6_take_33 (by decide) ?_
    rw [show (upd (sT5 u y true lo) 4 1) 3 = nI y from rfl]
    refine z_iadd CX dX6_take_37 ?_
    refine z_put CX dX6_take_38 fg_X6_126 fp_X6_10 mo_0 (Nat.le_of_ble_eq_true rfl) rfl rfl ?_
    refine z_heap mo_f3 ?_
    exact z_vret CX dX6_take_41 rfl (congrArg (fun z => modH w hs k z A) ((congrArg (fun z => upd z 3 _) (sT_4 (g' := true))).trans ((congrArg (upd _ 3) (nI_1 y)).trans sT_3))) (Or.inl rfl)
