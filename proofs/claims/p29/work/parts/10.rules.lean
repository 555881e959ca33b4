/-! THE UNIFORM WORLD: cells at a base and numbers from it; one list of words for every method; a judgement Z inside a method, a judgement Cn of a call -/
def WA : List Cond := lw_tbl.filter goodWord
theorem wa_mem {x : Cond} (i : Nat) (h : tables_1[i]? = some x) (g : goodWord x = true) : x ∈ WA :=
  List.mem_filter.mpr ⟨List.mem_append_right _ (List.mem_of_getElem? h), g⟩
theorem wa_sel {x : Cond} (h : x ∈ k2_sels lw_privs) (g : goodWord x = true) : x ∈ WA := List.mem_filter.mpr ⟨List.mem_append_left _ h, g⟩
theorem wa_good : ∀ x ∈ WA, goodWord x = true := fun x h => (List.mem_filter.mp h).2
theorem wa_in {a c' : Cond} {extra : List Cond} (h : ∀ x ∈ extra, x ∈ WA) (hc : c' ∈ WA) : GoodIn (a :: WA) (extra ++ (c' :: WA)) := by
  intro x hx
  have h9 : x ∈ WA := by
    rcases List.mem_append.mp hx with h1 | h1
    · exact h x h1
    · rcases List.mem_cons.mp h1 with h2 | h2
      · rw [h2]; exact hc
      · exact h2
  exact ⟨List.mem_cons_of_mem _ h9, good_of_word (wa_good x h9)⟩
abbrev Wt : Type := va_G × (Nat → ClassId) × Nat × (Nat → Nat)
def wG (w : Wt) : va_G := w.1
def wC (w : Wt) : Nat → ClassId := w.2.1
def wB (w : Wt) : Nat := w.2.2.1
def wO (w : Wt) : Nat → Nat := w.2.2.2
def wT (w : Wt) : List (ClassId × FieldType) := [(wC w 0, .int), (wC w 1, .boolean), (wC w 2, .int), (wC w 3, .object "GutterBoats$Tournament")]
def wA (w : Wt) : Nat → Prop := fun q => wB w ≤ q
abbrev Hs : Type := Nat → Option va_E
def PH (w : Wt) (hs : Hs) (n : Option Nat) (H : Heap) : Prop :=
  (∀ k, n = some k → H.size = wB w + k) ∧ ∀ (i : Nat) (e : va_E), hs i = some e → va_at (wG w) vwCl (wB w + i, e) H
def upH (hs : Hs) (i : Nat) (e : va_E) : Hs := fun j => if j = i then some e else hs j
theorem upH_s (hs : Hs) (i : Nat) (e : va_E) : upH hs i e i = some e := by simp [upH]
theorem upH_n {hs : Hs} {i j : Nat} {e : va_E} (h : j ≠ i) : upH hs i e j = hs j := by simp [upH, h]
theorem upH_up (hs : Hs) (i : Nat) (e e' : va_E) : upH (upH hs i e) i e' = upH hs i e' := by
  funext j; unfold upH; split <;> rfl
theorem PH.set {w : Wt} {hs : Hs} {n : Option Nat} {H H' : Heap} {i : Nat} {e : va_E} (hP : PH w hs n H) (he : va_at (wG w) vwCl (wB w + i, e) H') (z : H'.size = H.size) (o : ∀ q : Nat, q ≠ wB w + i → H'[q]? = H[q]?) : PH w (upH hs i e) n H' := by
  refine ⟨fun k h => by rw [z]; exact hP.1 k h, fun j e' h => ?_⟩
  unfold upH at h
  by_cases hj : j = i
  · rw [if_pos hj] at h
    subst hj
    cases h
    exact he
  · rw [if_neg hj] at h
    exact (hP.2 j e' h).kept (o _ (by show ¬ (wB w + j = wB w + i); omega))
theorem PH.push {w : Wt} {hs : Hs} {k : Nat} {H H' : Heap} {e : va_E} (hP : PH w hs (some k) H) (he : va_at (wG w) vwCl (wB w + k, e) H') (z : H'.size = H.size + 1) (o : ∀ q : Nat, q < H.size → H'[q]? = H[q]?) : PH w (upH hs k e) (some (k + 1)) H' := by
  refine ⟨fun j h => by cases h; rw [z, hP.1 k rfl]; rfl, fun j e' h => ?_⟩
  unfold upH at h
  by_cases hj : j = k
  · rw [if_pos hj] at h
    subst hj
    cases h
    exact he
  · rw [if_neg hj] at h
    have h1 := hP.2 j e' h
    exact h1.kept (o _ h1.lt)
theorem PH.any {w : Wt} {hs : Hs} {n : Option Nat} {H : Heap} (hP : PH w hs n H) : PH w hs none H := ⟨fun k h => (nomatch h), hP.2⟩
theorem PH.lt {w : Wt} {hs : Hs} {n : Option Nat} {H : Heap} (hP : PH w hs n H) {i : Nat} {e : va_E} (h : hs i = some e) : wB w + i < H.size := (hP.2 i e h).lt
/-- the class's written-out arrays: name, length, contents -/
def soN : Nat → String := fun k => match k with
  | 0 => "GUTTER_NUMBERS"
  | 1 => "BOAT_NUMBERS"
  | 2 => "LAUNCH_NUMBERS"
  | 3 => "MINUTES_NUMBERS"
  | 4 => "HOOK_NUMBERS"
  | 5 => "CLAIM_NUMBERS"
  | 6 => "SET_NUMBERS"
  | _ => "NO_NUMBERS"
def soV : Nat → List Int32 := fun k => match k with
  | 0 => [10, 4, 40, 1, 0, 5, 1, 0, 5, 10, 0, 39]
  | 1 => [1, 1, 9, 1, 0, 3, 1, 0, 3]
  | 2 => [1, 0, 9, 1, 0, 5]
  | 3 => [10, 1, 60]
  | 4 => [1, 0, 3, 1, 0, 5, 10, 0, 39]
  | 5 => [1, 0, 3, 1, 0, 9]
  | 6 => [1, 0, 2, 1, 0, 9]
  | _ => []
def soF (k : Nat) : Nat → Int32 := fun j => (soV k).getD j 0
/-- the three texts of throwFor: where they stand in the pool, what they say -/
def sxI : Nat → Nat := fun k => match k with
  | 0 => 237
  | 1 => 244
  | _ => 249
def sxT : Nat → String := fun k => match k with
  | 0 => "no such gutter, cell, boat, owner or save slot"
  | 1 => "an argument is out of its range"
  | _ => "not possible in this state"
/-- fields of nest mates, out of the pools -/
def nsts : List (String × Nat × String × String × String × String) := [("GutterBoats", 90, "GutterBoats$Tournament", "boats", "LGutterBoats$Table;", "GutterBoats"), ("GutterBoats", 161, "GutterBoats$Tournament", "refusals", "I", "GutterBoats"), ("GutterBoats", 177, "GutterBoats$History", "count", "I", "GutterBoats"), ("GutterBoats", 192, "GutterBoats$Table", "rows", "I", "GutterBoats"), ("GutterBoats", 211, "GutterBoats$Tournament", "heats", "I", "GutterBoats"), ("GutterBoats", 214, "GutterBoats$Tournament", "owners", "LGutterBoats$Table;", "GutterBoats"), ("GutterBoats", 226, "GutterBoats$Tournament", "minutesGone", "I", "GutterBoats"), ("GutterBoats$Text", 54, "GutterBoats", "GUTTER_NUMBERS", "[I", "GutterBoats"), ("GutterBoats$Text", 57, "GutterBoats", "BOAT_NUMBERS", "[I", "GutterBoats"), ("GutterBoats$Text", 60, "GutterBoats", "LAUNCH_NUMBERS", "[I", "GutterBoats"), ("GutterBoats$Text", 63, "GutterBoats", "MINUTES_NUMBERS", "[I", "GutterBoats"), ("GutterBoats$Text", 66, "GutterBoats", "HOOK_NUMBERS", "[I", "GutterBoats"), ("GutterBoats$Text", 69, "GutterBoats", "CLAIM_NUMBERS", "[I", "GutterBoats"), ("GutterBoats$Text", 72, "GutterBoats", "SET_NUMBERS", "[I", "GutterBoats"), ("GutterBoats$Text", 75, "GutterBoats", "NO_NUMBERS", "[I", "GutterBoats"), ("GutterBoats$Tournament", 29, "GutterBoats$Table", "rows", "I", "GutterBoats")]
/-- what lies in the heap from before: the two statics of Throwable, the three texts, the eight arrays -/
def OL (w : Wt) (s : State) : Prop :=
  wB w ≤ s.heap.size ∧ vx_Zq Bundle.tN "UNASSIGNED_STACK" Bundle.steD (wA w) s s.heap ∧ vx_Zq Bundle.tN "SUPPRESSED_SENTINEL" Bundle.listD (wA w) s s.heap ∧
  (∀ k, k < 3 → ∃ a, vk_R "GutterBoats" (sxI k) (sxT k) a s) ∧ (∀ q ∈ nsts, va_Nw (.fieldLinkNest q.1 q.2.1 q.2.2.1 q.2.2.2.1 q.2.2.2.2.1 q.2.2.2.2.2) s) ∧ va_AO "GutterBoats$Tournament" s ∧
  ∀ k, k < 8 → va_Z "GutterBoats" (soN k) "[I" (.ref (wO w k)) (wA w) s s.heap ∧ wO w k < wB w ∧ va_X (wO w k) (soV k).length (soF k) s s.heap
theorem OL.to {w : Wt} {s U : State} {H : Heap} {locs : List Loc} (h : OL w s) (hW : s.WarmedH U.vm) (hU : U.heap = H) (hS : va_S (wA w) s.heap H locs) : OL w U := by
  obtain ⟨h0, h1, h2, h3, hn1, ha1, h4⟩ := h
  have hk : ∀ a : Nat, a < s.heap.size → ¬ wA w a → U.heap[a]? = s.heap[a]? := fun a q1 q2 => by rw [hU]; exact hS.2.1 a q1 q2
  refine ⟨Nat.le_trans h0 (by rw [hU]; exact hS.1), (h1.moved hW.alike).kept hk, (h2.moved hW.alike).kept hk, fun k hk3 => ?_, fun q hq => (hn1 q hq).warmF hW, ha1.moved hW.alike, fun k hk8 => ?_⟩
  · obtain ⟨a, ha⟩ := h3 k hk3
    exact ⟨a, ha.warm hW⟩
  · obtain ⟨q1, q2, q3⟩ := h4 k hk8
    have hn : ¬ wA w (wO w k) := Nat.not_le.mpr q2
    exact ⟨(q1.moved hW.alike).kept hk, q2, (q3.kept (hk _ (Nat.lt_of_lt_of_le q2 h0) hn)).moved hW.alike⟩
theorem OL.same {w : Wt} {u U : State} (hv : U.vm = u.vm) (hh : U.heap = u.heap) (h : OL w u) : OL w U := by
  obtain ⟨h0, h1, h2, h3, hn1, ha1, h4⟩ := h
  have hA : u.vm.Alike U.vm := by rw [hv]; exact Vm.Alike.refl _
  unfold OL
  rw [hh]
  refine ⟨h0, h1.moved hA, h2.moved hA, fun k hk3 => ?_, fun q hq => va_Nw.same rfl hv.symm (hn1 q hq), ha1.moved hA, fun k hk8 => ?_⟩
  · obtain ⟨a, ha⟩ := h3 k hk3
    exact ⟨a, ha.same hv⟩
  · obtain ⟨q1, q2, q3⟩ := h4 k hk8
    exact ⟨q1.moved hA, q2, q3.moved hA⟩
def WS (w : Wt) (hs : Hs) (n : Option Nat) (U : State) : Prop := PH w hs n U.heap ∧ va_K (wG w) vwCl (wT w) U ∧ OL w U
theorem WS_blind (w : Wt) (hs : Hs) (n : Option Nat) (av : List Value) : FrameBlind (va_Pc av (WS w hs n)) := by
  intro a U g mk q
  obtain ⟨q0, qP, qK, qO⟩ := q
  exact ⟨q0, qP, va_K.moved (u := U) (U := U.calling g mk a) (Vm.Alike.refl U.vm) qK, OL.same (u := U) (U := U.calling g mk a) rfl rfl qO⟩
/-- a method: name, bytes, locals, what it hands back, frames and words of locals below it -/
abbrev MD : Type := MethodName × ByteArray × Nat × Option FieldType × Nat × Nat
def mws (d : MD) : List Cond := .code d.1 d.2.1 d.2.2.1 d.2.2.2.1 :: WA
def mrm (d : MD) (mc ms : Nat) : Room := { frames := d.2.2.2.2.1, cells := mc, slots := ms, locals := d.2.2.2.2.2 }
def Qn (w : Wt) (hs' : Hs) (n' : Option Nat) (v : Option Value) : Array Value → State → Outcome → State → Prop := fun _ st o t =>
  o = .returned v ∧ PH w hs' n' t.heap ∧ va_F (wA w) st t
/-- A CALL: with these arguments, from a heap with the cells hs, the method hands back v and leaves the cells hs' -/
def Cn (l : Launch) (w : Wt) (d : MD) (mc ms : Nat) (av : List Value) (hs : Hs) (n : Option Nat) (hs' : Hs) (n' : Option Nat) (v : Option Value) : Prop :=
  Met l d.1 (mws d) (mrm d mc ms) (va_Pc av (WS w hs n)) (Qn w hs' n' v) mc ms (wA w)
/-- what holds all through a method's body -/
def Ctx (p : Program) (s : State) (m : MethodId) (args : Array Value) (meth : Method) (c : Code) (R : Room) (w : Wt) (own nm : String) (cc : ByteArray) (nL : Nat) (rt : Option FieldType) (fr lo mc ms : Nat) : Prop :=
  p.tables.exec = Jvm.exec ∧ c.code = cc ∧ c.maxLocals = nL ∧ s.vm.findClass own = some m.cls ∧ (∀ x ∈ WA, x.before args s = true) ∧ meth.locks = false ∧ meth.sig.returnType = rt ∧
  (R.frames = fr ∧ R.locals = lo ∧ R.cells = mc ∧ R.slots = ms) ∧ va_K (wG w) vwCl (wT w) s ∧ OL w s ∧ meth.name = nm
/-- INSIDE A BODY: at pc, with these locals and this stack and these cells, the machine comes to Q -/
def ZW (p : Program) (l : Launch) (e : Env) (R : Room) (s : State) (m : MethodId) (args : Array Value) (below : List Frame) (meth : Method) (c : Code) (w : Wt) (nL : Nat) (hs : Hs) (n : Option Nat) (cells slots : Nat) (Q : State → Prop) (pc : Nat) (lv : List (Nat × Value)) (st : List Value) : Prop :=
  ∀ (H : Heap) (locs : List Loc) (ls : Array Slot), PH w hs n H → va_S (wA w) s.heap H locs → lv_has ls nL lv → W p l e R s m args below meth c H locs cells slots Q (F0 m pc ls st)
def lkL : List (Nat × Value) → Nat → Option Value
  | [], _ => none
  | q :: t, i => if q.1 = i then some q.2 else lkL t i
theorem lkL_mem : ∀ (lv : List (Nat × Value)) (i : Nat) (v : Value), lkL lv i = some v → (i, v) ∈ lv
  | [], _, _, h => by cases h
  | q :: t, i, v, h => by
    unfold lkL at h
    by_cases hq : q.1 = i
    · rw [if_pos hq] at h
      cases h
      rw [← hq]
      exact List.mem_cons_self
    · rw [if_neg hq] at h
      exact List.mem_cons_of_mem _ (lkL_mem t i v h)
theorem lkL_at {ls : Array Slot} {nL : Nat} {lv : List (Nat × Value)} {i : Nat} {v : Value} (h : lv_has ls nL lv) (hv : lkL lv i = some v) : ls[i]? = some (.val v) := h.2.2 (i, v) (lkL_mem lv i v hv)
def stL (lv : List (Nat × Value)) (i : Nat) (v : Value) : List (Nat × Value) := (i, v) :: lv.filter (fun q => !(q.1 == i) && !(q.1 + 1 == i && q.2.category == 2))
def stL2 (lv : List (Nat × Value)) (i : Nat) (v : Value) : List (Nat × Value) := (i, v) :: lv.filter (fun q => !(q.1 == i) && (!(q.1 == i + 1) && !(q.1 + 1 == i && q.2.category == 2)))
def subL : List (Nat × Value) → List (Nat × Value) → Prop
  | [], _ => True
  | q :: t, lv => lkL lv q.1 = some q.2 ∧ subL t lv
theorem subL_mem : ∀ (lv' lv : List (Nat × Value)), subL lv' lv → ∀ q ∈ lv', q ∈ lv
  | [], _, _, _, h => by cases h
  | a :: t, lv, h, q, hq => by
    rcases List.mem_cons.mp hq with e | e
    · rw [e]; exact lkL_mem lv a.1 a.2 h.1
    · exact subL_mem t lv h.2 q e
