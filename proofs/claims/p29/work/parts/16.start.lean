/-! the start: what the Statement gives of the heap from before -/
theorem so_get {args : Array Value} {s : State} {t : Term} {n : Nat} {f : Nat → Int32} (hn : n < 2 ^ 31) (h1 : (Cond.arrayOf t .int).before args s = true) (h2 : (Cond.eq (.length t) (.int (nI n))).before args s = true) (h3 : ∀ j, j < n → (Cond.eq (.elem t (.int (nI j))) (.int (f j))).before args s = true) : ∃ a : Nat, t.eval args s none [] s = some (.ref a) ∧ va_X a n f s s.heap ∧ a < s.heap.size := by
  obtain ⟨y, hy1, hy2⟩ := Cond.eq_one (show (Cond.eq (.length t) (.int (nI n))).holds args s none s [] = true from h2)
  obtain ⟨a, cell, ht, ha, hv⟩ := Term.length_spec hy1
  have hsz : cell.slots.size < 2 ^ 31 := by
    simp only [Term.eval, ht, ha, Option.bind_eq_bind, Option.bind_some] at hy1
    by_cases hlt : cell.slots.size < 2147483648
    · exact hlt
    · simp [hlt] at hy1
  have hy3 : y = .int (nI n) := (Option.some.inj hy2).symm
  have hs : cell.slots.size = n := by
    have e : Value.int cell.slots.size.toInt32 = .int (nI n) := hv.symm.trans hy3
    have e2 : nI cell.slots.size = nI n := Value.int.inj e
    exact (nI_eq hsz hn).mp e2
  obtain ⟨hc, hu, -⟩ := State.arrayAt?_spec ha
  have hof := Cond.arrayOf_spec h1 ht hc
  refine ⟨a, ht, ⟨cell, hc, hof.1, hof.2, hs, fun j hj => ?_⟩, (Array.getElem?_eq_some_iff.mp hc).1⟩
  obtain ⟨v, e1, e2⟩ := Cond.eq_one (show (Cond.eq (.elem t (.int (nI j))) (.int (f j))).holds args s none s [] = true from h3 j hj)
  obtain ⟨a', j', cell', t', i', arr', -, slot⟩ := Term.elem_spec e1
  have ea : a' = a := by have := t'.symm.trans ht; simpa using this
  subst ea
  have ec : cell' = cell := Option.some.inj (arr'.symm.trans ha)
  subst ec
  have ej : j' = nI j := (Value.int.inj (Option.some.inj i')).symm
  subst ej
  rw [nI_clamp (by omega)] at slot
  rw [slot]
  exact e2.symm
def stT (k : Nat) : Term := .static "GutterBoats" (soN k) "[I"
theorem so_mem : ∀ k, k < 8 → (Cond.arrayOf (stT k) .int ∈ flatC (Jvm.Cond.and given_1 narrow_1) ∧ Cond.eq (.length (stT k)) (.int (nI (soV k).length)) ∈ flatC (Jvm.Cond.and given_1 narrow_1)) ∧ ∀ j, j < (soV k).length → Cond.eq (.elem (stT k) (.int (nI j))) (.int (soF k j)) ∈ flatC (Jvm.Cond.and given_1 narrow_1) := by decide +kernel
theorem so_lay : ∀ k, k < 8 → Cond.laysStatic "GutterBoats" (soN k) "[I" ∈ lw_tbl := by decide +kernel
theorem so_len : ∀ k, k < 8 → (soV k).length < 100 := by decide
theorem ns_tb : ∀ q ∈ nsts, Cond.fieldLinkNest q.1 q.2.1 q.2.2.1 q.2.2.2.1 q.2.2.2.2.1 q.2.2.2.2.2 ∈ lw_tbl := by decide +kernel
theorem sx_tb : ∀ k, k < 3 → Cond.stringRef "GutterBoats" (sxI k) (sxT k) ∈ lw_tbl := by decide +kernel
theorem arr_of {s : State} {args : Array Value} {ty : FieldType} (h : (Cond.arrayClass ty).before args s = true) (ht : ∀ C, ty ≠ .object C) : ∃ cA : ClassId, ArrOfT s cA ty ∧ va_RA s cA ty := by
  obtain ⟨cA, kA, comp, h1, h2, h3⟩ := Cond.arrayClass_spec (show (Cond.arrayClass ty).holds args s none s [] = true from h)
  refine ⟨cA, fun n z => ⟨fun k h => (by cases h), kA, h2, comp, h3⟩, ?_⟩
  cases ty with
  | object C => exact absurd rfl (ht C)
  | _ => exact h1
theorem arr_ob {s : State} {args : Array Value} {C : String} (h : (Cond.arrayOver (.object C)).before args s = true) : ∃ cA : ClassId, ArrOfT s cA (.object C) ∧ va_RA s cA (.object C) := by
  obtain ⟨comp, cA, kA, h1, h2, h3, h4, h5⟩ := Cond.arrayOver_spec (show (Cond.arrayOver (.object C)).holds args s none s [] = true from h)
  exact ⟨cA, fun n z => ⟨fun k h => (by cases h), kA, h3, comp, h4⟩, kA, comp, h3, h4, h1, h5⟩
set_option maxHeartbeats 4000000 in
theorem st_world {s : State} {args : Array Value} (hts : ∀ w ∈ lw_tbl, w.before args s = true) (hgv : (Jvm.Cond.and given_1 narrow_1).before args s = true) : ∃ w : Wt, wB w = s.heap.size ∧ va_K (wG w) vwCl (wT w) s ∧ OL w s := by
  have hf := flat_of_before _ hgv
  have hwa : ∀ x ∈ WA, x.before args s = true := fun x hx => hts x (List.mem_filter.mp hx).1
  obtain ⟨c0, i0, k0⟩ := u_known (C := RX0) (T := TX0) (N := 3) (n := 3) hwa wsi_X0 (hts (.instantiable RX0 3) (by decide +kernel))
  obtain ⟨c1, i1, k1⟩ := u_known (C := RX1) (T := TX1) (N := 2) (n := 2) hwa wsi_X1 (hts (.instantiable RX1 2) (by decide +kernel))
  obtain ⟨c2, i2, k2⟩ := u_known (C := RX2) (T := TX2) (N := 3) (n := 3) hwa wsi_X2 (hts (.instantiable RX2 3) (by decide +kernel))
  obtain ⟨c3, i3, k3⟩ := u_known (C := RX3) (T := TX3) (N := 5) (n := 5) hwa wsi_X3 (hts (.instantiable RX3 5) (by decide +kernel))
  obtain ⟨c4, i4, k4⟩ := u_known (C := RX4) (T := TX4) (N := 10) (n := 10) hwa wsi_X4 (hts (.instantiable RX4 10) (by decide +kernel))
  obtain ⟨c5, i5, k5⟩ := u_known (C := RX5) (T := TX5) (N := 5) (n := 5) hwa wsi_X5 (hts (.instantiable RX5 5) (by decide +kernel))
  obtain ⟨dC, dI, hKc⟩ : ∃ (dC : Nat → ClassId) (dI : Nat → Nat → Nat), ∀ (k : Nat) (q : vw_C), vwCl[k]? = some q → u_Kn s q.1 q.2.1 q.2.2 (dC k) (dI k) := by
    refine ⟨fun k => match k with | 0 => c0 | 1 => c1 | 2 => c2 | 3 => c3 | 4 => c4 | _ => c5, fun k => match k with | 0 => i0 | 1 => i1 | 2 => i2 | 3 => i3 | 4 => i4 | _ => i5, ?_⟩
    intro k q hq
    match k, hq with
    | 0, hq => cases hq; exact k0
    | 1, hq => cases hq; exact k1
    | 2, hq => cases hq; exact k2
    | 3, hq => cases hq; exact k3
    | 4, hq => cases hq; exact k4
    | 5, hq => cases hq; exact k5
    | k + 6, hq => simp [vwCl] at hq
  obtain ⟨a0, a1, a2⟩ := arr_of (hts (.arrayClass .int) (by decide +kernel)) (fun C h => by cases h)
  obtain ⟨b0, b1, b2⟩ := arr_of (hts (.arrayClass .boolean) (by decide +kernel)) (fun C h => by cases h)
  have hao := hts (.arrayOver (.object "GutterBoats$Tournament")) (by decide +kernel)
  obtain ⟨f0, f1, f2⟩ := arr_ob hao
  have hso : ∀ k, ∃ a : Nat, k < 8 → ((stT k).eval args s none [] s = some (.ref a) ∧ va_X a (soV k).length (soF k) s s.heap ∧ a < s.heap.size) := by
    intro k
    by_cases hk : k < 8
    · obtain ⟨⟨m1, m2⟩, m3⟩ := so_mem k hk
      have := so_len k hk
      obtain ⟨a, ha⟩ := so_get (t := stT k) (n := (soV k).length) (f := soF k) (by omega) (hf _ m1) (hf _ m2) (fun j hj => hf _ (m3 j hj))
      exact ⟨a, fun _ => ha⟩
    · exact ⟨0, fun h => absurd h hk⟩
  refine ⟨((dC, dI), (fun k => match k with | 0 => a0 | 1 => b0 | 2 => a0 | _ => f0), s.heap.size, fun k => Classical.choose (hso k)), rfl, ⟨hKc, fun k q hq => ?_⟩, Nat.le_refl _, ?_, ?_, ?_, ?_, va_AO.of hao, fun k hk => ?_⟩
  · match k, hq with
    | 0, hq => cases hq; exact ⟨a1, a2⟩
    | 1, hq => cases hq; exact ⟨b1, b2⟩
    | 2, hq => cases hq; exact ⟨a1, a2⟩
    | 3, hq => cases hq; exact ⟨f1, f2⟩
    | k + 4, hq => simp [wT] at hq
  · exact vx_Zqof (hts _ (show Cond.laysStatic Bundle.tN "UNASSIGNED_STACK" Bundle.steD ∈ lw_tbl by decide +kernel)) (hts _ (show Cond.initialized Bundle.tN ∈ lw_tbl by decide +kernel)) (hf _ (show Cond.isRef (.static Bundle.tN "UNASSIGNED_STACK" Bundle.steD) ∈ _ by decide +kernel)) (fun a ha => Nat.not_le.mpr ha)
  · exact vx_Zqof (hts _ (show Cond.laysStatic Bundle.tN "SUPPRESSED_SENTINEL" Bundle.listD ∈ lw_tbl by decide +kernel)) (hts _ (show Cond.initialized Bundle.tN ∈ lw_tbl by decide +kernel)) (hf _ (show Cond.isRef (.static Bundle.tN "SUPPRESSED_SENTINEL" Bundle.listD) ∈ _ by decide +kernel)) (fun a ha => Nat.not_le.mpr ha)
  · intro k hk
    have h1 := hts _ (sx_tb k hk)
    obtain ⟨_, _, _, a, -, -, -, -, -, h2⟩ := Cond.stringRef_spec (args := args) (first := s) (o := none) (idx := []) k5.2.1 h1
    exact ⟨a, vk_R.of h1 h2⟩
  · exact fun q hq => va_Nw.of rfl (hts _ (ns_tb q hq))
  · have h := Classical.choose_spec (hso k) hk
    exact ⟨va_Zof (hts _ (so_lay k hk)) (hts (.initialized "GutterBoats") (by decide +kernel)) h.1 (fun a ha => Nat.not_le.mpr ha), h.2.2, h.2.1⟩
