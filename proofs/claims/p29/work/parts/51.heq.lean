/-! two pictures of one heap: arrays that agree below their length -/
theorem arrV_c {c : ClassId} {N : Nat} {f g : Nat → Value} (h : ∀ j, j < N → f j = g j) : arrV c N f = arrV c N g := by
  unfold arrV
  rw [show (fun j : Fin N => f j.val) = fun j : Fin N => g j.val from funext fun j => h j.val j.isLt]
def EE (a b : Option va_E) : Prop := a = b ∨ ∃ (c : ClassId) (len : Nat) (f f' : Nat → Int32), a = some (.inl (c, len, .inl f)) ∧ b = some (.inl (c, len, .inl f')) ∧ ∀ j, j < len → f j = f' j
def HE (a b : Hs) : Prop := ∀ i, EE (a i) (b i)
theorem EE.symm {a b : Option va_E} (h : EE a b) : EE b a := by
  rcases h with h | ⟨c, len, f, f', h1, h2, h3⟩
  · exact Or.inl h.symm
  · exact Or.inr ⟨c, len, f', f, h2, h1, fun j hj => (h3 j hj).symm⟩
theorem HE.symm {a b : Hs} (h : HE a b) : HE b a := fun i => (h i).symm
theorem PH.he {w : Wt} {a b : Hs} {n : Option Nat} {H : Heap} (h : HE a b) (hP : PH w a n H) : PH w b n H := by
  refine ⟨hP.1, fun i e he => ?_⟩
  rcases h i with q | ⟨c, len, f, f', h1, h2, h3⟩
  · exact hP.2 i e (q.trans he)
  · rw [h2] at he
    cases he
    have h4 := hP.2 i _ h1
    show H[wB w + i]? = some (vp_cell c (len, .inl f'))
    have h5 : H[wB w + i]? = some (vp_cell c (len, .inl f)) := h4
    rw [h5, vp_cell_i, vp_cell_i, arrV_c (fun j hj => by rw [h3 j hj])]
theorem PH_he {w : Wt} {a b : Hs} (h : HE a b) : PH w a = PH w b := by
  funext n H
  exact propext ⟨fun q => q.he h, fun q => q.he h.symm⟩
theorem Cn.he {l : Launch} {w : Wt} {d : MD} {c1 s1 : Nat} {av : List Value} {hs hs9 hs8 : Hs} {n n9 : Option Nat} {v : Option Value} (h : HE hs9 hs8) (hC : Cn l w d c1 s1 av hs n hs9 n9 v) : Cn l w d c1 s1 av hs n hs8 n9 v := by
  have e : Qn w hs9 n9 v = Qn w hs8 n9 v := by unfold Qn; rw [PH_he h]
  unfold Cn at hC ⊢
  rw [e] at hC
  exact hC
section
variable {p : Program} {l : Launch} {e : Env} {R : Room} {s : State} {m : MethodId} {args : Array Value} {below : List Frame} {meth : Method} {c : Code} {w : Wt} {nL : Nat} {hs hs9 : Hs} {n : Option Nat} {cells slots : Nat} {Q : State → Prop} {pc : Nat} {lv : List (Nat × Value)} {st : List Value}
end
theorem gtl_st {f : Nat → Int32} {ng nb b j : Nat} (hb : b < nb) (h : RI f ng nb) (hs : f (24 + 10 * b + 3) = 1) (hK : ∃ K, f (24 + 10 * b + 6) = nI K ∧ K ≤ 93 ∧ 94 ≤ j + 1 + K) : (gmi f nb).2 (24 + 10 * b + 3) = 1 → ∃ K, (gmi f nb).2 (24 + 10 * b + 6) = nI K ∧ K ≤ 93 ∧ 94 ≤ j + K := by
  intro q
  obtain ⟨K, e1, k1, k2⟩ := hK
  obtain ⟨K2, k3, e2⟩ := (RI_gmi h).soak hb q
  obtain ⟨r, m, d, b1, b2, b3, b4, b5, b6, b7⟩ := h.2.2.2.2.1
  have e3 := gmi_soak h hb hs q
  rw [e1, b5, e2, show (1 : Int32) + nI r = nI (1 + r) from nI_add 1 r, nI_add] at e3
  have := (nI_eq (by omega) (by omega)).mp e3
  exact ⟨K2, e2, k3, by omega⟩
