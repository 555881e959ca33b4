/-! the class against the reference: what ties their states -/
theorem OKr.ext {f f' : Nat → Int32} (h : OKr f) (E : ∀ j, j < 157 → f' j = f j) : OKr f' := by
  have e1 : gN f' = gN f := gN_e (E _ (by omega))
  have e2 : bN f' = bN f := bN_e (E _ (by omega))
  refine ⟨?_, ?_, ?_⟩
  · rw [e1, e2]; exact h.1.ext E
  · rw [e2]; exact h.2.1.ext (by have := h.2.2; omega) E
  · rw [e2]; exact h.2.2
theorem sF_ext {f f' : Nat → Int32} {x : Int32} (E : ∀ j, j < 157 → f' j = f j) : sF f x = sF f' x := by
  have a0 := E 154 (by omega)
  have a1 := E 155 (by omega)
  have a2 := E 156 (by omega)
  have a3 := E 148 (by omega)
  have a4 := E 149 (by omega)
  have a5 := E 150 (by omega)
  unfold sF
  rw [a0, a1, a2, a3, a4, a5]
theorem gF_ext {f f' : Nat → Int32} {z : Nat → Nat → Int32} (h6 : gN f ≤ 6) (h9 : bN f ≤ 10) (E : ∀ j, j < 157 → f' j = f j) : gF f z = gF f' z := by
  have e1 : gN f' = gN f := gN_e (E _ (by omega))
  have e2 : bN f' = bN f := bN_e (E _ (by omega))
  have b0 : (fun j => if j < 4 * gN f then f j else z 0 j) = fun j => if j < 4 * gN f then f' j else z 0 j := by
    funext j
    by_cases c : j < 4 * gN f
    · rw [if_pos c, if_pos c]; exact (E j (by omega)).symm
    · rw [if_neg c, if_neg c]
  have b1 : (fun j => if j < 10 * bN f then nv f (j / 10) (j % 10) else z 1 j) = fun j => if j < 10 * bN f then nv f' (j / 10) (j % 10) else z 1 j := by
    funext j
    by_cases c : j < 10 * bN f
    · rw [if_pos c, if_pos c]; exact (nv_e (fun c9 hc9 => E _ (by omega)) (by omega)).symm
    · rw [if_neg c, if_neg c]
  have b2 : (fun j => if j < 12 then f (134 + j) else z 2 j) = fun j => if j < 12 then f' (134 + j) else z 2 j := by
    funext j
    by_cases c : j < 12
    · rw [if_pos c, if_pos c]; exact (E _ (by omega)).symm
    · rw [if_neg c, if_neg c]
  unfold gF
  rw [e1, e2, b0, b1, b2]
theorem rF_ext {f f' : Nat → Int32} (E : ∀ j, j < 157 → f' j = f j) : rF f = rF f' := by
  unfold rF
  rw [gN_e (E _ (by omega)), bN_e (E _ (by omega))]
theorem nT_ext {f f' : Nat → Int32} {x : Int32} {z : Nat → Nat → Int32} (h : OKr f) (E : ∀ j, j < 157 → f' j = f j) : nT f x z = nT f' x z := by
  show (sF f x, gF f z, rF f) = (sF f' x, gF f' z, rF f')
  rw [sF_ext E, gF_ext h.1.1.2.1 h.2.2 E, rF_ext E]
/-! the refusals stay as they are through all but a refused claim -/
theorem gmi_152 {f : Nat → Int32} {ng nb : Nat} (h : RI f ng nb) : (gmi f nb).2 152 = f 152 := by
  have h9 := h.2.2.1
  have e : (gmb f nb nb).2 152 = f 152 := gmb_n (by omega) (by omega) nb (fun b hb => by omega)
  show (if _ then _ else _ : Nat → Int32) 152 = _
  split
  · rw [ehe_n h9 (RI_gmb h nb (Nat.le_refl nb)).own (fun b hb => by omega) (fun b hb => by omega) (fun o ho => by omega) (by omega) (by omega) (by omega)]; exact e
  · exact e
theorem gms_152 {ng nb : Nat} : ∀ (k : Nat) (f : Nat → Int32), RI f ng nb → (gms nb k f).2 152 = f 152
  | 0, _, _ => rfl
  | k + 1, f, h => (gmi_152 (RI_gms k f h)).trans (gms_152 k f h)
theorem lnF_152 {f : Nat → Int32} {nb b : Nat} {g : Int32} (hb : b < 11) : lnF f nb b g 152 = f 152 := by
  unfold lnF
  rw [pk_un (by omega), pk_un (by omega), pk_un (by omega), pk_un (by omega)]
  unfold ln1
  split
  · rw [pk_un (by omega), pk_un (by omega), pk_un (by omega)]
  · rfl
theorem pf_152 {f : Nat → Int32} {v a b c d : Int32} (h : OKr f) : (pf f v a b c d).2 152 = f 152 := by
  have h6 := h.1.1.2.1
  have h9 := h.2.2
  unfold pf
  split
  · unfold pfG
    split
    · show adgF f (gN f) a b c d 152 = f 152
      exact adgF_n (by omega) (by omega)
    · rfl
  split
  · unfold pfB
    split
    · show adbF f (bN f) a b c 152 = f 152
      exact adbF_n (by omega) (by omega)
    · rfl
  split
  · unfold pfL
    split
    · rename_i q
      obtain ⟨i, i1, i2, i3⟩ := nI_box (by omega) q.1.1
      rw [i3]; exact lnF_152 (by omega)
    · rfl
  split
  · unfold pfM
    split
    · exact gms_152 _ _ h.1
    · rfl
  split
  · unfold pfH
    split
    · rename_i q
      obtain ⟨o, o1, o2, o3, o4⟩ := nI_le9 (a := 0) (b := 3) (by omega) (by omega) q.1
      rw [o4]
      show hokF f o b c 152 = _
      unfold hokF; rw [pk_un (by omega), pk_un (by omega)]
    · rfl
  split
  · unfold pfC
    split
    · rename_i q
      obtain ⟨o, o1, o2, o3, o4⟩ := nI_le9 (a := 0) (b := 3) (by omega) (by omega) q.1.1
      obtain ⟨i, i1, i2, i3⟩ := nI_box (by omega) q.1.2
      rw [o4, i3] at q ⊢
      show clmF f o i 152 = _
      unfold clmF; rw [if_pos q.2, pk_un (by omega), pk_un (by omega)]
    · rfl
  split
  · unfold pfS
    split
    · rename_i q
      obtain ⟨k9, k1, k2, k3⟩ := isSetP_k q
      rw [k3]; exact pk_un (by omega)
    · rfl
  · rfl
theorem pfV_152 {t : Nat → Int32} {len y : Nat} {f : Nat → Int32} (h : OKr f) : (pfV t len y f).2 152 = f 152 := pf_152 h
theorem reR_152 {t : Nat → Int32} {len : Nat} : ∀ (j y : Nat) (sg dg f : Nat → Int32) (cn : Int32), OKr f → (reR t len j y sg dg f cn).2.2.1 152 = f 152
  | 0, _, _, _, _, _, _ => rfl
  | j + 1, y, sg, dg, f, cn, h => by
    rw [reR]
    split
    · rw [reR_152 j _ _ _ _ _ (pfV_ok h)]; exact pfV_152 h
    · rfl
/-- a remembered state of the class, as the reference has it -/
def RQ (F : Nat → Int32) (X : Int32) (f : Nat → Int32) : Prop := X = f 152 ∧ ∀ j, j < 157 → F j = f j
theorem RQ.ext {F f f' : Nat → Int32} {X : Int32} (h : RQ F X f) (E : ∀ j, j < 157 → f' j = f j) : RQ F X f' := ⟨h.1.trans (E _ (by omega)).symm, fun j hj => (h.2 j hj).trans (E j hj).symm⟩
/-- the ring holds what the book holds -/
def RG (a ct : Nat) (F : Nat → Nat → Int32) (X : Nat → Int32) (B : Nat → Int32) : Prop := ∀ i, i < ct → OKr (sl B i) ∧ RQ (F ((a + 14 - ct + i) % 14)) (X ((a + 14 - ct + i) % 14)) (sl B i)
/-- the slots -/
def SG (bs : Nat → Int32) (F : Nat → Nat → Int32) (X : Nat → Int32) (A : Nat → Nat → Int32) : Prop := ∀ i, i < 2 → bs i = A 5 i ∧ (A 5 i ≠ 0 → OKr (sl (A 4) i) ∧ RQ (F i) (X i) (sl (A 4) i))
theorem SG.ext {bs : Nat → Int32} {F : Nat → Nat → Int32} {X : Nat → Int32} {A A' : Nat → Nat → Int32} (h : SG bs F X A) (h4 : A' 4 = A 4) (h5 : A' 5 = A 5) : SG bs F X A' := by
  intro j hj; rw [h4, h5]; exact h j hj
/-- THE TIE -/
def INV (len a ct : Nat) (sg : Nat → Int32) (F : Nat → Nat → Int32) (X : Nat → Int32) (bs : Nat → Int32) (Fs : Nat → Nat → Int32) (Xs : Nat → Int32) (u : Nat → Int32) (A : Nat → Nat → Int32) : Prop :=
  sg 0 = nI len ∧ len ≤ 120 ∧ u 2 = nI len ∧ OKr (A 0) ∧ u 1 = nI ct ∧ ct ≤ 14 ∧ a < 14 ∧ RG a ct F X (A 3) ∧ SG bs Fs Xs A
abbrev SZ : Type := Nat → Nat → Int32
abbrev SZZ : Type := Nat → Nat → Nat → Int32
/-- the law's heap -/
def LH (w : Wt) (k : Nat) (g : Nat → Int64) (u : Nat → Int32) (A : Nat → Nat → Int32) (T : TXs) (N C : TTs) (Y : HIs) (S : SHs) : Hs := GB w (modH w (upH (fun _ => none) (k + 145) (.inl (wC w 2, 1, .inr (.inl g)))) (k + 137) u A) k T N C Y S
def LI (w : Wt) (k : Nat) (g : Nat → Int64) (u : Nat → Int32) (A : Nat → Nat → Int32) (H : Hs) : Prop :=
  ∃ (len a ct : Nat) (sg d : Nat → Int32) (z : SZ) (C : TTs) (b : Nat → Int32) (F : Nat → Nat → Int32) (X : Nat → Int32) (Z : SZZ) (bs : Nat → Int32) (Fs : Nat → Nat → Int32) (Xs : Nat → Int32) (Zs : SZZ), INV len a ct sg F X bs Fs Xs u A ∧ H = LH w k g u A (sg, A 6, d) (nT (A 0) (A 0 152) z) C (nI a, nI ct, b, F, X, Z) (bs, Fs, Xs, Zs)
section
variable {w : Wt} {k : Nat} {g : Nat → Int64} {u : Nat → Int32} {A : Nat → Nat → Int32} {T : TXs} {N C : TTs} {Y : HIs} {S : SHs}
theorem lh_m : LH w k g u A T N C Y S (k + 137) = some (.inr (6, [.int (u 0), .ref (wB w + (k + 137 + 1)), .ref (wB w + (k + 137 + 2)), .ref (wB w + (k + 137 + 3)), .ref (wB w + (k + 137 + 4)), .int (u 1), .ref (wB w + (k + 137 + 5)), .ref (wB w + (k + 137 + 6)), .ref (wB w + (k + 137 + 7)), .int (u 2), .int (u 3), .int (u 4), .int (u 5)])) := (gb_n (by omega)).trans mo_0
theorem lh_o : LH w k g u A T N C Y S (k + 145) = some (.inl (wC w 2, 1, .inr (.inl g))) := (gb_n (by omega)).trans ((if_neg (by omega)).trans (upH_s _ _ _))
theorem lh_up {g' : Nat → Int64} : upH (LH w k g u A T N C Y S) (k + 145) (.inl (wC w 2, 1, .inr (.inl g'))) = LH w k g' u A T N C Y S := by
  unfold LH
  rw [gb_U (by omega), sw_UP_MD (by omega), upH_up]
end
