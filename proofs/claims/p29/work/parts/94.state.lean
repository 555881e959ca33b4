/-! AN OBJECT'S STATE, as calls can show it: the text, the row, the rows remembered (the newest first), the slots -/
abbrev ZS : Type := (Nat × (Nat → Int32)) × (Nat → Int32) × List (Nat → Int32) × (Nat → Option (Nat → Int32))
abbrev zsL (σ : ZS) : Nat := σ.1.1
abbrev zsT (σ : ZS) : Nat → Int32 := σ.1.2
abbrev zsF (σ : ZS) : Nat → Int32 := σ.2.1
abbrev zsB (σ : ZS) : List (Nat → Int32) := σ.2.2.1
abbrev zsK (σ : ZS) : Nat → Option (Nat → Int32) := σ.2.2.2
abbrev remL (f : Nat → Int32) (B : List (Nat → Int32)) : List (Nat → Int32) := (f :: B).take 14
abbrev actS (σ : ZS) (f : Nat → Int32) : ZS := (σ.1, f, remL (zsF σ) (zsB σ), zsK σ)
def RGl (a9 : Nat) (B : List (Nat → Int32)) (Fh : Nat → Nat → Int32) (Xh : Nat → Int32) : Prop := ∀ i f, B[i]? = some f → Fh ((a9 + 13 - i) % 14) = f ∧ Xh ((a9 + 13 - i) % 14) = f 152
theorem RGl.act {a9 : Nat} {B : List (Nat → Int32)} {Fh : Nat → Nat → Int32} {Xh : Nat → Int32} {f : Nat → Int32} (h : RGl a9 B Fh Xh) (ha : a9 < 14) : RGl ((a9 + 1) % 14) (remL f B) (fun q => if q = a9 then f else Fh q) (fun q => if q = a9 then f 152 else Xh q) := by
  intro i g hi
  have hi14 : i < 14 := by
    rcases Nat.lt_or_ge i 14 with q | q
    · exact q
    · rw [List.getElem?_eq_none (by show (List.take 14 (f :: B)).length ≤ i; rw [List.length_take]; omega)] at hi; cases hi
  rw [show (remL f B)[i]? = (f :: B)[i]? from List.getElem?_take_of_lt hi14] at hi
  cases i with
  | zero =>
    obtain rfl : f = g := Option.some.inj hi
    dsimp only
    rw [if_pos (show ((a9 + 1) % 14 + 13 - 0) % 14 = a9 by omega), if_pos (show ((a9 + 1) % 14 + 13 - 0) % 14 = a9 by omega)]
    exact ⟨rfl, rfl⟩
  | succ i =>
    have h1 := h i g hi
    dsimp only
    rw [show ((a9 + 1) % 14 + 13 - (i + 1)) % 14 = (a9 + 13 - i) % 14 by omega, if_neg (show ¬ (a9 + 13 - i) % 14 = a9 by omega), if_neg (show ¬ (a9 + 13 - i) % 14 = a9 by omega)]
    exact h1
theorem RGl.back {a9 : Nat} {B : List (Nat → Int32)} {Fh : Nat → Nat → Int32} {Xh : Nat → Int32} {f : Nat → Int32} (h : RGl a9 (f :: B) Fh Xh) (ha : a9 < 14) (hl : B.length < 14) : RGl ((a9 + 13) % 14) B Fh Xh ∧ Fh ((a9 + 13) % 14) = f ∧ Xh ((a9 + 13) % 14) = f 152 := by
  refine ⟨fun i g hi => ?_, h 0 f rfl⟩
  have hi14 : i < B.length := (List.getElem?_eq_some_iff.mp hi).1
  have h1 := h (i + 1) g hi
  rw [show ((a9 + 13) % 14 + 13 - i) % 14 = (a9 + 13 - (i + 1)) % 14 by omega]
  exact h1
theorem RGl.nil {a9 : Nat} {Fh : Nat → Nat → Int32} {Xh : Nat → Int32} : RGl a9 [] Fh Xh := fun i f h => by cases h
def SGl (bs : Nat → Int32) (Fs : Nat → Nat → Int32) (Xs : Nat → Int32) (K : Nat → Option (Nat → Int32)) : Prop := ∀ i, i < 2 → (K i = none ∧ bs i = 0) ∨ ∃ f, K i = some f ∧ bs i ≠ 0 ∧ Fs i = f ∧ Xs i = f 152
theorem SGl.save {bs : Nat → Int32} {Fs : Nat → Nat → Int32} {Xs : Nat → Int32} {K : Nat → Option (Nat → Int32)} {f : Nat → Int32} {i : Nat} (h : SGl bs Fs Xs K) : SGl (upd bs i 1) (fun q => if q = i then f else Fs q) (fun q => if q = i then f 152 else Xs q) (fun q => if q = i then some f else K q) := by
  intro j hj
  dsimp only
  by_cases e : j = i
  · rw [if_pos e, if_pos e, if_pos e, e, pk_us]
    exact Or.inr ⟨f, rfl, by decide, rfl, rfl⟩
  · rw [if_neg e, if_neg e, if_neg e, pk_un e]
    exact h j hj
def IS (w : Wt) (hs0 : Hs) (k : Nat) (σ : ZS) (H : Hs) : Prop :=
  ∃ (sg d9 : Nat → Int32) (z : Nat → Nat → Int32) (C : TTs) (a9 : Nat) (bh : Nat → Int32) (Fh : Nat → Nat → Int32) (Xh : Nat → Int32) (Zh : Nat → Nat → Nat → Int32) (bs : Nat → Int32) (Fs : Nat → Nat → Int32) (Xs : Nat → Int32) (Zs : Nat → Nat → Nat → Int32),
    sg 0 = nI (zsL σ) ∧ a9 < 14 ∧ RGl a9 (zsB σ) Fh Xh ∧ SGl bs Fs Xs (zsK σ) ∧ H = GB w hs0 k (sg, zsT σ, d9) (nT (zsF σ) (zsF σ 152) z) C (nI a9, nI (zsB σ).length, bh, Fh, Xh, Zh) (bs, Fs, Xs, Zs)
def OKs (M : Nat) (σ : ZS) : Prop := zsL σ ≤ 120 ∧ OK2 M (zsF σ) ∧ (zsB σ).length ≤ 14 ∧ (∀ f ∈ zsB σ, OK2 M f) ∧ ∀ i f, i < 2 → zsK σ i = some f → OK2 M f
theorem OKs.mono {M M' : Nat} {σ : ZS} (h : OKs M σ) (hM : M ≤ M') : OKs M' σ := ⟨h.1, h.2.1.mono hM, h.2.2.1, fun f hf => (h.2.2.2.1 f hf).mono hM, fun i f hi hf => (h.2.2.2.2 i f hi hf).mono hM⟩
theorem OKs.act {M M' : Nat} {σ : ZS} {f : Nat → Int32} (h : OKs M σ) (hM : M ≤ M') (hf : OK2 M' f) : OKs M' (actS σ f) := by
  have h1 := h.mono hM
  refine ⟨h1.1, hf, ?_, fun g hg => ?_, h1.2.2.2.2⟩
  · show (List.take 14 (zsF σ :: zsB σ)).length ≤ 14
    rw [List.length_take]; omega
  · rcases List.mem_cons.mp (List.mem_of_mem_take hg) with q | q
    · rw [q]; exact h1.2.1
    · exact h1.2.2.2.1 g q
theorem OK2.u01 {M : Nat} {f : Nat → Int32} (h : OK2 M f) : f 150 = 0 ∨ f 150 = 1 := h.1.2.1.u01.symm
section
variable {w : Wt} {hs0 : Hs} {k : Nat} {σ : ZS} {H : Hs} {T : TXs} {N C : TTs} {Y : HIs} {S : SHs}
theorem IS.x (hI : IS w hs0 k σ H) : H k = some (.inr (5, [.ref (wB w + (k + 1)), .ref (wB w + (k + 4)), .ref (wB w + (k + 11)), .ref (wB w + (k + 18)), .ref (wB w + (k + 120))])) := by
  obtain ⟨sg, d9, z, C, a9, bh, Fh, Xh, Zh, bs, Fs, Xs, Zs, h0, ha, hr, hs9, rfl⟩ := hI
  exact gb_0
/-- an action: the row before is remembered -/
theorem IS.act {sg d9 : Nat → Int32} {z : Nat → Nat → Int32} {a9 : Nat} {bh : Nat → Int32} {Fh : Nat → Nat → Int32} {Xh : Nat → Int32} {Zh : Nat → Nat → Nat → Int32} {bs : Nat → Int32} {Fs : Nat → Nat → Int32} {Xs : Nat → Int32} {Zs : Nat → Nat → Nat → Int32} {f' : Nat → Int32} {x : Int32} (h0 : sg 0 = nI (zsL σ)) (ha : a9 < 14) (hr : RGl a9 (zsB σ) Fh Xh) (hs : SGl bs Fs Xs (zsK σ)) (hx : x = f' 152) :
    IS w hs0 k (actS σ f') (GB w hs0 k (sg, zsT σ, d9) (nT f' x z) C (nI ((a9 + 1) % 14), nI (min ((zsB σ).length + 1) 14), upd bh a9 1, (fun q => if q = a9 then zsF σ else Fh q), (fun q => if q = a9 then zsF σ 152 else Xh q), (fun q => if q = a9 then z else Zh q)) (bs, Fs, Xs, Zs)) := by
  subst hx
  refine ⟨sg, d9, z, C, (a9 + 1) % 14, upd bh a9 1, (fun q => if q = a9 then zsF σ else Fh q), (fun q => if q = a9 then zsF σ 152 else Xh q), (fun q => if q = a9 then z else Zh q), bs, Fs, Xs, Zs, h0, Nat.mod_lt _ (by omega), hr.act ha, hs, ?_⟩
  have e : (zsB (actS σ f')).length = min ((zsB σ).length + 1) 14 := by
    show (List.take 14 (zsF σ :: zsB σ)).length = _
    rw [List.length_take, List.length_cons, Nat.min_comm]
  rw [e]
/-! two objects -/
theorem LY.step {a b : Nat} {S9 : Nat → Prop} {L M : Hs → Hs} (h1 : LY a b L) (h2 : ∀ hs hs' j, S9 j → M hs j = M hs' j) : ∀ hs hs' j, ((a ≤ j ∧ j < b) ∨ S9 j) → L (M hs) j = L (M hs') j := by
  intro hs hs' j hj
  by_cases q : a ≤ j ∧ j < b
  · exact h1.2 _ _ j q
  · rw [h1.1 (M hs) j q, h1.1 (M hs') j q]
    exact h2 _ _ j (hj.resolve_left q)
theorem gb_own {hs hs' : Hs} {j : Nat} (h : k ≤ j ∧ j < k + 137) : GB w hs k T N C Y S j = GB w hs' k T N C Y S j := by
  have c1 := LY.step (L := fun h => XT w h (k + 1) T.1 T.2.1 T.2.2) (M := fun h => upH h k (GO w k)) ly_xt (ly_up (i := k) (v := GO w k)).2
  have c2 := LY.step (L := fun h => TT w h (k + 4) N.1 N.2.1 N.2.2) ly_tt c1
  have c3 := LY.step (L := fun h => TT w h (k + 11) C.1 C.2.1 C.2.2) ly_tt c2
  have c4 := LY.step (L := fun h => HI w h (k + 18) Y.1 Y.2.1 Y.2.2.1 Y.2.2.2.1 Y.2.2.2.2.1 Y.2.2.2.2.2) ly_hi c3
  have c5 := LY.step (L := fun h => SH w h (k + 120) 2 S.1 S.2.1 S.2.2.1 S.2.2.2) ly_sh c4
  exact c5 hs hs' j (by omega)
theorem ly_gb : LY k (k + 137) (fun hs => GB w hs k T N C Y S) := ⟨fun hs j h => gb_n (by omega), fun hs hs' j h => gb_own h⟩
theorem gb_G {hs : Hs} {k2 : Nat} {T2 : TXs} {N2 C2 : TTs} {Y2 : HIs} {S2 : SHs} (h : k + 137 ≤ k2 ∨ k2 + 137 ≤ k) : GB w (GB w hs k2 T2 N2 C2 Y2 S2) k T N C Y S = GB w (GB w hs k T N C Y S) k2 T2 N2 C2 Y2 S2 := LY.swap (L := fun h => GB w h k T N C Y S) (M := fun h => GB w h k2 T2 N2 C2 Y2 S2) ly_gb ly_gb (by omega) hs
end
abbrev noH : Hs := fun _ => none
/-- the law's heap: its two objects -/
def TW (w : Wt) (σ τ : ZS) (H : Hs) : Prop := ∃ H1, IS w noH 137 τ H1 ∧ IS w H1 0 σ H
theorem TW.p {w : Wt} {σ τ : ZS} {H : Hs} (h : TW w σ τ H) : ∃ hs0, IS w hs0 0 σ H ∧ ∀ σ' H', IS w hs0 0 σ' H' → TW w σ' τ H' := by
  obtain ⟨H1, h1, h2⟩ := h
  exact ⟨H1, h2, fun σ' H' h3 => ⟨H1, h1, h3⟩⟩
theorem TW.q {w : Wt} {σ τ : ZS} {H : Hs} (h : TW w σ τ H) : ∃ hs0, IS w hs0 137 τ H ∧ ∀ τ' H', IS w hs0 137 τ' H' → TW w σ τ' H' := by
  obtain ⟨H1, ⟨sg, d9, z, C, a9, bh, Fh, Xh, Zh, bs, Fs, Xs, Zs, h0, ha, hr, hs9, rfl⟩, sg2, e9, z2, C2, b9, bh2, Fh2, Xh2, Zh2, bs2, Fs2, Xs2, Zs2, k0, kb, kr, ks, rfl⟩ := h
  refine ⟨GB w noH 0 (sg2, zsT σ, e9) (nT (zsF σ) (zsF σ 152) z2) C2 (nI b9, nI (zsB σ).length, bh2, Fh2, Xh2, Zh2) (bs2, Fs2, Xs2, Zs2), ⟨sg, d9, z, C, a9, bh, Fh, Xh, Zh, bs, Fs, Xs, Zs, h0, ha, hr, hs9, gb_G (by omega)⟩, fun τ' H' h3 => ?_⟩
  obtain ⟨sg3, f9, z3, C3, c9, bh3, Fh3, Xh3, Zh3, bs3, Fs3, Xs3, Zs3, m0, mb, mr, ms9, rfl⟩ := h3
  exact ⟨_, ⟨sg3, f9, z3, C3, c9, bh3, Fh3, Xh3, Zh3, bs3, Fs3, Xs3, Zs3, m0, mb, mr, ms9, rfl⟩, sg2, e9, z2, C2, b9, bh2, Fh2, Xh2, Zh2, bs2, Fs2, Xs2, Zs2, k0, kb, kr, ks, gb_G (by omega)⟩
