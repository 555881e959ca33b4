/-! layers in general: what lies in a layer's own places doesn't look at the heap below it -/
def LY (a b : Nat) (L : Hs → Hs) : Prop := (∀ hs j, ¬ (a ≤ j ∧ j < b) → L hs j = hs j) ∧ ∀ hs hs' j, a ≤ j ∧ j < b → L hs j = L hs' j
theorem LY.swap {a b c d : Nat} {L M : Hs → Hs} (h1 : LY a b L) (h2 : LY c d M) (hd : b ≤ c ∨ d ≤ a) (hs : Hs) : L (M hs) = M (L hs) := by
  funext j
  by_cases q1 : a ≤ j ∧ j < b
  · rw [h2.1 (L hs) j (by omega)]; exact h1.2 _ _ j q1
  · rw [h1.1 (M hs) j q1]
    by_cases q2 : c ≤ j ∧ j < d
    · exact h2.2 _ _ j q2
    · rw [h2.1 _ j q2, h2.1 _ j q2, h1.1 _ j q1]
theorem LY.over {a b : Nat} {L M : Hs → Hs} (h1 : LY a b L) (h2 : LY a b M) (hs : Hs) : L (M hs) = L hs := by
  funext j
  by_cases q1 : a ≤ j ∧ j < b
  · exact h1.2 _ _ j q1
  · rw [h1.1 _ j q1, h1.1 _ j q1, h2.1 _ j q1]
theorem ly_up {i : Nat} {v : va_E} : LY i (i + 1) (fun hs => upH hs i v) := ⟨fun hs j h => upH_n (by omega), fun hs hs' j h => by
  obtain rfl : j = i := by omega
  show upH hs j v j = upH hs' j v j
  rw [upH_s, upH_s]⟩
theorem ly_xt {w : Wt} {k : Nat} {s c d : Nat → Int32} : LY k (k + 3) (fun hs => XT w hs k s c d) := ⟨fun hs j h => xt_n (by omega), fun hs hs' j h => by
  show XT w hs k s c d j = XT w hs' k s c d j
  rcases (show j = k ∨ j = k + 1 ∨ j = k + 2 by omega) with e | e | e
  · rw [e, xt_0, xt_0]
  · rw [e, xt_1, xt_1]
  · rw [e, xt_2, xt_2]⟩
theorem ly_tt {w : Wt} {k : Nat} {s : Nat → Int32} {g : Nat → Nat → Int32} {r : Nat → Nat} : LY k (k + 7) (fun hs => TT w hs k s g r) := ⟨fun hs j h => to_n (by omega), fun hs hs' j h => by
  show TT w hs k s g r j = TT w hs' k s g r j
  unfold TT; rw [if_pos h, if_pos h]⟩
theorem ly_md {w : Wt} {k : Nat} {u : Nat → Int32} {A : Nat → Nat → Int32} : LY k (k + 8) (fun hs => modH w hs k u A) := ⟨fun hs j h => if_neg h, fun hs hs' j h => by
  show modH w hs k u A j = modH w hs' k u A j
  unfold modH; rw [if_pos h, if_pos h]⟩
theorem ly_sh {w : Wt} {k N : Nat} {b : Nat → Int32} {F : Nat → Nat → Int32} {X : Nat → Int32} {Z : Nat → Nat → Nat → Int32} : LY k (k + 3 + 7 * N) (fun hs => SH w hs k N b F X Z) := ⟨fun hs j h => sh_n (by omega), fun hs hs' j h => by
  show SH w hs k N b F X Z j = SH w hs' k N b F X Z j
  unfold SH
  by_cases h0 : j = k
  · rw [if_pos h0, if_pos h0]
  rw [if_neg h0, if_neg h0]
  by_cases h1 : j = k + 1
  · rw [if_pos h1, if_pos h1]
  rw [if_neg h1, if_neg h1]
  by_cases h2 : j = k + 2
  · rw [if_pos h2, if_pos h2]
  rw [if_neg h2, if_neg h2, if_pos (show k + 3 ≤ j ∧ j < k + 3 + 7 * N by omega), if_pos (show k + 3 ≤ j ∧ j < k + 3 + 7 * N by omega)]⟩
theorem ly_hi {w : Wt} {k : Nat} {a c : Int32} {b : Nat → Int32} {F : Nat → Nat → Int32} {X : Nat → Int32} {Z : Nat → Nat → Nat → Int32} : LY k (k + 102) (fun hs => HI w hs k a c b F X Z) := ⟨fun hs j h => hi_n (by omega), fun hs hs' j h => by
  show HI w hs k a c b F X Z j = HI w hs' k a c b F X Z j
  by_cases e : j = k
  · rw [e, hi_0, hi_0]
  · unfold HI
    exact (ly_sh (w := w) (k := k + 1) (N := 14) (b := b) (F := F) (X := X) (Z := Z)).2 _ _ j (by omega)⟩
theorem sw_XT_XT {w : Wt} {hs : Hs} {k1 k2 : Nat} {s1 c1 d1 : Nat → Int32} {s2 c2 d2 : Nat → Int32} (hd : k1 + 3 ≤ k2 ∨ k2 + 3 ≤ k1) : (XT w (XT w hs k2 s2 c2 d2) k1 s1 c1 d1) = (XT w (XT w hs k1 s1 c1 d1) k2 s2 c2 d2) := LY.swap (L := fun h => (XT w h k1 s1 c1 d1)) (M := fun h => (XT w h k2 s2 c2 d2)) ly_xt ly_xt (by omega) hs
theorem sw_XT_TT {w : Wt} {hs : Hs} {k1 k2 : Nat} {s1 c1 d1 : Nat → Int32} {s2 : Nat → Int32} {g2 : Nat → Nat → Int32} {r2 : Nat → Nat} (hd : k1 + 3 ≤ k2 ∨ k2 + 7 ≤ k1) : (XT w (TT w hs k2 s2 g2 r2) k1 s1 c1 d1) = (TT w (XT w hs k1 s1 c1 d1) k2 s2 g2 r2) := LY.swap (L := fun h => (XT w h k1 s1 c1 d1)) (M := fun h => (TT w h k2 s2 g2 r2)) ly_xt ly_tt (by omega) hs
theorem sw_XT_MD {w : Wt} {hs : Hs} {k1 k2 : Nat} {s1 c1 d1 : Nat → Int32} {u2 : Nat → Int32} {A2 : Nat → Nat → Int32} (hd : k1 + 3 ≤ k2 ∨ k2 + 8 ≤ k1) : (XT w (modH w hs k2 u2 A2) k1 s1 c1 d1) = (modH w (XT w hs k1 s1 c1 d1) k2 u2 A2) := LY.swap (L := fun h => (XT w h k1 s1 c1 d1)) (M := fun h => (modH w h k2 u2 A2)) ly_xt ly_md (by omega) hs
theorem sw_XT_SH {w : Wt} {hs : Hs} {k1 k2 : Nat} {s1 c1 d1 : Nat → Int32} {N2 : Nat} {b2 : Nat → Int32} {F2 : Nat → Nat → Int32} {X2 : Nat → Int32} {Z2 : Nat → Nat → Nat → Int32} (hd : k1 + 3 ≤ k2 ∨ k2 + 3 + 7 * N2 ≤ k1) : (XT w (SH w hs k2 N2 b2 F2 X2 Z2) k1 s1 c1 d1) = (SH w (XT w hs k1 s1 c1 d1) k2 N2 b2 F2 X2 Z2) := LY.swap (L := fun h => (XT w h k1 s1 c1 d1)) (M := fun h => (SH w h k2 N2 b2 F2 X2 Z2)) ly_xt ly_sh (by omega) hs
theorem sw_XT_HI {w : Wt} {hs : Hs} {k1 k2 : Nat} {s1 c1 d1 : Nat → Int32} {a2 c2 : Int32} {b2 : Nat → Int32} {F2 : Nat → Nat → Int32} {X2 : Nat → Int32} {Z2 : Nat → Nat → Nat → Int32} (hd : k1 + 3 ≤ k2 ∨ k2 + 102 ≤ k1) : (XT w (HI w hs k2 a2 c2 b2 F2 X2 Z2) k1 s1 c1 d1) = (HI w (XT w hs k1 s1 c1 d1) k2 a2 c2 b2 F2 X2 Z2) := LY.swap (L := fun h => (XT w h k1 s1 c1 d1)) (M := fun h => (HI w h k2 a2 c2 b2 F2 X2 Z2)) ly_xt ly_hi (by omega) hs
theorem sw_XT_UP {w : Wt} {hs : Hs} {k1 k2 : Nat} {s1 c1 d1 : Nat → Int32} {v2 : va_E} (hd : k1 + 3 ≤ k2 ∨ k2 + 1 ≤ k1) : (XT w (upH hs k2 v2) k1 s1 c1 d1) = (upH (XT w hs k1 s1 c1 d1) k2 v2) := LY.swap (L := fun h => (XT w h k1 s1 c1 d1)) (M := fun h => (upH h k2 v2)) ly_xt ly_up (by omega) hs
theorem sw_TT_XT {w : Wt} {hs : Hs} {k1 k2 : Nat} {s1 : Nat → Int32} {g1 : Nat → Nat → Int32} {r1 : Nat → Nat} {s2 c2 d2 : Nat → Int32} (hd : k1 + 7 ≤ k2 ∨ k2 + 3 ≤ k1) : (TT w (XT w hs k2 s2 c2 d2) k1 s1 g1 r1) = (XT w (TT w hs k1 s1 g1 r1) k2 s2 c2 d2) := LY.swap (L := fun h => (TT w h k1 s1 g1 r1)) (M := fun h => (XT w h k2 s2 c2 d2)) ly_tt ly_xt (by omega) hs
theorem sw_TT_TT {w : Wt} {hs : Hs} {k1 k2 : Nat} {s1 : Nat → Int32} {g1 : Nat → Nat → Int32} {r1 : Nat → Nat} {s2 : Nat → Int32} {g2 : Nat → Nat → Int32} {r2 : Nat → Nat} (hd : k1 + 7 ≤ k2 ∨ k2 + 7 ≤ k1) : (TT w (TT w hs k2 s2 g2 r2) k1 s1 g1 r1) = (TT w (TT w hs k1 s1 g1 r1) k2 s2 g2 r2) := LY.swap (L := fun h => (TT w h k1 s1 g1 r1)) (M := fun h => (TT w h k2 s2 g2 r2)) ly_tt ly_tt (by omega) hs
theorem sw_TT_MD {w : Wt} {hs : Hs} {k1 k2 : Nat} {s1 : Nat → Int32} {g1 : Nat → Nat → Int32} {r1 : Nat → Nat} {u2 : Nat → Int32} {A2 : Nat → Nat → Int32} (hd : k1 + 7 ≤ k2 ∨ k2 + 8 ≤ k1) : (TT w (modH w hs k2 u2 A2) k1 s1 g1 r1) = (modH w (TT w hs k1 s1 g1 r1) k2 u2 A2) := LY.swap (L := fun h => (TT w h k1 s1 g1 r1)) (M := fun h => (modH w h k2 u2 A2)) ly_tt ly_md (by omega) hs
theorem sw_TT_SH {w : Wt} {hs : Hs} {k1 k2 : Nat} {s1 : Nat → Int32} {g1 : Nat → Nat → Int32} {r1 : Nat → Nat} {N2 : Nat} {b2 : Nat → Int32} {F2 : Nat → Nat → Int32} {X2 : Nat → Int32} {Z2 : Nat → Nat → Nat → Int32} (hd : k1 + 7 ≤ k2 ∨ k2 + 3 + 7 * N2 ≤ k1) : (TT w (SH w hs k2 N2 b2 F2 X2 Z2) k1 s1 g1 r1) = (SH w (TT w hs k1 s1 g1 r1) k2 N2 b2 F2 X2 Z2) := LY.swap (L := fun h => (TT w h k1 s1 g1 r1)) (M := fun h => (SH w h k2 N2 b2 F2 X2 Z2)) ly_tt ly_sh (by omega) hs
theorem sw_TT_HI {w : Wt} {hs : Hs} {k1 k2 : Nat} {s1 : Nat → Int32} {g1 : Nat → Nat → Int32} {r1 : Nat → Nat} {a2 c2 : Int32} {b2 : Nat → Int32} {F2 : Nat → Nat → Int32} {X2 : Nat → Int32} {Z2 : Nat → Nat → Nat → Int32} (hd : k1 + 7 ≤ k2 ∨ k2 + 102 ≤ k1) : (TT w (HI w hs k2 a2 c2 b2 F2 X2 Z2) k1 s1 g1 r1) = (HI w (TT w hs k1 s1 g1 r1) k2 a2 c2 b2 F2 X2 Z2) := LY.swap (L := fun h => (TT w h k1 s1 g1 r1)) (M := fun h => (HI w h k2 a2 c2 b2 F2 X2 Z2)) ly_tt ly_hi (by omega) hs
theorem sw_TT_UP {w : Wt} {hs : Hs} {k1 k2 : Nat} {s1 : Nat → Int32} {g1 : Nat → Nat → Int32} {r1 : Nat → Nat} {v2 : va_E} (hd : k1 + 7 ≤ k2 ∨ k2 + 1 ≤ k1) : (TT w (upH hs k2 v2) k1 s1 g1 r1) = (upH (TT w hs k1 s1 g1 r1) k2 v2) := LY.swap (L := fun h => (TT w h k1 s1 g1 r1)) (M := fun h => (upH h k2 v2)) ly_tt ly_up (by omega) hs
theorem sw_MD_XT {w : Wt} {hs : Hs} {k1 k2 : Nat} {u1 : Nat → Int32} {A1 : Nat → Nat → Int32} {s2 c2 d2 : Nat → Int32} (hd : k1 + 8 ≤ k2 ∨ k2 + 3 ≤ k1) : (modH w (XT w hs k2 s2 c2 d2) k1 u1 A1) = (XT w (modH w hs k1 u1 A1) k2 s2 c2 d2) := LY.swap (L := fun h => (modH w h k1 u1 A1)) (M := fun h => (XT w h k2 s2 c2 d2)) ly_md ly_xt (by omega) hs
theorem sw_MD_TT {w : Wt} {hs : Hs} {k1 k2 : Nat} {u1 : Nat → Int32} {A1 : Nat → Nat → Int32} {s2 : Nat → Int32} {g2 : Nat → Nat → Int32} {r2 : Nat → Nat} (hd : k1 + 8 ≤ k2 ∨ k2 + 7 ≤ k1) : (modH w (TT w hs k2 s2 g2 r2) k1 u1 A1) = (TT w (modH w hs k1 u1 A1) k2 s2 g2 r2) := LY.swap (L := fun h => (modH w h k1 u1 A1)) (M := fun h => (TT w h k2 s2 g2 r2)) ly_md ly_tt (by omega) hs
theorem sw_MD_MD {w : Wt} {hs : Hs} {k1 k2 : Nat} {u1 : Nat → Int32} {A1 : Nat → Nat → Int32} {u2 : Nat → Int32} {A2 : Nat → Nat → Int32} (hd : k1 + 8 ≤ k2 ∨ k2 + 8 ≤ k1) : (modH w (modH w hs k2 u2 A2) k1 u1 A1) = (modH w (modH w hs k1 u1 A1) k2 u2 A2) := LY.swap (L := fun h => (modH w h k1 u1 A1)) (M := fun h => (modH w h k2 u2 A2)) ly_md ly_md (by omega) hs
theorem sw_MD_SH {w : Wt} {hs : Hs} {k1 k2 : Nat} {u1 : Nat → Int32} {A1 : Nat → Nat → Int32} {N2 : Nat} {b2 : Nat → Int32} {F2 : Nat → Nat → Int32} {X2 : Nat → Int32} {Z2 : Nat → Nat → Nat → Int32} (hd : k1 + 8 ≤ k2 ∨ k2 + 3 + 7 * N2 ≤ k1) : (modH w (SH w hs k2 N2 b2 F2 X2 Z2) k1 u1 A1) = (SH w (modH w hs k1 u1 A1) k2 N2 b2 F2 X2 Z2) := LY.swap (L := fun h => (modH w h k1 u1 A1)) (M := fun h => (SH w h k2 N2 b2 F2 X2 Z2)) ly_md ly_sh (by omega) hs
theorem sw_MD_HI {w : Wt} {hs : Hs} {k1 k2 : Nat} {u1 : Nat → Int32} {A1 : Nat → Nat → Int32} {a2 c2 : Int32} {b2 : Nat → Int32} {F2 : Nat → Nat → Int32} {X2 : Nat → Int32} {Z2 : Nat → Nat → Nat → Int32} (hd : k1 + 8 ≤ k2 ∨ k2 + 102 ≤ k1) : (modH w (HI w hs k2 a2 c2 b2 F2 X2 Z2) k1 u1 A1) = (HI w (modH w hs k1 u1 A1) k2 a2 c2 b2 F2 X2 Z2) := LY.swap (L := fun h => (modH w h k1 u1 A1)) (M := fun h => (HI w h k2 a2 c2 b2 F2 X2 Z2)) ly_md ly_hi (by omega) hs
theorem sw_MD_UP {w : Wt} {hs : Hs} {k1 k2 : Nat} {u1 : Nat → Int32} {A1 : Nat → Nat → Int32} {v2 : va_E} (hd : k1 + 8 ≤ k2 ∨ k2 + 1 ≤ k1) : (modH w (upH hs k2 v2) k1 u1 A1) = (upH (modH w hs k1 u1 A1) k2 v2) := LY.swap (L := fun h => (modH w h k1 u1 A1)) (M := fun h => (upH h k2 v2)) ly_md ly_up (by omega) hs
theorem sw_SH_XT {w : Wt} {hs : Hs} {k1 k2 : Nat} {N1 : Nat} {b1 : Nat → Int32} {F1 : Nat → Nat → Int32} {X1 : Nat → Int32} {Z1 : Nat → Nat → Nat → Int32} {s2 c2 d2 : Nat → Int32} (hd : k1 + 3 + 7 * N1 ≤ k2 ∨ k2 + 3 ≤ k1) : (SH w (XT w hs k2 s2 c2 d2) k1 N1 b1 F1 X1 Z1) = (XT w (SH w hs k1 N1 b1 F1 X1 Z1) k2 s2 c2 d2) := LY.swap (L := fun h => (SH w h k1 N1 b1 F1 X1 Z1)) (M := fun h => (XT w h k2 s2 c2 d2)) ly_sh ly_xt (by omega) hs
theorem sw_SH_TT {w : Wt} {hs : Hs} {k1 k2 : Nat} {N1 : Nat} {b1 : Nat → Int32} {F1 : Nat → Nat → Int32} {X1 : Nat → Int32} {Z1 : Nat → Nat → Nat → Int32} {s2 : Nat → Int32} {g2 : Nat → Nat → Int32} {r2 : Nat → Nat} (hd : k1 + 3 + 7 * N1 ≤ k2 ∨ k2 + 7 ≤ k1) : (SH w (TT w hs k2 s2 g2 r2) k1 N1 b1 F1 X1 Z1) = (TT w (SH w hs k1 N1 b1 F1 X1 Z1) k2 s2 g2 r2) := LY.swap (L := fun h => (SH w h k1 N1 b1 F1 X1 Z1)) (M := fun h => (TT w h k2 s2 g2 r2)) ly_sh ly_tt (by omega) hs
theorem sw_SH_MD {w : Wt} {hs : Hs} {k1 k2 : Nat} {N1 : Nat} {b1 : Nat → Int32} {F1 : Nat → Nat → Int32} {X1 : Nat → Int32} {Z1 : Nat → Nat → Nat → Int32} {u2 : Nat → Int32} {A2 : Nat → Nat → Int32} (hd : k1 + 3 + 7 * N1 ≤ k2 ∨ k2 + 8 ≤ k1) : (SH w (modH w hs k2 u2 A2) k1 N1 b1 F1 X1 Z1) = (modH w (SH w hs k1 N1 b1 F1 X1 Z1) k2 u2 A2) := LY.swap (L := fun h => (SH w h k1 N1 b1 F1 X1 Z1)) (M := fun h => (modH w h k2 u2 A2)) ly_sh ly_md (by omega) hs
theorem sw_SH_SH {w : Wt} {hs : Hs} {k1 k2 : Nat} {N1 : Nat} {b1 : Nat → Int32} {F1 : Nat → Nat → Int32} {X1 : Nat → Int32} {Z1 : Nat → Nat → Nat → Int32} {N2 : Nat} {b2 : Nat → Int32} {F2 : Nat → Nat → Int32} {X2 : Nat → Int32} {Z2 : Nat → Nat → Nat → Int32} (hd : k1 + 3 + 7 * N1 ≤ k2 ∨ k2 + 3 + 7 * N2 ≤ k1) : (SH w (SH w hs k2 N2 b2 F2 X2 Z2) k1 N1 b1 F1 X1 Z1) = (SH w (SH w hs k1 N1 b1 F1 X1 Z1) k2 N2 b2 F2 X2 Z2) := LY.swap (L := fun h => (SH w h k1 N1 b1 F1 X1 Z1)) (M := fun h => (SH w h k2 N2 b2 F2 X2 Z2)) ly_sh ly_sh (by omega) hs
theorem sw_SH_HI {w : Wt} {hs : Hs} {k1 k2 : Nat} {N1 : Nat} {b1 : Nat → Int32} {F1 : Nat → Nat → Int32} {X1 : Nat → Int32} {Z1 : Nat → Nat → Nat → Int32} {a2 c2 : Int32} {b2 : Nat → Int32} {F2 : Nat → Nat → Int32} {X2 : Nat → Int32} {Z2 : Nat → Nat → Nat → Int32} (hd : k1 + 3 + 7 * N1 ≤ k2 ∨ k2 + 102 ≤ k1) : (SH w (HI w hs k2 a2 c2 b2 F2 X2 Z2) k1 N1 b1 F1 X1 Z1) = (HI w (SH w hs k1 N1 b1 F1 X1 Z1) k2 a2 c2 b2 F2 X2 Z2) := LY.swap (L := fun h => (SH w h k1 N1 b1 F1 X1 Z1)) (M := fun h => (HI w h k2 a2 c2 b2 F2 X2 Z2)) ly_sh ly_hi (by omega) hs
theorem sw_SH_UP {w : Wt} {hs : Hs} {k1 k2 : Nat} {N1 : Nat} {b1 : Nat → Int32} {F1 : Nat → Nat → Int32} {X1 : Nat → Int32} {Z1 : Nat → Nat → Nat → Int32} {v2 : va_E} (hd : k1 + 3 + 7 * N1 ≤ k2 ∨ k2 + 1 ≤ k1) : (SH w (upH hs k2 v2) k1 N1 b1 F1 X1 Z1) = (upH (SH w hs k1 N1 b1 F1 X1 Z1) k2 v2) := LY.swap (L := fun h => (SH w h k1 N1 b1 F1 X1 Z1)) (M := fun h => (upH h k2 v2)) ly_sh ly_up (by omega) hs
theorem sw_HI_XT {w : Wt} {hs : Hs} {k1 k2 : Nat} {a1 c1 : Int32} {b1 : Nat → Int32} {F1 : Nat → Nat → Int32} {X1 : Nat → Int32} {Z1 : Nat → Nat → Nat → Int32} {s2 c2 d2 : Nat → Int32} (hd : k1 + 102 ≤ k2 ∨ k2 + 3 ≤ k1) : (HI w (XT w hs k2 s2 c2 d2) k1 a1 c1 b1 F1 X1 Z1) = (XT w (HI w hs k1 a1 c1 b1 F1 X1 Z1) k2 s2 c2 d2) := LY.swap (L := fun h => (HI w h k1 a1 c1 b1 F1 X1 Z1)) (M := fun h => (XT w h k2 s2 c2 d2)) ly_hi ly_xt (by omega) hs
theorem sw_HI_TT {w : Wt} {hs : Hs} {k1 k2 : Nat} {a1 c1 : Int32} {b1 : Nat → Int32} {F1 : Nat → Nat → Int32} {X1 : Nat → Int32} {Z1 : Nat → Nat → Nat → Int32} {s2 : Nat → Int32} {g2 : Nat → Nat → Int32} {r2 : Nat → Nat} (hd : k1 + 102 ≤ k2 ∨ k2 + 7 ≤ k1) : (HI w (TT w hs k2 s2 g2 r2) k1 a1 c1 b1 F1 X1 Z1) = (TT w (HI w hs k1 a1 c1 b1 F1 X1 Z1) k2 s2 g2 r2) := LY.swap (L := fun h => (HI w h k1 a1 c1 b1 F1 X1 Z1)) (M := fun h => (TT w h k2 s2 g2 r2)) ly_hi ly_tt (by omega) hs
theorem sw_HI_MD {w : Wt} {hs : Hs} {k1 k2 : Nat} {a1 c1 : Int32} {b1 : Nat → Int32} {F1 : Nat → Nat → Int32} {X1 : Nat → Int32} {Z1 : Nat → Nat → Nat → Int32} {u2 : Nat → Int32} {A2 : Nat → Nat → Int32} (hd : k1 + 102 ≤ k2 ∨ k2 + 8 ≤ k1) : (HI w (modH w hs k2 u2 A2) k1 a1 c1 b1 F1 X1 Z1) = (modH w (HI w hs k1 a1 c1 b1 F1 X1 Z1) k2 u2 A2) := LY.swap (L := fun h => (HI w h k1 a1 c1 b1 F1 X1 Z1)) (M := fun h => (modH w h k2 u2 A2)) ly_hi ly_md (by omega) hs
theorem sw_HI_SH {w : Wt} {hs : Hs} {k1 k2 : Nat} {a1 c1 : Int32} {b1 : Nat → Int32} {F1 : Nat → Nat → Int32} {X1 : Nat → Int32} {Z1 : Nat → Nat → Nat → Int32} {N2 : Nat} {b2 : Nat → Int32} {F2 : Nat → Nat → Int32} {X2 : Nat → Int32} {Z2 : Nat → Nat → Nat → Int32} (hd : k1 + 102 ≤ k2 ∨ k2 + 3 + 7 * N2 ≤ k1) : (HI w (SH w hs k2 N2 b2 F2 X2 Z2) k1 a1 c1 b1 F1 X1 Z1) = (SH w (HI w hs k1 a1 c1 b1 F1 X1 Z1) k2 N2 b2 F2 X2 Z2) := LY.swap (L := fun h => (HI w h k1 a1 c1 b1 F1 X1 Z1)) (M := fun h => (SH w h k2 N2 b2 F2 X2 Z2)) ly_hi ly_sh (by omega) hs
theorem sw_HI_HI {w : Wt} {hs : Hs} {k1 k2 : Nat} {a1 c1 : Int32} {b1 : Nat → Int32} {F1 : Nat → Nat → Int32} {X1 : Nat → Int32} {Z1 : Nat → Nat → Nat → Int32} {a2 c2 : Int32} {b2 : Nat → Int32} {F2 : Nat → Nat → Int32} {X2 : Nat → Int32} {Z2 : Nat → Nat → Nat → Int32} (hd : k1 + 102 ≤ k2 ∨ k2 + 102 ≤ k1) : (HI w (HI w hs k2 a2 c2 b2 F2 X2 Z2) k1 a1 c1 b1 F1 X1 Z1) = (HI w (HI w hs k1 a1 c1 b1 F1 X1 Z1) k2 a2 c2 b2 F2 X2 Z2) := LY.swap (L := fun h => (HI w h k1 a1 c1 b1 F1 X1 Z1)) (M := fun h => (HI w h k2 a2 c2 b2 F2 X2 Z2)) ly_hi ly_hi (by omega) hs
theorem sw_HI_UP {w : Wt} {hs : Hs} {k1 k2 : Nat} {a1 c1 : Int32} {b1 : Nat → Int32} {F1 : Nat → Nat → Int32} {X1 : Nat → Int32} {Z1 : Nat → Nat → Nat → Int32} {v2 : va_E} (hd : k1 + 102 ≤ k2 ∨ k2 + 1 ≤ k1) : (HI w (upH hs k2 v2) k1 a1 c1 b1 F1 X1 Z1) = (upH (HI w hs k1 a1 c1 b1 F1 X1 Z1) k2 v2) := LY.swap (L := fun h => (HI w h k1 a1 c1 b1 F1 X1 Z1)) (M := fun h => (upH h k2 v2)) ly_hi ly_up (by omega) hs
theorem sw_UP_XT {w : Wt} {hs : Hs} {k1 k2 : Nat} {v1 : va_E} {s2 c2 d2 : Nat → Int32} (hd : k1 + 1 ≤ k2 ∨ k2 + 3 ≤ k1) : (upH (XT w hs k2 s2 c2 d2) k1 v1) = (XT w (upH hs k1 v1) k2 s2 c2 d2) := LY.swap (L := fun h => (upH h k1 v1)) (M := fun h => (XT w h k2 s2 c2 d2)) ly_up ly_xt (by omega) hs
theorem sw_UP_TT {w : Wt} {hs : Hs} {k1 k2 : Nat} {v1 : va_E} {s2 : Nat → Int32} {g2 : Nat → Nat → Int32} {r2 : Nat → Nat} (hd : k1 + 1 ≤ k2 ∨ k2 + 7 ≤ k1) : (upH (TT w hs k2 s2 g2 r2) k1 v1) = (TT w (upH hs k1 v1) k2 s2 g2 r2) := LY.swap (L := fun h => (upH h k1 v1)) (M := fun h => (TT w h k2 s2 g2 r2)) ly_up ly_tt (by omega) hs
theorem sw_UP_MD {w : Wt} {hs : Hs} {k1 k2 : Nat} {v1 : va_E} {u2 : Nat → Int32} {A2 : Nat → Nat → Int32} (hd : k1 + 1 ≤ k2 ∨ k2 + 8 ≤ k1) : (upH (modH w hs k2 u2 A2) k1 v1) = (modH w (upH hs k1 v1) k2 u2 A2) := LY.swap (L := fun h => (upH h k1 v1)) (M := fun h => (modH w h k2 u2 A2)) ly_up ly_md (by omega) hs
theorem sw_UP_SH {w : Wt} {hs : Hs} {k1 k2 : Nat} {v1 : va_E} {N2 : Nat} {b2 : Nat → Int32} {F2 : Nat → Nat → Int32} {X2 : Nat → Int32} {Z2 : Nat → Nat → Nat → Int32} (hd : k1 + 1 ≤ k2 ∨ k2 + 3 + 7 * N2 ≤ k1) : (upH (SH w hs k2 N2 b2 F2 X2 Z2) k1 v1) = (SH w (upH hs k1 v1) k2 N2 b2 F2 X2 Z2) := LY.swap (L := fun h => (upH h k1 v1)) (M := fun h => (SH w h k2 N2 b2 F2 X2 Z2)) ly_up ly_sh (by omega) hs
theorem sw_UP_HI {w : Wt} {hs : Hs} {k1 k2 : Nat} {v1 : va_E} {a2 c2 : Int32} {b2 : Nat → Int32} {F2 : Nat → Nat → Int32} {X2 : Nat → Int32} {Z2 : Nat → Nat → Nat → Int32} (hd : k1 + 1 ≤ k2 ∨ k2 + 102 ≤ k1) : (upH (HI w hs k2 a2 c2 b2 F2 X2 Z2) k1 v1) = (HI w (upH hs k1 v1) k2 a2 c2 b2 F2 X2 Z2) := LY.swap (L := fun h => (upH h k1 v1)) (M := fun h => (HI w h k2 a2 c2 b2 F2 X2 Z2)) ly_up ly_hi (by omega) hs
theorem sw_UP_UP {w : Wt} {hs : Hs} {k1 k2 : Nat} {v1 : va_E} {v2 : va_E} (hd : k1 + 1 ≤ k2 ∨ k2 + 1 ≤ k1) : (upH (upH hs k2 v2) k1 v1) = (upH (upH hs k1 v1) k2 v2) := LY.swap (L := fun h => (upH h k1 v1)) (M := fun h => (upH h k2 v2)) ly_up ly_up (by omega) hs
theorem ov_XT {w : Wt} {hs : Hs} {k1 : Nat} {s1 c1 d1 : Nat → Int32} {s2 c2 d2 : Nat → Int32} : (XT w (XT w hs k1 s2 c2 d2) k1 s1 c1 d1) = (XT w hs k1 s1 c1 d1) := LY.over (L := fun h => (XT w h k1 s1 c1 d1)) (M := fun h => (XT w h k1 s2 c2 d2)) ly_xt ly_xt hs
theorem ov_TT {w : Wt} {hs : Hs} {k1 : Nat} {s1 : Nat → Int32} {g1 : Nat → Nat → Int32} {r1 : Nat → Nat} {s2 : Nat → Int32} {g2 : Nat → Nat → Int32} {r2 : Nat → Nat} : (TT w (TT w hs k1 s2 g2 r2) k1 s1 g1 r1) = (TT w hs k1 s1 g1 r1) := LY.over (L := fun h => (TT w h k1 s1 g1 r1)) (M := fun h => (TT w h k1 s2 g2 r2)) ly_tt ly_tt hs
theorem ov_MD {w : Wt} {hs : Hs} {k1 : Nat} {u1 : Nat → Int32} {A1 : Nat → Nat → Int32} {u2 : Nat → Int32} {A2 : Nat → Nat → Int32} : (modH w (modH w hs k1 u2 A2) k1 u1 A1) = (modH w hs k1 u1 A1) := LY.over (L := fun h => (modH w h k1 u1 A1)) (M := fun h => (modH w h k1 u2 A2)) ly_md ly_md hs
theorem ov_SH {w : Wt} {hs : Hs} {k N : Nat} {b : Nat → Int32} {F : Nat → Nat → Int32} {X : Nat → Int32} {Z : Nat → Nat → Nat → Int32} {b2 : Nat → Int32} {F2 : Nat → Nat → Int32} {X2 : Nat → Int32} {Z2 : Nat → Nat → Nat → Int32} : SH w (SH w hs k N b2 F2 X2 Z2) k N b F X Z = SH w hs k N b F X Z := LY.over (L := fun h => SH w h k N b F X Z) (M := fun h => SH w h k N b2 F2 X2 Z2) ly_sh ly_sh hs
theorem ov_HI {w : Wt} {hs : Hs} {k1 : Nat} {a1 c1 : Int32} {b1 : Nat → Int32} {F1 : Nat → Nat → Int32} {X1 : Nat → Int32} {Z1 : Nat → Nat → Nat → Int32} {a2 c2 : Int32} {b2 : Nat → Int32} {F2 : Nat → Nat → Int32} {X2 : Nat → Int32} {Z2 : Nat → Nat → Nat → Int32} : (HI w (HI w hs k1 a2 c2 b2 F2 X2 Z2) k1 a1 c1 b1 F1 X1 Z1) = (HI w hs k1 a1 c1 b1 F1 X1 Z1) := LY.over (L := fun h => (HI w h k1 a1 c1 b1 F1 X1 Z1)) (M := fun h => (HI w h k1 a2 c2 b2 F2 X2 Z2)) ly_hi ly_hi hs
theorem ov_UP {w : Wt} {hs : Hs} {k1 : Nat} {v1 : va_E} {v2 : va_E} : (upH (upH hs k1 v2) k1 v1) = (upH hs k1 v1) := LY.over (L := fun h => (upH h k1 v1)) (M := fun h => (upH h k1 v2)) ly_up ly_up hs
/-! THE CLASS'S OBJECT: T the text, N the tournament now, C the copy, Y the history, S the slots -/
abbrev TXs : Type := (Nat → Int32) × (Nat → Int32) × (Nat → Int32)
abbrev TTs : Type := (Nat → Int32) × (Nat → Nat → Int32) × (Nat → Nat)
abbrev SHs : Type := (Nat → Int32) × (Nat → Nat → Int32) × (Nat → Int32) × (Nat → Nat → Nat → Int32)
abbrev HIs : Type := Int32 × Int32 × SHs
abbrev nT (f : Nat → Int32) (x : Int32) (z : Nat → Nat → Int32) : TTs := (sF f x, gF f z, rF f)
def GB (w : Wt) (hs : Hs) (k : Nat) (T : TXs) (N C : TTs) (Y : HIs) (S : SHs) : Hs := SH w (HI w (TT w (TT w (XT w (upH hs k (GO w k)) (k + 1) T.1 T.2.1 T.2.2) (k + 4) N.1 N.2.1 N.2.2) (k + 11) C.1 C.2.1 C.2.2) (k + 18) Y.1 Y.2.1 Y.2.2.1 Y.2.2.2.1 Y.2.2.2.2.1 Y.2.2.2.2.2) (k + 120) 2 S.1 S.2.1 S.2.2.1 S.2.2.2
section
variable {w : Wt} {hs : Hs} {k : Nat} {T : TXs} {N C : TTs} {Y : HIs} {S : SHs}
theorem gb_T {s c d : Nat → Int32} : XT w (GB w hs k T N C Y S) (k + 1) s c d = GB w hs k (s, c, d) N C Y S := by
  unfold GB
  rw [sw_XT_SH (by omega), sw_XT_HI (by omega), sw_XT_TT (by omega), sw_XT_TT (by omega), ov_XT]
theorem gb_N {s : Nat → Int32} {g : Nat → Nat → Int32} {r : Nat → Nat} : TT w (GB w hs k T N C Y S) (k + 4) s g r = GB w hs k T (s, g, r) C Y S := by
  unfold GB
  rw [sw_TT_SH (by omega), sw_TT_HI (by omega), sw_TT_TT (by omega), ov_TT]
theorem gb_C {s : Nat → Int32} {g : Nat → Nat → Int32} {r : Nat → Nat} : TT w (GB w hs k T N C Y S) (k + 11) s g r = GB w hs k T N (s, g, r) Y S := by
  unfold GB
  rw [sw_TT_SH (by omega), sw_TT_HI (by omega), ov_TT]
theorem gb_Y {a c : Int32} {b : Nat → Int32} {F : Nat → Nat → Int32} {X : Nat → Int32} {Z : Nat → Nat → Nat → Int32} : HI w (GB w hs k T N C Y S) (k + 18) a c b F X Z = GB w hs k T N C (a, c, b, F, X, Z) S := by
  unfold GB
  rw [sw_HI_SH (by omega), ov_HI]
theorem gb_S {b : Nat → Int32} {F : Nat → Nat → Int32} {X : Nat → Int32} {Z : Nat → Nat → Nat → Int32} : SH w (GB w hs k T N C Y S) (k + 120) 2 b F X Z = GB w hs k T N C Y (b, F, X, Z) := by
  unfold GB
  rw [ov_SH]
theorem gb_M {k2 : Nat} {u : Nat → Int32} {A : Nat → Nat → Int32} (h : k + 137 ≤ k2) : modH w (GB w hs k T N C Y S) k2 u A = GB w (modH w hs k2 u A) k T N C Y S := by
  unfold GB
  rw [sw_MD_SH (by omega), sw_MD_HI (by omega), sw_MD_TT (by omega), sw_MD_TT (by omega), sw_MD_XT (by omega), sw_MD_UP (by omega)]
theorem gb_U {k2 : Nat} {v : va_E} (h : k + 137 ≤ k2) : upH (GB w hs k T N C Y S) k2 v = GB w (upH hs k2 v) k T N C Y S := by
  unfold GB
  rw [sw_UP_SH (w := w) (by omega), sw_UP_HI (w := w) (by omega), sw_UP_TT (w := w) (by omega), sw_UP_TT (w := w) (by omega), sw_UP_XT (w := w) (by omega), sw_UP_UP (w := w) (by omega)]
theorem gb_n {j : Nat} (h : j < k ∨ k + 137 ≤ j) : GB w hs k T N C Y S j = hs j := by
  unfold GB
  rw [sh_n (by omega), hi_n (by omega), to_n (by omega), to_n (by omega), xt_n (by omega), upH_n (by omega)]
theorem gb_0 : GB w hs k T N C Y S k = some (.inr (5, [.ref (wB w + (k + 1)), .ref (wB w + (k + 4)), .ref (wB w + (k + 11)), .ref (wB w + (k + 18)), .ref (wB w + (k + 120))])) := by
  unfold GB
  rw [sh_n (by omega), hi_n (by omega), to_n (by omega), to_n (by omega), xt_n (by omega), upH_s]; rfl
theorem gb_x {j : Nat} (h : j < 3) : GB w hs k T N C Y S (k + 1 + j) = XT w hs (k + 1) T.1 T.2.1 T.2.2 (k + 1 + j) := by
  unfold GB
  rw [sh_n (by omega), hi_n (by omega), to_n (by omega), to_n (by omega)]
  exact (ly_xt (w := w) (k := k + 1)).2 _ _ _ (by omega)
theorem gb_x0 : GB w hs k T N C Y S (k + 1) = some (.inr (3, [.ref (wB w + (k + 1 + 1)), .ref (wB w + (k + 1 + 2)), .int (T.1 0), .int (T.1 1), .int (T.1 2)])) := (gb_x (j := 0) (by omega)).trans xt_0
theorem gb_now {i : Nat} (h : i < 7) : GB w hs k T N C Y S (k + 4 + i) = some (tcell w (k + 4) N.1 N.2.1 N.2.2 i) := by
  unfold GB
  rw [sh_n (by omega), hi_n (by omega), to_n (by omega), to_i h]
theorem gb_cop {i : Nat} (h : i < 7) : GB w hs k T N C Y S (k + 11 + i) = some (tcell w (k + 11) C.1 C.2.1 C.2.2 i) := by
  unfold GB
  rw [sh_n (by omega), hi_n (by omega), to_i h]
theorem gb_h0 : GB w hs k T N C Y S (k + 18) = some (.inr (0, [.ref (wB w + (k + 18 + 1)), .int Y.1, .int Y.2.1])) := by
  unfold GB
  rw [sh_n (by omega), hi_0]
theorem gb_s0 : GB w hs k T N C Y S (k + 120) = some (.inr (1, [.ref (wB w + (k + 120 + 1)), .ref (wB w + (k + 120 + 2))])) := by
  unfold GB
  rw [sh_0]
theorem gb_n0 : GB w hs k T N C Y S (k + 4) = some (.inr (4, [.ref (wB w + (k + 4 + 1)), .ref (wB w + (k + 4 + 3)), .ref (wB w + (k + 4 + 5)), .int (N.1 0), .int (N.1 1), .int (N.1 2), .int (N.1 3), .int (N.1 4), .int (N.1 5), .int (N.1 6)])) := gb_now (i := 0) (by omega)
theorem gb_n1 : GB w hs k T N C Y S (k + 4 + 1) = some (.inr (2, [.int (nI 4), .ref (wB w + (k + 4 + 1 + 1)), .int (nI (N.2.2 0))])) := gb_now (i := 1) (by omega)
theorem gb_n3 : GB w hs k T N C Y S (k + 4 + 3) = some (.inr (2, [.int (nI 10), .ref (wB w + (k + 4 + 3 + 1)), .int (nI (N.2.2 1))])) := gb_now (i := 3) (by omega)
theorem gb_n5 : GB w hs k T N C Y S (k + 4 + 5) = some (.inr (2, [.int (nI 3), .ref (wB w + (k + 4 + 5 + 1)), .int (nI (N.2.2 2))])) := gb_now (i := 5) (by omega)
theorem gb_c0 : GB w hs k T N C Y S (k + 11) = some (.inr (4, [.ref (wB w + (k + 11 + 1)), .ref (wB w + (k + 11 + 3)), .ref (wB w + (k + 11 + 5)), .int (C.1 0), .int (C.1 1), .int (C.1 2), .int (C.1 3), .int (C.1 4), .int (C.1 5), .int (C.1 6)])) := gb_cop (i := 0) (by omega)
theorem gb_c1 : GB w hs k T N C Y S (k + 11 + 1) = some (.inr (2, [.int (nI 4), .ref (wB w + (k + 11 + 1 + 1)), .int (nI (C.2.2 0))])) := gb_cop (i := 1) (by omega)
theorem gb_c3 : GB w hs k T N C Y S (k + 11 + 3) = some (.inr (2, [.int (nI 10), .ref (wB w + (k + 11 + 3 + 1)), .int (nI (C.2.2 1))])) := gb_cop (i := 3) (by omega)
theorem gb_c5 : GB w hs k T N C Y S (k + 11 + 5) = some (.inr (2, [.int (nI 3), .ref (wB w + (k + 11 + 5 + 1)), .int (nI (C.2.2 2))])) := gb_cop (i := 5) (by omega)
theorem gb_n6 {x : Int32} : upH (GB w hs k T N C Y S) (k + 4) (.inr (4, [.ref (wB w + (k + 4 + 1)), .ref (wB w + (k + 4 + 3)), .ref (wB w + (k + 4 + 5)), .int (N.1 0), .int (N.1 1), .int (N.1 2), .int (N.1 3), .int (N.1 4), .int (N.1 5), .int x])) = GB w hs k T (upd N.1 6 x, N.2.1, N.2.2) C Y S := by
  have h : GB w hs k T N C Y S = TT w (GB w hs k T N C Y S) (k + 4) N.1 N.2.1 N.2.2 := gb_N.symm
  rw [h, to_f6, gb_N]
end
/-! a part's contract on the whole object -/
section
variable {l : Launch} {w : Wt} {hs : Hs} {d : MD} {c1 s1 k : Nat} {av : List Value} {n n9 : Option Nat} {v : Option Value} {T : TXs} {N C : TTs} {Y : HIs} {S : SHs}
theorem Cn.gT {sg c e sg' c' e' : Nat → Int32} (h : Cn l w d c1 s1 av (XT w (GB w hs k (sg, c, e) N C Y S) (k + 1) sg c e) n (XT w (GB w hs k (sg, c, e) N C Y S) (k + 1) sg' c' e') n9 v) : Cn l w d c1 s1 av (GB w hs k (sg, c, e) N C Y S) n (GB w hs k (sg', c', e') N C Y S) n9 v := by
  rw [gb_T, gb_T] at h; exact h
theorem Cn.gN {s s' : Nat → Int32} {g g' : Nat → Nat → Int32} {r r' : Nat → Nat} (h : Cn l w d c1 s1 av (TT w (GB w hs k T (s, g, r) C Y S) (k + 4) s g r) n (TT w (GB w hs k T (s, g, r) C Y S) (k + 4) s' g' r') n9 v) : Cn l w d c1 s1 av (GB w hs k T (s, g, r) C Y S) n (GB w hs k T (s', g', r') C Y S) n9 v := by
  rw [gb_N, gb_N] at h; exact h
theorem Cn.gC {s s' : Nat → Int32} {g g' : Nat → Nat → Int32} {r r' : Nat → Nat} (h : Cn l w d c1 s1 av (TT w (GB w hs k T N (s, g, r) Y S) (k + 11) s g r) n (TT w (GB w hs k T N (s, g, r) Y S) (k + 11) s' g' r') n9 v) : Cn l w d c1 s1 av (GB w hs k T N (s, g, r) Y S) n (GB w hs k T N (s', g', r') Y S) n9 v := by
  rw [gb_C, gb_C] at h; exact h
theorem Cn.gY {a c a' c' : Int32} {b b' : Nat → Int32} {F F' : Nat → Nat → Int32} {X X' : Nat → Int32} {Z Z' : Nat → Nat → Nat → Int32} (h : Cn l w d c1 s1 av (HI w (GB w hs k T N C (a, c, b, F, X, Z) S) (k + 18) a c b F X Z) n (HI w (GB w hs k T N C (a, c, b, F, X, Z) S) (k + 18) a' c' b' F' X' Z') n9 v) : Cn l w d c1 s1 av (GB w hs k T N C (a, c, b, F, X, Z) S) n (GB w hs k T N C (a', c', b', F', X', Z') S) n9 v := by
  rw [gb_Y, gb_Y] at h; exact h
theorem Cn.gS {b b' : Nat → Int32} {F F' : Nat → Nat → Int32} {X X' : Nat → Int32} {Z Z' : Nat → Nat → Nat → Int32} (h : Cn l w d c1 s1 av (SH w (GB w hs k T N C Y (b, F, X, Z)) (k + 120) 2 b F X Z) n (SH w (GB w hs k T N C Y (b, F, X, Z)) (k + 120) 2 b' F' X' Z') n9 v) : Cn l w d c1 s1 av (GB w hs k T N C Y (b, F, X, Z)) n (GB w hs k T N C Y (b', F', X', Z')) n9 v := by
  rw [gb_S, gb_S] at h; exact h
end
/-- the copy becomes as it is now -/
theorem g_cp {l : Launch} {w : Wt} {hs : Hs} {n : Option Nat} {k : Nat} {T : TXs} {N C : TTs} {Y : HIs} {S : SHs} (h5 : N.1 5 = 0 ∨ N.1 5 = 1) : Cn l w mX4_copyFrom 0 0 [.ref (wB w + (k + 11)), .ref (wB w + (k + 4))] (GB w hs k T N C Y S) n (GB w hs k T N N Y S) n none := by
  have h : Cn l w mX4_copyFrom 0 0 [.ref (wB w + (k + 11)), .ref (wB w + (k + 4))] (TT w (GB w hs k T N C Y S) (k + 11) C.1 C.2.1 C.2.2) n (TT w (GB w hs k T N C Y S) (k + 11) N.1 N.2.1 N.2.2) n none := t_copy (by omega) h5 (fun i hi => gb_now hi)
  rw [gb_C, gb_C] at h; exact h
