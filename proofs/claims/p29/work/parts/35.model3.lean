theorem drn_s {f : Nat → Int32} {k g i : Nat} {sm y : Int32} (h0 : ¬ g = 0) (e1 : f (4 * g + 2) = nI i) (hi : i < 2 ^ 31) : drn f (k + 1) sm g y = drn f k (sm + (f (4 * g + 0) - y)) i (f (4 * g + 3)) := by
  show (if g = 0 then _ else _) = _
  rw [if_neg h0, e1, nI_clamp hi]
theorem mv_1 {f : Nat → Int32} {nb b g : Nat} (hg : f (24 + 10 * b + 4) = nI g) (h9 : g < 6) (h1 : f (24 + 10 * b + 5) + 1 = f (4 * g + 0)) (h2 : nI g = 0) : mv f nb b = (false, arv f b) := by
  unfold mv; rw [hg, nI_clamp (by omega), if_pos h1, if_pos h2]
theorem mv_2 {f : Nat → Int32} {nb b g : Nat} (hg : f (24 + 10 * b + 4) = nI g) (h9 : g < 6) (h1 : f (24 + 10 * b + 5) + 1 = f (4 * g + 0)) (h2 : nI g ≠ 0) : mv f nb b = mv2 f nb b (f (4 * g + 2)) (f (4 * g + 3)) := by
  unfold mv; rw [hg, nI_clamp (by omega), if_pos h1, if_neg h2]
theorem mv_3 {f : Nat → Int32} {nb b g : Nat} (hg : f (24 + 10 * b + 4) = nI g) (h9 : g < 6) (h1 : f (24 + 10 * b + 5) + 1 ≠ f (4 * g + 0)) : mv f nb b = mv2 f nb b (nI g) (f (24 + 10 * b + 5) + 1) := by
  unfold mv; rw [hg, nI_clamp (by omega), if_neg h1]
