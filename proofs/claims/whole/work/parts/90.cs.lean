/-! A STEP CLOSED: the reference's -/
theorem reachF_fr {m x k : Int} {f : Int → Int} (h : k ≠ 3 + 12 * m + 8 ∧ k ≠ 3 + 12 * m + 9) : reachF m x f k = f k := by
  unfold reachF
  try dsimp only
  repeat' (first | rfl | rw [fu_ne h.2] | rw [fu_ne h.1] | split)
theorem gatherF_fr {a m x n k : Int} {f : Int → Int} (h : k < 55 + 7 * (4 * a + m) ∨ 55 + 7 * (4 * a + m) + 7 ≤ k) : gatherF a m x n f k = f k := by
  unfold gatherF
  try dsimp only
  split
  · exact fu_ne (by omega)
  · rw [fu_ne (by omega), fu_ne (by omega)]
    repeat' (first | rfl | rw [fu_ne (by omega)] | split)
theorem gatherI_fr {m x n k : Int} {f : Int → Int} : ∀ c : Nat, (∀ a, 0 ≤ a → a < (c : Int) → k < 55 + 7 * (4 * a + m) ∨ 55 + 7 * (4 * a + m) + 7 ≤ k) → itF (fun a => gatherF a m x n) c f k = f k
  | 0, _ => rfl
  | c + 1, h => by
    show gatherF c m x n _ k = _
    rw [gatherF_fr (h c (by omega) (by omega))]
    exact gatherI_fr c (fun a a0 a1 => h a a0 (by omega))
theorem learnF_fr {lb tb sb C p x off k : Int} {f : Int → Int} (hp : 0 ≤ p ∧ p < 24) (h : k < C ∨ C + 112 ≤ k) : learnF lb tb sb C p x off f k = f k := by
  unfold learnF
  rw [fu_ne (by omega), fu_ne (by omega), fu_ne (by omega), fu_ne (by omega)]
theorem followF_fr {v : QV} {M B m x k : Int} {f : Int → Int} (hs : 2 ≤ v (M + 19) (4 * B + m) ∧ v (M + 19) (4 * B + m) ≤ 24) (h : k < 647 + 112 * m ∨ 647 + 112 * m + 112 ≤ k) : followF v M B m x f k = f k := by
  have p1 := Int.emod_nonneg (f 1) (show v (M + 19) (4 * B + m) ≠ 0 by omega)
  have p2 := Int.emod_lt_of_pos (f 1) (show 0 < v (M + 19) (4 * B + m) by omega)
  unfold followF
  try dsimp only
  split
  · split
    · rfl
    · rw [fu_ne (by omega), fu_ne (by omega)]
  · split
    · rw [fu_ne (by omega), keepF_lo (by omega) (by omega)]
    · rw [learnF_fr (by omega) h, keepF_lo (by omega) (by omega)]
def measF (v : QV) (M B m : Int) (f : Int → Int) : Int → Int :=
  let kn := f (3 + 12 * m + 7)
  let val := if 2 * (v (M + 2) B - kn) < v (M + 2) B then f (3 + 12 * m + 6) / kn else -2147483648
  let g4 := fu (fu (fu (fu f (3 + 12 * m + 5) val) (3 + 12 * m + 10) kn) (3 + 12 * m + 6) 0) (3 + 12 * m + 7) 0
  let g5 := if 2 * (v (M + 2) B - kn) < v (M + 2) B then reachF m val g4 else g4
  let g6 := itF (fun a => gatherF a m val kn) (v (M + 4) B).toNat g5
  if v (M + 18) (4 * B + m) = 0 then g6 else followF v M B m val g6
def closeF (v : QV) (M B : Int) (f : Int → Int) : Int → Int :=
  let g := itF (fun m => measF v M B m) (v (M + 3) B).toNat f
  itF (fun a g => if g 1 % v (M + 15) (4 * B + a) = 0 then rowF v M B a g else g) (v (M + 4) B).toNat (fu g 1 (g 1 + 1))
/-- what a text tells, within bounds -/
def PB (v : QV) (M B : Int) : Prop := (1 ≤ v (M + 2) B ∧ v (M + 2) B ≤ 60) ∧ (0 ≤ v (M + 3) B ∧ v (M + 3) B ≤ 4) ∧ (0 ≤ v (M + 4) B ∧ v (M + 4) B ≤ 4) ∧ (∀ m, 0 ≤ m → m < v (M + 3) B → ¬ v (M + 18) (4 * B + m) = 0 → PBf v M (4 * B + m)) ∧ (∀ a, 0 ≤ a → a < v (M + 4) B → PBa v M (4 * B + a))
def FIm (f : Int → Int) (g K : Int) : Prop := tv (f (g + 4)) ∧ (0 ≤ f (g + 7) ∧ f (g + 7) ≤ K) ∧ (0 ≤ f (g + 6) ∧ f (g + 6) ≤ 999999000 * f (g + 7))
def FI (v : QV) (M B : Int) (f : Int → Int) (K : Int) : Prop := (0 ≤ f 1 ∧ f 1 ≤ 200000) ∧ (∀ m, 0 ≤ m → m < v (M + 3) B → FIm f (3 + 12 * m) K) ∧ (∀ a, 0 ≤ a → a < v (M + 4) B → (0 ≤ f (51 + a) ∧ f (51 + a) ≤ 30) ∧ ∀ m, 0 ≤ m → m < v (M + 3) B → FIt f (55 + 7 * (4 * a + m)) (f 1 % v (M + 15) (4 * B + a))) ∧ (∀ m, 0 ≤ m → m < v (M + 3) B → ¬ v (M + 18) (4 * B + m) = 0 → FIf f (647 + 112 * m))
theorem measF_fr {v : QV} {M B m k : Int} {f : Int → Int} (hn : 0 ≤ v (M + 4) B ∧ v (M + 4) B ≤ 4) (hp : ¬ v (M + 18) (4 * B + m) = 0 → PBf v M (4 * B + m)) (h1 : k < 3 + 12 * m + 5 ∨ 3 + 12 * m + 11 ≤ k) (h2 : ∀ a, 0 ≤ a → a < 4 → k < 55 + 7 * (4 * a + m) ∨ 55 + 7 * (4 * a + m) + 7 ≤ k) (h3 : k < 647 + 112 * m ∨ 647 + 112 * m + 112 ≤ k) : measF v M B m f k = f k := by
  have hI : ∀ val kn g, itF (fun a => gatherF a m val kn) (v (M + 4) B).toNat g k = g k := fun val kn g => gatherI_fr _ (fun a a0 a1 => h2 a a0 (by omega))
  have h4 : ∀ x y, fu (fu (fu (fu f (3 + 12 * m + 5) x) (3 + 12 * m + 10) y) (3 + 12 * m + 6) 0) (3 + 12 * m + 7) 0 k = f k := fun x y => by
    rw [fu_ne (by omega), fu_ne (by omega), fu_ne (by omega), fu_ne (by omega)]
  have h5 : ∀ c : Prop, ∀ d : Decidable c, ∀ x y z, (if c then reachF m z (fu (fu (fu (fu f (3 + 12 * m + 5) x) (3 + 12 * m + 10) y) (3 + 12 * m + 6) 0) (3 + 12 * m + 7) 0) else fu (fu (fu (fu f (3 + 12 * m + 5) x) (3 + 12 * m + 10) y) (3 + 12 * m + 6) 0) (3 + 12 * m + 7) 0) k = f k := fun c d x y z => by
    split
    · rw [reachF_fr (by omega), h4]
    · rw [h4]
  unfold measF
  try dsimp only
  split
  · rw [hI, h5]
  · rename_i q
    rw [followF_fr (hp q).1 h3, hI, h5]
theorem measI_fr {v : QV} {M B k : Int} {f : Int → Int} (hn : 0 ≤ v (M + 4) B ∧ v (M + 4) B ≤ 4) : ∀ n : Nat, (∀ m, 0 ≤ m → m < (n : Int) → (¬ v (M + 18) (4 * B + m) = 0 → PBf v M (4 * B + m)) ∧ (k < 3 + 12 * m + 5 ∨ 3 + 12 * m + 11 ≤ k) ∧ (∀ a, 0 ≤ a → a < 4 → k < 55 + 7 * (4 * a + m) ∨ 55 + 7 * (4 * a + m) + 7 ≤ k) ∧ (k < 647 + 112 * m ∨ 647 + 112 * m + 112 ≤ k)) → itF (fun m => measF v M B m) n f k = f k
  | 0, _ => rfl
  | n + 1, h => by
    obtain ⟨q1, q2, q3, q4⟩ := h n (by omega) (by omega)
    show measF v M B n _ k = _
    rw [measF_fr hn q1 q2 q3 q4]
    exact measI_fr hn n (fun m m0 m1 => h m m0 (by omega))
theorem rowF_fr {v : QV} {M B a k : Int} {f : Int → Int} (hn : v (M + 3) B ≤ 4) (h0 : k ≠ 51 + a) (h1 : k < 55 + 28 * a ∨ 55 + 28 * a + 28 ≤ k) (h2 : k < 167 + 120 * a ∨ 167 + 120 * a + 120 ≤ k) : rowF v M B a f k = f k := by
  unfold rowF
  rw [rowI_fr _ (fun m m0 m1 => by omega)]
  split
  · exact fu_ne h0
  · rfl
theorem rowsI_fr {v : QV} {M B k : Int} {f : Int → Int} (hn : v (M + 3) B ≤ 4) : ∀ n : Nat, (∀ a, 0 ≤ a → a < (n : Int) → k ≠ 51 + a ∧ (k < 55 + 28 * a ∨ 55 + 28 * a + 28 ≤ k) ∧ (k < 167 + 120 * a ∨ 167 + 120 * a + 120 ≤ k)) → itF (fun a g => if g 1 % v (M + 15) (4 * B + a) = 0 then rowF v M B a g else g) n f k = f k
  | 0, _ => rfl
  | n + 1, h => by
    obtain ⟨q1, q2, q3⟩ := h n (by omega) (by omega)
    have ih := rowsI_fr (f := f) hn n (fun m m0 m1 => h m m0 (by omega))
    show (if _ then rowF v M B n _ else _) k = _
    split
    · rw [rowF_fr hn q1 q2 q3]; exact ih
    · exact ih
/-- a value added, known or not -/
theorem gatherF_U {a m n : Int} {f : Int → Int} (h : 0 ≤ f (55 + 7 * (4 * a + m) + 6) ∧ f (55 + 7 * (4 * a + m) + 6) ≤ 1000) : gatherF a m (-2147483648) n f = fu f (55 + 7 * (4 * a + m) + 6) (f (55 + 7 * (4 * a + m) + 6) + 1) := by
  unfold gatherF
  rw [if_pos rfl, w64_e (by omega)]
theorem gatherF_k {a m x n N : Int} {f : Int → Int} (hx : 0 ≤ x ∧ x ≤ 999999000) (hn : 0 ≤ n ∧ n ≤ 60) (hN : N ≤ 12) (h : FIt f (55 + 7 * (4 * a + m)) N) : (gatherF a m x n f (55 + 7 * (4 * a + m) + 0) = f (55 + 7 * (4 * a + m) + 0) + x * n ∧ gatherF a m x n f (55 + 7 * (4 * a + m) + 1) = f (55 + 7 * (4 * a + m) + 1) + n) ∧ (gatherF a m x n f (55 + 7 * (4 * a + m) + 2) = (if f (55 + 7 * (4 * a + m) + 5) = 0 ∨ f (55 + 7 * (4 * a + m) + 2) < x then x else f (55 + 7 * (4 * a + m) + 2)) ∧ gatherF a m x n f (55 + 7 * (4 * a + m) + 3) = (if f (55 + 7 * (4 * a + m) + 5) = 0 ∨ x < f (55 + 7 * (4 * a + m) + 3) then x else f (55 + 7 * (4 * a + m) + 3)) ∧ gatherF a m x n f (55 + 7 * (4 * a + m) + 4) = x) ∧ gatherF a m x n f (55 + 7 * (4 * a + m) + 5) = f (55 + 7 * (4 * a + m) + 5) + 1 ∧ gatherF a m x n f (55 + 7 * (4 * a + m) + 6) = f (55 + 7 * (4 * a + m) + 6) := by
  unfold FIt at h
  unfold gatherF
  generalize 55 + 7 * (4 * a + m) = G at *
  have b1 := Int.mul_le_mul hx.2 hn.2 hn.1 (by omega)
  have b2 : 0 ≤ x * n := Int.mul_nonneg hx.1 hn.1
  obtain ⟨⟨h5, h6, h56⟩, h1, h0, -⟩ := h
  rw [if_neg (show ¬ x = -2147483648 by omega)]
  try dsimp only
  generalize hy : x * n = y at *
  have w1 : w64 y = y := w64_e (by omega)
  have w2 : w64 (f (G + 0) + y) = f (G + 0) + y := by clear w1; exact w64_e (by omega)
  have w3 : w64 (f (G + 1) + n) = f (G + 1) + n := by clear w1 w2; exact w64_e (by omega)
  have w4 : w64 (f (G + 5) + 1) = f (G + 5) + 1 := by clear w1 w2 w3; exact w64_e (by omega)
  rw [w1, w2, fu_ne (f := f) (show G + 1 ≠ G + 0 by clear w1 w2 w3 w4; omega), w3]
  generalize hg2 : fu (fu f (G + 0) (f (G + 0) + y)) (G + 1) (f (G + 1) + n) = g2
  have c0 : g2 (G + 0) = f (G + 0) + y := by rw [← hg2, fu_ne (by clear w1 w2 w3 w4; omega), fu_is]
  have c1 : g2 (G + 1) = f (G + 1) + n := by rw [← hg2, fu_is]
  have cr : ∀ j, 2 ≤ j → g2 (G + j) = f (G + j) := fun j q => by rw [← hg2, fu_ne (by clear w1 w2 w3 w4; omega), fu_ne (by clear w1 w2 w3 w4; omega)]
  clear hg2 w1 w2 w3
  rw [cr 2 (by decide)]
  generalize hg3 : (if f (G + 5) = 0 ∨ f (G + 2) < x then fu g2 (G + 2) x else g2) = g3
  have d2 : g3 (G + 2) = (if f (G + 5) = 0 ∨ f (G + 2) < x then x else f (G + 2)) := by
    rw [← hg3]; split
    · exact fu_is
    · exact cr 2 (by decide)
  have dr : ∀ j, j ≠ 2 → g3 (G + j) = g2 (G + j) := fun j q => by
    rw [← hg3]; split
    · exact fu_ne (by clear w4; omega)
    · rfl
  clear hg3
  rw [dr 3 (by decide), cr 3 (by decide)]
  generalize hg4 : (if f (G + 5) = 0 ∨ x < f (G + 3) then fu g3 (G + 3) x else g3) = g4
  have e3 : g4 (G + 3) = (if f (G + 5) = 0 ∨ x < f (G + 3) then x else f (G + 3)) := by
    rw [← hg4]; split
    · exact fu_is
    · rw [dr 3 (by decide)]; exact cr 3 (by decide)
  have er : ∀ j, j ≠ 3 → g4 (G + j) = g3 (G + j) := fun j q => by
    rw [← hg4]; split
    · exact fu_ne (by clear w4; omega)
    · rfl
  clear hg4
  rw [fu_ne (f := g4) (show G + 5 ≠ G + 4 by clear w4; omega), er 5 (by decide), dr 5 (by decide), cr 5 (by decide), w4]
  clear w4
  have fr : ∀ z j, j ≠ 4 → j ≠ 5 → fu (fu g4 (G + 4) x) (G + 5) z (G + j) = g4 (G + j) := fun z j q q2 => by rw [fu_ne (by omega), fu_ne (by omega)]
  refine ⟨⟨?_, ?_⟩, ⟨?_, ?_, ?_⟩, ?_, ?_⟩
  · rw [fr _ 0 (by decide) (by decide), er 0 (by decide), dr 0 (by decide), c0]
  · rw [fr _ 1 (by decide) (by decide), er 1 (by decide), dr 1 (by decide), c1]
  · rw [fr _ 2 (by decide) (by decide), er 2 (by decide), d2]
  · rw [fr _ 3 (by decide) (by decide), e3]
  · rw [fu_ne (by omega), fu_is]
  · rw [fu_is]
  · rw [fr _ 6 (by decide) (by decide), er 6 (by decide), dr 6 (by decide), cr 6 (by decide)]
theorem gatherF_t {a m x n N : Int} {f : Int → Int} (hx : tv x) (hn : ¬ x = -2147483648 → 1 ≤ n ∧ n ≤ 60) (hN : N ≤ 12) (h : FIt f (55 + 7 * (4 * a + m)) N) : FIt (gatherF a m x n f) (55 + 7 * (4 * a + m)) (N + 1) := by
  by_cases c : x = -2147483648
  · subst c
    unfold FIt at h ⊢
    rw [gatherF_U (by omega)]
    generalize 55 + 7 * (4 * a + m) = G at *
    rw [fu_ne (show G + 5 ≠ G + 6 by omega), fu_ne (show G + 1 ≠ G + 6 by omega), fu_ne (show G + 0 ≠ G + 6 by omega), fu_ne (show G + 2 ≠ G + 6 by omega), fu_ne (show G + 3 ≠ G + 6 by omega), fu_ne (show G + 4 ≠ G + 6 by omega), fu_is]
    obtain ⟨h1, h2, h3, h4⟩ := h
    exact ⟨by omega, h2, h3, h4⟩
  · have hx2 : 0 ≤ x ∧ x ≤ 999999000 := by unfold tv at hx; omega
    have hn2 := hn c
    obtain ⟨⟨g0, g1⟩, ⟨g2, g3, g4⟩, g5, g6⟩ := gatherF_k hx2 (n := n) (by omega) hN h
    unfold FIt at h ⊢
    rw [g0, g1, g2, g3, g4, g5, g6]
    generalize 55 + 7 * (4 * a + m) = G at *
    clear g0 g1 g2 g3 g4 g5 g6
    obtain ⟨h1, h2, h3, h4⟩ := h
    have b1 := Int.mul_le_mul_of_nonneg_right hx2.2 (show 0 ≤ n by omega)
    have b2 : 0 ≤ x * n := Int.mul_nonneg hx2.1 (by omega)
    generalize x * n = y at *
    refine ⟨by omega, by omega, by omega, fun _ => ⟨?_, ?_, hx2⟩⟩
    · by_cases q : f (G + 5) = 0
      · rw [if_pos (Or.inl q)]; exact hx2
      · have := h4 q
        split <;> omega
    · by_cases q : f (G + 5) = 0
      · rw [if_pos (Or.inl q)]; exact hx2
      · have := h4 q
        split <;> omega
