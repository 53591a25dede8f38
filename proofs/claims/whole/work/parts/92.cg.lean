/-! A STEP CLOSED: what stays within bounds -/
theorem fu_cong {f g : Int → Int} {G k x : Int} (h : ∀ i, 0 ≤ i → i < 7 → g (G + i) = f (G + i)) : ∀ i, 0 ≤ i → i < 7 → fu g k x (G + i) = fu f k x (G + i) := by
  intro i i0 i1
  rw [fu_ap, fu_ap]
  split
  · rfl
  · exact h i i0 i1
theorem fi_cong {f g f' g' : Int → Int} {G : Int} {c : Prop} [Decidable c] (h : ∀ i, 0 ≤ i → i < 7 → g (G + i) = f (G + i)) (h' : ∀ i, 0 ≤ i → i < 7 → g' (G + i) = f' (G + i)) : ∀ i, 0 ≤ i → i < 7 → (if c then g else g') (G + i) = (if c then f else f') (G + i) := by
  intro i i0 i1
  split
  · exact h i i0 i1
  · exact h' i i0 i1
theorem gatherF_cong {a m x n : Int} {f g : Int → Int} (h : ∀ i, 0 ≤ i → i < 7 → g (55 + 7 * (4 * a + m) + i) = f (55 + 7 * (4 * a + m) + i)) : ∀ i, 0 ≤ i → i < 7 → gatherF a m x n g (55 + 7 * (4 * a + m) + i) = gatherF a m x n f (55 + 7 * (4 * a + m) + i) := by
  unfold gatherF
  generalize 55 + 7 * (4 * a + m) = G at *
  try dsimp only
  rw [h 0 (by decide) (by decide), h 5 (by decide) (by decide), h 6 (by decide) (by decide)]
  refine fi_cong (fu_cong h) ?_
  have E1 := fu_cong (k := G + 0) (x := w64 (f (G + 0) + w64 (x * n))) h
  generalize fu g (G + 0) (w64 (f (G + 0) + w64 (x * n))) = g1 at *
  generalize fu f (G + 0) (w64 (f (G + 0) + w64 (x * n))) = f1 at *
  rw [E1 1 (by decide) (by decide)]
  have E2 := fu_cong (k := G + 1) (x := w64 (f1 (G + 1) + n)) E1
  generalize fu g1 (G + 1) (w64 (f1 (G + 1) + n)) = g2 at *
  generalize fu f1 (G + 1) (w64 (f1 (G + 1) + n)) = f2 at *
  rw [E2 2 (by decide) (by decide)]
  have E3 := fi_cong (c := f (G + 5) = 0 ∨ f2 (G + 2) < x) (fu_cong (k := G + 2) (x := x) E2) E2
  generalize (if f (G + 5) = 0 ∨ f2 (G + 2) < x then fu g2 (G + 2) x else g2) = g3 at *
  generalize (if f (G + 5) = 0 ∨ f2 (G + 2) < x then fu f2 (G + 2) x else f2) = f3 at *
  rw [E3 3 (by decide) (by decide)]
  have E4 := fi_cong (c := f (G + 5) = 0 ∨ x < f3 (G + 3)) (fu_cong (k := G + 3) (x := x) E3) E3
  generalize (if f (G + 5) = 0 ∨ x < f3 (G + 3) then fu g3 (G + 3) x else g3) = g4 at *
  generalize (if f (G + 5) = 0 ∨ x < f3 (G + 3) then fu f3 (G + 3) x else f3) = f4 at *
  have E5 := fu_cong (k := G + 4) (x := x) E4
  rw [E5 5 (by decide) (by decide)]
  exact fu_cong E5
theorem gatherI_at {m x n a : Int} {f : Int → Int} (h0 : 0 ≤ a) : ∀ c : Nat, a < (c : Int) → ∀ i, 0 ≤ i → i < 7 → itF (fun a => gatherF a m x n) c f (55 + 7 * (4 * a + m) + i) = gatherF a m x n f (55 + 7 * (4 * a + m) + i)
  | 0, h => by omega
  | c + 1, h => by
    intro i i0 i1
    show gatherF c m x n _ _ = _
    by_cases e : a = c
    · subst e
      exact gatherF_cong (fun j j0 j1 => gatherI_fr c (fun a a0 a1 => by omega)) i i0 i1
    · rw [gatherF_fr (by omega)]
      exact gatherI_at h0 c (by omega) i i0 i1
/-- a measure's value of the step -/
def valF (v : QV) (M B m : Int) (f : Int → Int) : Int := if 2 * (v (M + 2) B - f (3 + 12 * m + 7)) < v (M + 2) B then f (3 + 12 * m + 6) / f (3 + 12 * m + 7) else -2147483648
theorem valF_tv {v : QV} {M B m : Int} {f : Int → Int} (hs : 1 ≤ v (M + 2) B) (h : FIm f (3 + 12 * m) (v (M + 2) B)) : tv (valF v M B m f) ∧ (¬ valF v M B m f = -2147483648 → 1 ≤ f (3 + 12 * m + 7) ∧ f (3 + 12 * m + 7) ≤ v (M + 2) B) := by
  obtain ⟨-, h7, h6⟩ := h
  unfold valF tv
  split
  · rename_i q
    have p : 0 < f (3 + 12 * m + 7) := by omega
    have := Int.ediv_nonneg h6.1 (Int.le_of_lt p)
    have := Int.ediv_le_of_le_mul p h6.2
    exact ⟨by omega, fun _ => by omega⟩
  · exact ⟨Or.inl rfl, fun q => absurd rfl q⟩
/-- what a closed step leaves of a measure -/
theorem measF_g {v : QV} {M B m a : Int} {f : Int → Int} (hm : 0 ≤ m ∧ m < 4) (hp : ¬ v (M + 18) (4 * B + m) = 0 → PBf v M (4 * B + m)) (ha : 0 ≤ a ∧ a < v (M + 4) B) (hna : v (M + 4) B ≤ 4) : ∀ i, 0 ≤ i → i < 7 → measF v M B m f (55 + 7 * (4 * a + m) + i) = gatherF a m (valF v M B m f) (f (3 + 12 * m + 7)) f (55 + 7 * (4 * a + m) + i) := by
  intro i i0 i1
  unfold measF
  try dsimp only
  rw [show (if 2 * (v (M + 2) B - f (3 + 12 * m + 7)) < v (M + 2) B then f (3 + 12 * m + 6) / f (3 + 12 * m + 7) else -2147483648) = valF v M B m f from rfl]
  generalize valF v M B m f = val
  generalize hkn : f (3 + 12 * m + 7) = kn
  have fr4 : ∀ k, 3 + 12 * m + 11 ≤ k → fu (fu (fu (fu f (3 + 12 * m + 5) val) (3 + 12 * m + 10) kn) (3 + 12 * m + 6) 0) (3 + 12 * m + 7) 0 k = f k := fun k q => by
    rw [fu_ne (by omega), fu_ne (by omega), fu_ne (by omega), fu_ne (by omega)]
  generalize fu (fu (fu (fu f (3 + 12 * m + 5) val) (3 + 12 * m + 10) kn) (3 + 12 * m + 6) 0) (3 + 12 * m + 7) 0 = g4 at *
  have fr5 : ∀ k, 3 + 12 * m + 11 ≤ k → (if 2 * (v (M + 2) B - kn) < v (M + 2) B then reachF m val g4 else g4) k = f k := fun k q => by
    split
    · rw [reachF_fr (by omega), fr4 k q]
    · exact fr4 k q
  generalize (if 2 * (v (M + 2) B - kn) < v (M + 2) B then reachF m val g4 else g4) = g5 at *
  have h6 : itF (fun a => gatherF a m val kn) (v (M + 4) B).toNat g5 (55 + 7 * (4 * a + m) + i) = gatherF a m val kn f (55 + 7 * (4 * a + m) + i) := by
    rw [gatherI_at ha.1 _ (by omega) i i0 i1]
    exact gatherF_cong (fun j j0 j1 => fr5 _ (by omega)) i i0 i1
  split
  · exact h6
  · rename_i q
    rw [followF_fr (hp q).1 (by omega)]
    exact h6
theorem measF_t {v : QV} {M B m a N : Int} {f : Int → Int} (hm : 0 ≤ m ∧ m < 4) (hs : 1 ≤ v (M + 2) B ∧ v (M + 2) B ≤ 60) (hp : ¬ v (M + 18) (4 * B + m) = 0 → PBf v M (4 * B + m)) (ha : 0 ≤ a ∧ a < v (M + 4) B) (hna : v (M + 4) B ≤ 4) (hN : N ≤ 12) (hF : FIm f (3 + 12 * m) (v (M + 2) B)) (h : FIt f (55 + 7 * (4 * a + m)) N) : FIt (measF v M B m f) (55 + 7 * (4 * a + m)) (N + 1) := by
  obtain ⟨t1, t2⟩ := valF_tv hs.1 hF
  exact (gatherF_t t1 (fun q => by have := t2 q; omega) hN h).cong (measF_g hm hp ha hna)
theorem keepF_3 {C x t : Int} {f : Int → Int} (h : 0 ≤ f (C + 3)) : 0 ≤ keepF C x t f (C + 3) := by
  unfold keepF
  rw [if_neg (by omega), if_neg (by omega), if_pos rfl]
  split <;> omega
theorem mixF_n {z x y : Int} (hz : 0 ≤ z ∧ z ≤ 16) (hx : 0 ≤ x) (hy : 0 ≤ y) : 0 ≤ mixF z x y := by
  have h1 : 0 ≤ z * x := Int.mul_nonneg hz.1 hx
  have h2 : 0 ≤ (16 - z) * y := Int.mul_nonneg (by omega) hy
  have := (td16 (n := z * x + (16 - z) * y)).1 (by omega)
  unfold mixF hd
  split
  · omega
  · split <;> omega
theorem in2_hd (x : Int) : in2 (hd x) := hd_in x
theorem in2_mix (z x y : Int) : in2 (mixF z x y) := mixF_b z x y
theorem followF_f {v : QV} {M B m x : Int} {f : Int → Int} (hp : PBf v M (4 * B + m)) (h : FIf f (647 + 112 * m)) : FIf (followF v M B m x f) (647 + 112 * m) := by
  obtain ⟨hs, -, -, hsb, -⟩ := hp
  have p1 := Int.emod_nonneg (f 1) (show v (M + 19) (4 * B + m) ≠ 0 by omega)
  have p2 := Int.emod_lt_of_pos (f 1) (show 0 < v (M + 19) (4 * B + m) by omega)
  obtain ⟨h0, h1, hj, h3⟩ := h
  unfold followF
  try dsimp only
  generalize 647 + 112 * m = C at *
  generalize f 1 % v (M + 19) (4 * B + m) = p at *
  split
  · split
    · exact ⟨h0, h1, hj, h3⟩
    · refine ⟨by rw [fu_is]; exact in2_hd _, by rw [fu_ne (by omega), fu_ne (by omega)]; exact h1, fun j j0 j1 => ?_, by rw [fu_ne (by omega), fu_ne (by omega)]; exact h3⟩
      rw [fu_ne (by omega), fu_ne (by omega), fu_ne (by omega), fu_ne (by omega)]
      exact hj j j0 j1
  · generalize hz : (if (¬ x = -2147483648 ∧ 0 < f (C + (28 + p))) ∧ v (M + 23) (4 * B + m) * f (C + (28 + p)) < if hd (f (C + 0) + f (C + 1) + f (C + (4 + p))) < x then x - hd (f (C + 0) + f (C + 1) + f (C + (4 + p))) else hd (f (C + 0) + f (C + 1) + f (C + (4 + p))) - x then (1 : Int) else 0) = z
    have k3 := keepF_3 (x := hd (f (C + 0) + f (C + 1) + f (C + (4 + p)))) (t := z) h3
    have klo : ∀ k, k < C + 52 → k ≠ C + 3 → keepF C (hd (f (C + 0) + f (C + 1) + f (C + (4 + p)))) z f k = f k := fun k q q3 => keepF_lo (Or.inl q) q3
    have ho : 0 ≤ (if hd (f (C + 0) + f (C + 1) + f (C + (4 + p))) < x then x - hd (f (C + 0) + f (C + 1) + f (C + (4 + p))) else hd (f (C + 0) + f (C + 1) + f (C + (4 + p))) - x) := by split <;> omega
    generalize (if hd (f (C + 0) + f (C + 1) + f (C + (4 + p))) < x then x - hd (f (C + 0) + f (C + 1) + f (C + (4 + p))) else hd (f (C + 0) + f (C + 1) + f (C + (4 + p))) - x) = off at *
    generalize keepF C (hd (f (C + 0) + f (C + 1) + f (C + (4 + p)))) z f = g at *
    split
    · refine ⟨by rw [fu_is]; exact in2_hd _, by rw [fu_ne (by omega), klo _ (by omega) (by omega)]; exact h1, fun j j0 j1 => ?_, by rw [fu_ne (by omega)]; exact k3⟩
      rw [fu_ne (by omega), fu_ne (by omega), klo _ (by omega) (by omega), klo _ (by omega) (by omega)]
      exact hj j j0 j1
    · unfold learnF
      have g28 := klo (C + (28 + p)) (by omega) (by omega)
      have hjp := hj p p1 (by omega)
      refine ⟨?_, ?_, fun j j0 j1 => ⟨?_, ?_⟩, ?_⟩
      · rw [fu_ne (by omega), fu_ne (by omega), fu_ne (by omega), fu_is]; exact in2_mix _ _ _
      · rw [fu_ne (by omega), fu_ne (by omega), fu_is]; exact in2_mix _ _ _
      · rw [fu_ne (by omega)]
        by_cases e : j = p
        · subst e; rw [fu_is]; exact in2_mix _ _ _
        · rw [fu_ne (by omega), fu_ne (by omega), fu_ne (by omega), klo _ (by omega) (by omega)]; exact (hj j j0 j1).1
      · by_cases e : j = p
        · subst e
          rw [fu_is, g28]
          exact ⟨mixF_n hsb ho hjp.2.1, (mixF_b _ _ _).2⟩
        · rw [fu_ne (by omega), fu_ne (by omega), fu_ne (by omega), fu_ne (by omega), klo _ (by omega) (by omega)]; exact (hj j j0 j1).2
      · rw [fu_ne (by omega), fu_ne (by omega), fu_ne (by omega), fu_ne (by omega)]; exact k3
theorem keepF_cong {C x t : Int} {f g : Int → Int} (h : ∀ i, 0 ≤ i → i < 112 → g (C + i) = f (C + i)) : ∀ i, 0 ≤ i → i < 112 → keepF C x t g (C + i) = keepF C x t f (C + i) := by
  intro i i0 i1
  unfold keepF
  rw [h 3 (by decide) (by decide), h i i0 i1]
  split
  · rfl
  · split
    · rfl
    · split
      · rfl
      · split
        · have := h (i - 1) (by omega) (by omega)
          rw [show C + i - 1 = C + (i - 1) by omega]
          exact this
        · rfl
theorem fuC {f g : Int → Int} {C k x : Int} (h : ∀ i, 0 ≤ i → i < 112 → g (C + i) = f (C + i)) : ∀ i, 0 ≤ i → i < 112 → fu g k x (C + i) = fu f k x (C + i) := by
  intro i i0 i1
  rw [fu_ap, fu_ap]
  split
  · rfl
  · exact h i i0 i1
theorem followF_cong {v : QV} {M B m x : Int} {f g : Int → Int} (hs : 2 ≤ v (M + 19) (4 * B + m) ∧ v (M + 19) (4 * B + m) ≤ 24) (h1 : g 1 = f 1) (h : ∀ i, 0 ≤ i → i < 112 → g (647 + 112 * m + i) = f (647 + 112 * m + i)) : ∀ i, 0 ≤ i → i < 112 → followF v M B m x g (647 + 112 * m + i) = followF v M B m x f (647 + 112 * m + i) := by
  have p1 := Int.emod_nonneg (f 1) (show v (M + 19) (4 * B + m) ≠ 0 by omega)
  have p2 := Int.emod_lt_of_pos (f 1) (show 0 < v (M + 19) (4 * B + m) by omega)
  unfold followF
  try dsimp only
  rw [h1]
  generalize 647 + 112 * m = C at *
  generalize f 1 % v (M + 19) (4 * B + m) = p at *
  rw [h 0 (by decide) (by decide), h 1 (by decide) (by decide), h 2 (by decide) (by decide), h (4 + p) (by omega) (by omega), h (28 + p) (by omega) (by omega)]
  intro i i0 i1
  split
  · split
    · exact h i i0 i1
    · exact fuC (fuC h) i i0 i1
  · have E := keepF_cong (x := hd (f (C + 0) + f (C + 1) + f (C + (4 + p)))) (t := if (¬ x = -2147483648 ∧ 0 < f (C + (28 + p))) ∧ v (M + 23) (4 * B + m) * f (C + (28 + p)) < if hd (f (C + 0) + f (C + 1) + f (C + (4 + p))) < x then x - hd (f (C + 0) + f (C + 1) + f (C + (4 + p))) else hd (f (C + 0) + f (C + 1) + f (C + (4 + p))) - x then (1 : Int) else 0) h
    generalize (if (¬ x = -2147483648 ∧ 0 < f (C + (28 + p))) ∧ v (M + 23) (4 * B + m) * f (C + (28 + p)) < if hd (f (C + 0) + f (C + 1) + f (C + (4 + p))) < x then x - hd (f (C + 0) + f (C + 1) + f (C + (4 + p))) else hd (f (C + 0) + f (C + 1) + f (C + (4 + p))) - x then (1 : Int) else 0) = z at *
    generalize (if hd (f (C + 0) + f (C + 1) + f (C + (4 + p))) < x then x - hd (f (C + 0) + f (C + 1) + f (C + (4 + p))) else hd (f (C + 0) + f (C + 1) + f (C + (4 + p))) - x) = off at *
    generalize hd (f (C + 0) + f (C + 1) + f (C + (4 + p))) = t at *
    generalize keepF C t z f = F at *
    generalize keepF C t z g = G at *
    split
    · rw [E 0 (by decide) (by decide), E 1 (by decide) (by decide)]
      exact fuC E i i0 i1
    · unfold learnF
      rw [E 0 (by decide) (by decide), E 1 (by decide) (by decide), E (4 + p) (by omega) (by omega), E (28 + p) (by omega) (by omega)]
      exact fuC (fuC (fuC (fuC E))) i i0 i1
theorem measF_c {v : QV} {M B m : Int} {f : Int → Int} (hm : 0 ≤ m ∧ m < 4) (hc : ¬ v (M + 18) (4 * B + m) = 0) (hp : PBf v M (4 * B + m)) (hna : 0 ≤ v (M + 4) B ∧ v (M + 4) B ≤ 4) : ∀ i, 0 ≤ i → i < 112 → measF v M B m f (647 + 112 * m + i) = followF v M B m (valF v M B m f) f (647 + 112 * m + i) := by
  unfold measF
  try dsimp only
  rw [show (if 2 * (v (M + 2) B - f (3 + 12 * m + 7)) < v (M + 2) B then f (3 + 12 * m + 6) / f (3 + 12 * m + 7) else -2147483648) = valF v M B m f from rfl, if_neg hc]
  generalize valF v M B m f = val
  generalize hkn : f (3 + 12 * m + 7) = kn
  have fr4 : ∀ k, k < 3 + 12 * m + 5 ∨ 3 + 12 * m + 11 ≤ k → fu (fu (fu (fu f (3 + 12 * m + 5) val) (3 + 12 * m + 10) kn) (3 + 12 * m + 6) 0) (3 + 12 * m + 7) 0 k = f k := fun k q => by
    rw [fu_ne (by omega), fu_ne (by omega), fu_ne (by omega), fu_ne (by omega)]
  generalize fu (fu (fu (fu f (3 + 12 * m + 5) val) (3 + 12 * m + 10) kn) (3 + 12 * m + 6) 0) (3 + 12 * m + 7) 0 = g4 at *
  have fr5 : ∀ k, k < 3 + 12 * m + 5 ∨ 3 + 12 * m + 11 ≤ k → (if 2 * (v (M + 2) B - kn) < v (M + 2) B then reachF m val g4 else g4) k = f k := fun k q => by
    split
    · rw [reachF_fr (by omega), fr4 k q]
    · exact fr4 k q
  generalize (if 2 * (v (M + 2) B - kn) < v (M + 2) B then reachF m val g4 else g4) = g5 at *
  have fr6 : ∀ k, (k < 3 + 12 * m + 5 ∨ 3 + 12 * m + 11 ≤ k) → (k < 55 ∨ 167 ≤ k) → itF (fun a => gatherF a m val kn) (v (M + 4) B).toNat g5 k = f k := fun k q q2 => by
    rw [gatherI_fr _ (fun a a0 a1 => by omega), fr5 k q]
  exact followF_cong hp.1 (fr6 1 (by omega) (by omega)) (fun j j0 j1 => fr6 _ (by omega) (by omega))
theorem reachF_8 {m x : Int} {g : Int → Int} : reachF m x g (3 + 12 * m + 8) = if g (3 + 12 * m + 8) = -2147483648 ∨ g (3 + 12 * m + 8) < x then x else g (3 + 12 * m + 8) := by
  unfold reachF
  by_cases d : g (3 + 12 * m + 8) = -2147483648 ∨ g (3 + 12 * m + 8) < x
  · simp only [if_pos d]
    split
    · rw [fu_ne (by omega), fu_is]
    · rw [fu_is]
  · simp only [if_neg d]
    split
    · rw [fu_ne (by omega)]
    · rfl
theorem reachF_9 {m x : Int} {g : Int → Int} : reachF m x g (3 + 12 * m + 9) = if g (3 + 12 * m + 9) = -2147483648 ∨ x < g (3 + 12 * m + 9) then x else g (3 + 12 * m + 9) := by
  have hn : ∀ z, fu g (3 + 12 * m + 8) z (3 + 12 * m + 9) = g (3 + 12 * m + 9) := fun z => fu_ne (by omega)
  unfold reachF
  by_cases d : g (3 + 12 * m + 8) = -2147483648 ∨ g (3 + 12 * m + 8) < x
  · simp only [if_pos d, hn]
    split
    · rw [fu_is]
    · rw [hn]
  · simp only [if_neg d]
    split
    · rw [fu_is]
    · rfl
/-- the measure's own numbers -/
theorem measF_m {v : QV} {M B m : Int} {f : Int → Int} (hm : 0 ≤ m ∧ m < 4) (hp : ¬ v (M + 18) (4 * B + m) = 0 → PBf v M (4 * B + m)) (hna : 0 ≤ v (M + 4) B ∧ v (M + 4) B ≤ 4) : (measF v M B m f (3 + 12 * m + 5) = valF v M B m f ∧ measF v M B m f (3 + 12 * m + 6) = 0 ∧ measF v M B m f (3 + 12 * m + 7) = 0) ∧ measF v M B m f (3 + 12 * m + 8) = (if 2 * (v (M + 2) B - f (3 + 12 * m + 7)) < v (M + 2) B ∧ (f (3 + 12 * m + 8) = -2147483648 ∨ f (3 + 12 * m + 8) < valF v M B m f) then valF v M B m f else f (3 + 12 * m + 8)) ∧ measF v M B m f (3 + 12 * m + 9) = (if 2 * (v (M + 2) B - f (3 + 12 * m + 7)) < v (M + 2) B ∧ (f (3 + 12 * m + 9) = -2147483648 ∨ valF v M B m f < f (3 + 12 * m + 9)) then valF v M B m f else f (3 + 12 * m + 9)) ∧ measF v M B m f (3 + 12 * m + 10) = f (3 + 12 * m + 7) := by
  have key : ∀ k, 0 ≤ k → k < 12 → measF v M B m f (3 + 12 * m + k) = (if 2 * (v (M + 2) B - f (3 + 12 * m + 7)) < v (M + 2) B then reachF m (valF v M B m f) (fu (fu (fu (fu f (3 + 12 * m + 5) (valF v M B m f)) (3 + 12 * m + 10) (f (3 + 12 * m + 7))) (3 + 12 * m + 6) 0) (3 + 12 * m + 7) 0) else fu (fu (fu (fu f (3 + 12 * m + 5) (valF v M B m f)) (3 + 12 * m + 10) (f (3 + 12 * m + 7))) (3 + 12 * m + 6) 0) (3 + 12 * m + 7) 0) (3 + 12 * m + k) := by
    intro k k0 k1
    unfold measF
    try dsimp only
    rw [show (if 2 * (v (M + 2) B - f (3 + 12 * m + 7)) < v (M + 2) B then f (3 + 12 * m + 6) / f (3 + 12 * m + 7) else -2147483648) = valF v M B m f from rfl]
    generalize (if 2 * (v (M + 2) B - f (3 + 12 * m + 7)) < v (M + 2) B then reachF m (valF v M B m f) (fu (fu (fu (fu f (3 + 12 * m + 5) (valF v M B m f)) (3 + 12 * m + 10) (f (3 + 12 * m + 7))) (3 + 12 * m + 6) 0) (3 + 12 * m + 7) 0) else fu (fu (fu (fu f (3 + 12 * m + 5) (valF v M B m f)) (3 + 12 * m + 10) (f (3 + 12 * m + 7))) (3 + 12 * m + 6) 0) (3 + 12 * m + 7) 0) = g5
    have h6 : itF (fun a => gatherF a m (valF v M B m f) (f (3 + 12 * m + 7))) (v (M + 4) B).toNat g5 (3 + 12 * m + k) = g5 (3 + 12 * m + k) := gatherI_fr _ (fun a a0 a1 => by omega)
    split
    · exact h6
    · rename_i q
      rw [followF_fr (hp q).1 (by omega)]
      exact h6
  rw [key 5 (by decide) (by decide), key 6 (by decide) (by decide), key 7 (by decide) (by decide), key 8 (by decide) (by decide), key 9 (by decide) (by decide), key 10 (by decide) (by decide)]
  clear key
  generalize valF v M B m f = val
  generalize f (3 + 12 * m + 7) = kn
  generalize hg : fu (fu (fu (fu f (3 + 12 * m + 5) val) (3 + 12 * m + 10) kn) (3 + 12 * m + 6) 0) (3 + 12 * m + 7) 0 = g
  have c5 : g (3 + 12 * m + 5) = val := by rw [← hg, fu_ne (by omega), fu_ne (by omega), fu_ne (by omega), fu_is]
  have c6 : g (3 + 12 * m + 6) = 0 := by rw [← hg, fu_ne (by omega), fu_is]
  have c7 : g (3 + 12 * m + 7) = 0 := by rw [← hg, fu_is]
  have c8 : g (3 + 12 * m + 8) = f (3 + 12 * m + 8) := by rw [← hg, fu_ne (by omega), fu_ne (by omega), fu_ne (by omega), fu_ne (by omega)]
  have c9 : g (3 + 12 * m + 9) = f (3 + 12 * m + 9) := by rw [← hg, fu_ne (by omega), fu_ne (by omega), fu_ne (by omega), fu_ne (by omega)]
  have c10 : g (3 + 12 * m + 10) = kn := by rw [← hg, fu_ne (by omega), fu_ne (by omega), fu_is]
  clear hg
  have n98 : 3 + 12 * m + 9 ≠ 3 + 12 * m + 8 := by omega
  by_cases c : 2 * (v (M + 2) B - kn) < v (M + 2) B
  · rw [if_pos c, reachF_8, reachF_9, reachF_fr (by omega), reachF_fr (by omega), reachF_fr (by omega), reachF_fr (by omega), c5, c6, c7, c8, c9, c10]
    refine ⟨⟨rfl, rfl, rfl⟩, ?_, ?_, rfl⟩
    · by_cases d : f (3 + 12 * m + 8) = -2147483648 ∨ f (3 + 12 * m + 8) < val
      · rw [if_pos d, if_pos ⟨c, d⟩]
      · rw [if_neg d, if_neg (fun q => d q.2)]
    · by_cases d : f (3 + 12 * m + 9) = -2147483648 ∨ val < f (3 + 12 * m + 9)
      · rw [if_pos d, if_pos ⟨c, d⟩]
      · rw [if_neg d, if_neg (fun q => d q.2)]
  · rw [if_neg c, if_neg (fun q => c q.1), if_neg (fun q => c q.1)]
    exact ⟨⟨c5, c6, c7⟩, c8, c9, c10⟩
