/-! A STEP CLOSED: the chain of its measures and archives -/
def FIj (v : QV) (M B : Int) (f : Int → Int) (K j : Int) : Prop := (0 ≤ f 1 ∧ f 1 ≤ 200000) ∧ (∀ m, 0 ≤ m → m < v (M + 3) B → FIm f (3 + 12 * m) K) ∧ (∀ a, 0 ≤ a → a < v (M + 4) B → (0 ≤ f (51 + a) ∧ f (51 + a) ≤ 30) ∧ ∀ m, 0 ≤ m → m < v (M + 3) B → FIt f (55 + 7 * (4 * a + m)) (f 1 % v (M + 15) (4 * B + a) + if m < j then 1 else 0)) ∧ (∀ m, 0 ≤ m → m < v (M + 3) B → ¬ v (M + 18) (4 * B + m) = 0 → FIf f (647 + 112 * m))
theorem FIm.cong {f g : Int → Int} {A K : Int} (h : FIm f A K) (he : ∀ j, 0 ≤ j → j < 12 → g (A + j) = f (A + j)) : FIm g A K := by
  unfold FIm at h ⊢
  rw [he 4 (by decide) (by decide), he 7 (by decide) (by decide), he 6 (by decide) (by decide)]
  exact h
theorem FIf.cong {f g : Int → Int} {C : Int} (h : FIf f C) (he : ∀ j, 0 ≤ j → j < 112 → g (C + j) = f (C + j)) : FIf g C := by
  obtain ⟨q0, q1, q2, q3⟩ := h
  refine ⟨by rw [he 0 (by decide) (by decide)]; exact q0, by rw [he 1 (by decide) (by decide)]; exact q1, fun j j0 j1 => ?_, by rw [he 3 (by decide) (by decide)]; exact q3⟩
  rw [he (4 + j) (by omega) (by omega), he (28 + j) (by omega) (by omega)]
  exact q2 j j0 j1
theorem FI.j0 {v : QV} {M B K : Int} {f : Int → Int} (h : FI v M B f K) : FIj v M B f K 0 := by
  obtain ⟨h1, h2, h3, h4⟩ := h
  refine ⟨h1, h2, fun a a0 a1 => ⟨(h3 a a0 a1).1, fun m m0 m1 => ?_⟩, h4⟩
  rw [if_neg (by omega), Int.add_zero]
  exact (h3 a a0 a1).2 m m0 m1
theorem FIj.step {v : QV} {M B j : Int} {f : Int → Int} (hP : PB v M B) (h : FIj v M B f (v (M + 2) B) j) (hj : 0 ≤ j ∧ j < v (M + 3) B) : FIj v M B (measF v M B j f) (v (M + 2) B) (j + 1) ∧ measF v M B j f 1 = f 1 := by
  obtain ⟨pst, pn, pna, pf, pa⟩ := hP
  obtain ⟨h1, h2, h3, h4⟩ := h
  have hp := pf j hj.1 hj.2
  have e1 : measF v M B j f 1 = f 1 := measF_fr pna hp (by omega) (fun a _ _ => by omega) (by omega)
  refine ⟨⟨by rw [e1]; exact h1, fun m m0 m1 => ?_, fun a a0 a1 => ⟨?_, fun m m0 m1 => ?_⟩, fun m m0 m1 m2 => ?_⟩, e1⟩
  · by_cases e : m = j
    · subst e
      obtain ⟨⟨-, q6, q7⟩, -⟩ := measF_m (f := f) (show 0 ≤ m ∧ m < 4 by omega) hp pna
      have q4 : measF v M B m f (3 + 12 * m + 4) = f (3 + 12 * m + 4) := measF_fr pna hp (by omega) (fun a _ _ => by omega) (by omega)
      unfold FIm
      rw [q4, q6, q7]
      exact ⟨(h2 m m0 m1).1, by omega, by omega⟩
    · exact (h2 m m0 m1).cong (fun i i0 i1 => measF_fr pna hp (by omega) (fun a _ _ => by omega) (by omega))
  · rw [measF_fr pna hp (by omega) (fun a _ _ => by omega) (by omega)]
    exact (h3 a a0 a1).1
  · rw [e1]
    have ht := (h3 a a0 a1).2 m m0 m1
    by_cases e : m = j
    · subst e
      rw [if_neg (by omega), Int.add_zero] at ht
      rw [if_pos (by omega)]
      have pp := (pa a a0 a1).2.1
      have := Int.emod_lt_of_pos (f 1) (show 0 < v (M + 15) (4 * B + a) by omega)
      exact measF_t (by omega) pst hp ⟨a0, a1⟩ (by omega) (by omega) (h2 m m0 m1) ht
    · have e2 : (if m < j + 1 then (1 : Int) else 0) = if m < j then 1 else 0 := by
        by_cases c : m < j
        · rw [if_pos c, if_pos (by omega)]
        · rw [if_neg c, if_neg (by omega)]
      rw [e2]
      exact ht.cong (fun i i0 i1 => measF_fr pna hp (by omega) (fun a _ _ => by omega) (by omega))
  · by_cases e : m = j
    · subst e
      have ff := followF_f (x := valF v M B m f) (hp m2) (h4 m m0 m1 m2)
      exact ff.cong (fun i i0 i1 => measF_c (by omega) m2 (hp m2) pna i i0 i1)
    · exact (h4 m m0 m1 m2).cong (fun i i0 i1 => measF_fr pna hp (by omega) (fun a _ _ => by omega) (by omega))
theorem FIj.all {v : QV} {M B : Int} {f : Int → Int} (hP : PB v M B) (h : FI v M B f (v (M + 2) B)) : ∀ j : Nat, (j : Int) ≤ v (M + 3) B → FIj v M B (itF (fun m => measF v M B m) j f) (v (M + 2) B) j ∧ itF (fun m => measF v M B m) j f 1 = f 1
  | 0, _ => ⟨h.j0, rfl⟩
  | j + 1, hj => by
    obtain ⟨i1, i2⟩ := FIj.all hP h j (by omega)
    obtain ⟨s1, s2⟩ := i1.step hP (show 0 ≤ (j : Int) ∧ (j : Int) < v (M + 3) B by omega)
    exact ⟨s1, s2.trans i2⟩
theorem gathF_cong {how per share G : Int} {f g : Int → Int} (h : ∀ i, 0 ≤ i → i < 7 → g (G + i) = f (G + i)) : gathF how per share G g = gathF how per share G f := by
  unfold gathF
  rw [h 0 (by decide) (by decide), h 1 (by decide) (by decide), h 2 (by decide) (by decide), h 3 (by decide) (by decide), h 4 (by decide) (by decide), h 5 (by decide) (by decide), h 6 (by decide) (by decide)]
/-- what a closed row leaves of a measure -/
theorem rowI_at {v : QV} {M B a m k : Int} {f : Int → Int} (m0 : 0 ≤ m) (hk : (55 + 7 * (4 * a + m) ≤ k ∧ k < 55 + 7 * (4 * a + m) + 7) ∨ (167 + 30 * (4 * a + m) ≤ k ∧ k < 167 + 30 * (4 * a + m) + 30)) (h4 : 0 ≤ a ∧ a < 4) (hm : m < 4) : ∀ c : Nat, (c : Int) ≤ 4 → m < (c : Int) → itF (fun m => rowS v M B a m) c f k = rowS v M B a m (itF (fun m => rowS v M B a m) m.toNat f) k
  | 0, _, h => by omega
  | c + 1, hc, h => by
    show rowS v M B a c _ k = _
    by_cases e : m = c
    · subst e
      rfl
    · rw [rowS_fr (by omega) (by omega)]
      exact rowI_at m0 hk h4 hm c (by omega) (by omega)
theorem rowF_at {v : QV} {M B a m : Int} {f : Int → Int} (h4 : 0 ≤ a ∧ a < 4) (hm : 0 ≤ m ∧ m < v (M + 3) B) (hn : v (M + 3) B ≤ 4) : (∀ i, 0 ≤ i → i < 7 → rowF v M B a f (55 + 7 * (4 * a + m) + i) = 0) ∧ rowF v M B a f (167 + 30 * (4 * a + m) + 0) = gathF (v (M + 14) (4 * B + a)) (v (M + 15) (4 * B + a)) (v (M + 17) (4 * B + a)) (55 + 7 * (4 * a + m)) f ∧ ∀ i, 0 ≤ i → i < 29 → rowF v M B a f (167 + 30 * (4 * a + m) + (i + 1)) = f (167 + 30 * (4 * a + m) + i) := by
  have hf1 : ∀ k, k ≠ 51 + a → (if f (51 + a) < v (M + 16) (4 * B + a) then fu f (51 + a) (f (51 + a) + 1) else f) k = f k := fun k q => by
    split
    · exact fu_ne q
    · rfl
  have key : ∀ k, (55 + 7 * (4 * a + m) ≤ k ∧ k < 55 + 7 * (4 * a + m) + 7) ∨ (167 + 30 * (4 * a + m) ≤ k ∧ k < 167 + 30 * (4 * a + m) + 30) → rowF v M B a f k = rowS v M B a m (itF (fun m => rowS v M B a m) m.toNat (if f (51 + a) < v (M + 16) (4 * B + a) then fu f (51 + a) (f (51 + a) + 1) else f)) k := fun k q => by
    unfold rowF
    exact rowI_at hm.1 q h4 (by omega) _ (by omega) (by omega)
  have fr : ∀ k, (55 + 7 * (4 * a + m) ≤ k ∧ k < 55 + 7 * (4 * a + m) + 7) ∨ (167 + 30 * (4 * a + m) ≤ k ∧ k < 167 + 30 * (4 * a + m) + 30) → itF (fun m => rowS v M B a m) m.toNat (if f (51 + a) < v (M + 16) (4 * B + a) then fu f (51 + a) (f (51 + a) + 1) else f) k = f k := fun k q => by
    rw [rowI_fr _ (fun m' q0 q1 => by omega), hf1 k (by omega)]
  generalize itF (fun m => rowS v M B a m) m.toNat (if f (51 + a) < v (M + 16) (4 * B + a) then fu f (51 + a) (f (51 + a) + 1) else f) = g at *
  refine ⟨fun i i0 i1 => ?_, ?_, fun i i0 i1 => ?_⟩
  · rw [key _ (by omega)]
    unfold rowS clF
    rw [if_pos (by omega)]
  · rw [key _ (by omega)]
    unfold rowS clF
    rw [if_neg (by omega), fu_is]
    refine gathF_cong (fun i i0 i1 => ?_)
    unfold shF
    rw [if_neg (by omega)]
    exact fr _ (by omega)
  · rw [key _ (by omega)]
    unfold rowS clF
    rw [if_neg (by omega), fu_ne (by omega)]
    unfold shF
    rw [if_pos (by omega), show 167 + 30 * (4 * a + m) + (i + 1) - 1 = 167 + 30 * (4 * a + m) + i by omega]
    exact fr _ (by omega)
theorem rowF_n {v : QV} {M B a : Int} {f : Int → Int} (h4 : 0 ≤ a ∧ a < 4) : rowF v M B a f (51 + a) = if f (51 + a) < v (M + 16) (4 * B + a) then f (51 + a) + 1 else f (51 + a) := by
  unfold rowF
  rw [rowI_fr _ (fun m' q0 q1 => by omega)]
  split
  · exact fu_is
  · rfl
def rwF (v : QV) (M B a : Int) (g : Int → Int) : Int → Int := if g 1 % v (M + 15) (4 * B + a) = 0 then rowF v M B a g else g
theorem rwF_fr {v : QV} {M B a k : Int} {f : Int → Int} (hn : v (M + 3) B ≤ 4) (h0 : k ≠ 51 + a) (h1 : k < 55 + 28 * a ∨ 55 + 28 * a + 28 ≤ k) (h2 : k < 167 + 120 * a ∨ 167 + 120 * a + 120 ≤ k) : rwF v M B a f k = f k := by
  unfold rwF
  split
  · exact rowF_fr hn h0 h1 h2
  · rfl
theorem rwI_at {v : QV} {M B a k : Int} {f : Int → Int} (hn : v (M + 3) B ≤ 4) (h4 : 0 ≤ a ∧ a < 4) (hk : k = 51 + a ∨ (55 + 28 * a ≤ k ∧ k < 55 + 28 * a + 28) ∨ (167 + 120 * a ≤ k ∧ k < 167 + 120 * a + 120)) : ∀ c : Nat, (c : Int) ≤ 4 → a < (c : Int) → itF (fun a => rwF v M B a) c f k = rwF v M B a (itF (fun a => rwF v M B a) a.toNat f) k
  | 0, _, h => by omega
  | c + 1, hc, h => by
    show rwF v M B c _ k = _
    by_cases e : a = c
    · subst e
      rfl
    · rw [rwF_fr hn (by omega) (by omega) (by omega)]
      exact rwI_at hn h4 hk c (by omega) (by omega)
theorem rwI_fr {v : QV} {M B k : Int} {f : Int → Int} (hn : v (M + 3) B ≤ 4) : ∀ n : Nat, (∀ a, 0 ≤ a → a < (n : Int) → k ≠ 51 + a ∧ (k < 55 + 28 * a ∨ 55 + 28 * a + 28 ≤ k) ∧ (k < 167 + 120 * a ∨ 167 + 120 * a + 120 ≤ k)) → itF (fun a => rwF v M B a) n f k = f k
  | 0, _ => rfl
  | n + 1, h => by
    obtain ⟨q1, q2, q3⟩ := h n (by omega) (by omega)
    show rwF v M B n _ k = _
    rw [rwF_fr hn q1 q2 q3]
    exact rwI_fr hn n (fun m m0 m1 => h m m0 (by omega))
theorem closeF_eq {v : QV} {M B : Int} {f : Int → Int} : closeF v M B f = itF (fun a => rwF v M B a) (v (M + 4) B).toNat (fu (itF (fun m => measF v M B m) (v (M + 3) B).toNat f) 1 (itF (fun m => measF v M B m) (v (M + 3) B).toNat f 1 + 1)) := rfl
theorem mod_s {x p : Int} (hp : 0 < p) : (x + 1) % p = if x % p + 1 = p then 0 else x % p + 1 := by
  have h1 := Int.emod_nonneg x (show p ≠ 0 by omega)
  have h2 := Int.emod_lt_of_pos x hp
  have h3 := Int.mul_ediv_add_emod x p
  by_cases c : x % p + 1 = p
  · rw [if_pos c]
    have e : x + 1 = p * (x / p + 1) := by rw [Int.mul_add, Int.mul_one]; omega
    rw [e, Int.mul_emod_right]
  · rw [if_neg c]
    have e : x + 1 = (x % p + 1) + p * (x / p) := by omega
    rw [e, Int.add_mul_emod_self_left]
    exact Int.emod_eq_of_lt (by omega) (by omega)
theorem FI.close {v : QV} {M B : Int} {f : Int → Int} (hP : PB v M B) (h : FI v M B f (v (M + 2) B)) (h1 : f 1 < 200000) : FI v M B (closeF v M B f) 0 ∧ closeF v M B f 1 = f 1 + 1 := by
  obtain ⟨pst, pn, pna, pf, pa⟩ := id hP
  have hn4 : v (M + 3) B ≤ 4 := by omega
  have e0 : ((v (M + 3) B).toNat : Int) = v (M + 3) B := by omega
  obtain ⟨ha, hb⟩ := FIj.all hP h (v (M + 3) B).toNat (by omega)
  have hz : ∀ m, 0 ≤ m → m < v (M + 3) B → itF (fun m => measF v M B m) (v (M + 3) B).toNat f (3 + 12 * m + 7) = 0 := by
    have : ∀ (c : Nat), (c : Int) ≤ v (M + 3) B → ∀ m, 0 ≤ m → m < (c : Int) → itF (fun m => measF v M B m) c f (3 + 12 * m + 7) = 0 := by
      intro c
      induction c with
      | zero => intro _ m m0 m1; omega
      | succ c ih =>
        intro hc m m0 m1
        show measF v M B c _ _ = _
        by_cases e : m = c
        · subst e
          exact (measF_m (by omega) (pf _ m0 (by omega)) pna).1.2.2
        · rw [measF_fr pna (pf _ (by omega) (by omega)) (by omega) (fun a _ _ => by omega) (by omega)]
          exact ih (by omega) m m0 (by omega)
    exact fun m m0 m1 => this _ (by omega) m m0 (by omega)
  rw [e0] at ha
  rw [closeF_eq]
  generalize itF (fun m => measF v M B m) (v (M + 3) B).toNat f = g at *
  obtain ⟨g1, g2, g3, g4⟩ := ha
  have c1 : itF (fun a => rwF v M B a) (v (M + 4) B).toNat (fu g 1 (g 1 + 1)) 1 = g 1 + 1 := by
    rw [rwI_fr hn4 _ (fun a a0 a1 => by omega), fu_is]
  have co : ∀ k, k ≠ 1 → (k < 51 ∨ 647 ≤ k) → itF (fun a => rwF v M B a) (v (M + 4) B).toNat (fu g 1 (g 1 + 1)) k = g k := fun k k1 k2 => by
    rw [rwI_fr hn4 _ (fun a a0 a1 => by omega), fu_ne k1]
  refine ⟨⟨by rw [c1]; omega, fun m m0 m1 => ?_, fun a a0 a1 => ?_, fun m m0 m1 m2 => ?_⟩, by rw [c1, hb]⟩
  · have := g2 m m0 m1
    have z := hz m m0 m1
    unfold FIm at this ⊢
    rw [co _ (by omega) (by omega), co _ (by omega) (by omega), co _ (by omega) (by omega)]
    exact ⟨this.1, by omega, this.2.2⟩
  · have hat : ∀ k, (k = 51 + a ∨ (55 + 28 * a ≤ k ∧ k < 55 + 28 * a + 28) ∨ (167 + 120 * a ≤ k ∧ k < 167 + 120 * a + 120)) → itF (fun a => rwF v M B a) (v (M + 4) B).toNat (fu g 1 (g 1 + 1)) k = rwF v M B a (itF (fun a => rwF v M B a) a.toNat (fu g 1 (g 1 + 1))) k := fun k q => rwI_at hn4 (by omega) q _ (by omega) (by omega)
    have fr : ∀ k, (k = 51 + a ∨ (55 + 28 * a ≤ k ∧ k < 55 + 28 * a + 28) ∨ (167 + 120 * a ≤ k ∧ k < 167 + 120 * a + 120)) → itF (fun a => rwF v M B a) a.toNat (fu g 1 (g 1 + 1)) k = g k := fun k q => by
      rw [rwI_fr hn4 _ (fun a' q0 q1 => by omega), fu_ne (by omega)]
    have fr1 : itF (fun a => rwF v M B a) a.toNat (fu g 1 (g 1 + 1)) 1 = g 1 + 1 := by
      rw [rwI_fr hn4 _ (fun a' q0 q1 => by omega), fu_is]
    rw [c1]
    obtain ⟨r1, r2⟩ := g3 a a0 a1
    obtain ⟨-, pp, pl, -⟩ := pa a a0 a1
    have hm := mod_s (x := g 1) (show 0 < v (M + 15) (4 * B + a) by omega)
    have hl := Int.emod_lt_of_pos (g 1) (show 0 < v (M + 15) (4 * B + a) by omega)
    generalize itF (fun a => rwF v M B a) a.toNat (fu g 1 (g 1 + 1)) = G at *
    rw [hat _ (Or.inl rfl)]
    by_cases c : g 1 % v (M + 15) (4 * B + a) + 1 = v (M + 15) (4 * B + a)
    · rw [if_pos c] at hm
      have er : rwF v M B a G = rowF v M B a G := by unfold rwF; rw [fr1, if_pos hm]
      refine ⟨?_, fun m m0 m1 => ?_⟩
      · rw [er, rowF_n (by omega), fr _ (Or.inl rfl)]
        split <;> omega
      · rw [hm]
        have z := (rowF_at (f := G) (M := M) (B := B) (v := v) (show 0 ≤ a ∧ a < 4 by omega) ⟨m0, m1⟩ hn4).1
        have z2 : ∀ i, 0 ≤ i → i < 7 → itF (fun a => rwF v M B a) (v (M + 4) B).toNat (fu g 1 (g 1 + 1)) (55 + 7 * (4 * a + m) + i) = 0 := fun i i0 i1 => by rw [hat _ (by omega), er]; exact z i i0 i1
        unfold FIt
        rw [z2 0 (by decide) (by decide), z2 1 (by decide) (by decide), z2 2 (by decide) (by decide), z2 3 (by decide) (by decide), z2 4 (by decide) (by decide), z2 5 (by decide) (by decide), z2 6 (by decide) (by decide)]
        decide
    · rw [if_neg c] at hm
      have er : rwF v M B a G = G := by
        unfold rwF
        rw [fr1, if_neg]
        have := Int.emod_nonneg (g 1) (show v (M + 15) (4 * B + a) ≠ 0 by omega)
        omega
      refine ⟨?_, fun m m0 m1 => ?_⟩
      · rw [er, fr _ (Or.inl rfl)]
        exact r1
      · rw [hm]
        have t := r2 m m0 m1
        rw [if_pos m1] at t
        exact t.cong (fun i i0 i1 => by rw [hat _ (by omega), er, fr _ (by omega)])
  · exact (g4 m m0 m1 m2).cong (fun i i0 i1 => co _ (by omega) (by omega))
