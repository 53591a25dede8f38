/-! THE CLASS AND THE REFERENCE HELD TOGETHER -/
/-- a measure's line -/
def PRm (v : QV) (p M k : Int) : Prop := (v p 0 = v (M + 8) k ∧ 0 ≤ v p 0 ∧ v p 0 ≤ 2) ∧ (v p 0 = 2 → v p 1 = v (M + 9) k ∧ v p 2 = v (M + 10) k ∧ 4 ≤ v p 1 ∧ v p 1 < v p 2 ∧ v p 2 ≤ 20) ∧ (v p 3 = v (M + 11) k ∧ 1 ≤ v p 3 ∧ v p 3 ≤ 1000) ∧ (v p 4 = v (M + 12) k ∧ v p 5 = v (M + 13) k ∧ 0 ≤ v p 4 ∧ v p 4 ≤ v p 5 ∧ v p 5 ≤ 999999) ∧ ((v (M + 18) k = 0 ∧ v p 6 = 0) ∨ (v (M + 18) k = 1 ∧ (v p 6 = v (M + 19) k ∧ 2 ≤ v p 6 ∧ v p 6 ≤ 24) ∧ (v p 7 = v (M + 20) k ∧ 0 ≤ v p 7 ∧ v p 7 ≤ 16) ∧ (v p 8 = v (M + 21) k ∧ 0 ≤ v p 8 ∧ v p 8 ≤ 16) ∧ (v p 9 = v (M + 22) k ∧ 0 ≤ v p 9 ∧ v p 9 ≤ 16) ∧ (v p 10 = v (M + 23) k ∧ 1 ≤ v p 10 ∧ v p 10 ≤ 9)))
/-- an archive's line -/
def PRa (v : QV) (p M k : Int) : Prop := (v p 0 = v (M + 14) k ∧ 0 ≤ v p 0 ∧ v p 0 ≤ 3) ∧ (v p 1 = v (M + 15) k ∧ 1 ≤ v p 1 ∧ v p 1 ≤ 12) ∧ (v p 2 = v (M + 16) k ∧ 1 ≤ v p 2 ∧ v p 2 ≤ 30) ∧ (v p 3 = v (M + 17) k ∧ 0 ≤ v p 3 ∧ v p 3 ≤ 9)
/-- what a text tells -/
def PR (v : QV) (P M B : Int) : Prop := (v P 0 = v (M + 2) B ∧ 1 ≤ v P 0 ∧ v P 0 ≤ 60) ∧ (v P 1 = v (M + 3) B ∧ 0 ≤ v P 1 ∧ v P 1 ≤ 4) ∧ (v P 2 = v (M + 4) B ∧ 0 ≤ v P 2 ∧ v P 2 ≤ 4) ∧ (v (P + 3) 0 = v (M + 5) B ∧ v (P + 3) 1 = v (M + 6) B ∧ 0 ≤ v (P + 3) 0 ∧ v (P + 3) 0 ≤ 4) ∧ (∀ m, 0 ≤ m → m < v P 1 → PRm v (P + (9 + m)) M (4 * B + m)) ∧ (∀ a, 0 ≤ a → a < v P 2 → PRa v (P + (13 + a)) M (4 * B + a)) ∧ CC v (P + 3) (mCo v M B) (mEn v M B) (v P 1) (v (P + 3) 0).toNat
/-- a measure: its line at p, its Meter t; from g on in f -/
def SRm (v : QV) (p t : Int) (f : Int → Int) (g stp : Int) : Prop := (v t 0 = f (g + 0) ∧ 1 ≤ v t 0 ∧ v t 0 ≤ 1000) ∧ (v t 1 = f (g + 1) ∧ v t 2 = f (g + 2) ∧ 0 ≤ v t 1 ∧ v t 1 ≤ v t 2 ∧ v t 2 ≤ 999999) ∧ (v t 3 = f (g + 3) ∧ -1 ≤ v t 3 ∧ v t 3 ≤ 999999 ∧ (v p 0 = 2 → v t 3 < 2 ^ (v p 2).toNat)) ∧ (v t 4 = f (g + 4) ∧ tv (v t 4)) ∧ (v t 5 = f (g + 5) ∧ tv (v t 5)) ∧ (v t 6 = f (g + 7) ∧ 0 ≤ v t 6 ∧ v t 6 ≤ f 0 % stp) ∧ (v t 7 = f (g + 6) ∧ 0 ≤ v t 7 ∧ v t 7 ≤ 999999000 * v t 6) ∧ ((v t 8 = -2000000000 ∧ v t 9 = 2000000000 ∧ f (g + 8) = -2147483648 ∧ f (g + 9) = -2147483648) ∨ (v t 8 = f (g + 8) ∧ v t 9 = f (g + 9) ∧ (0 ≤ v t 8 ∧ v t 8 ≤ 999999000) ∧ (0 ≤ v t 9 ∧ v t 9 ≤ 999999000)))
/-- what a row that is not over has of a measure: the Tally t; from g on in f -/
def SRt (v : QV) (t : Int) (f : Int → Int) (g per : Int) : Prop := (v t 2 = f (g + 5) ∧ 0 ≤ v t 2 ∧ 0 ≤ f (g + 6) ∧ v t 2 + f (g + 6) = f 1 % per) ∧ (v t 1 = f (g + 1) ∧ v t 2 ≤ v t 1 ∧ v t 1 ≤ 60 * v t 2) ∧ (v t 0 = f (g + 0) ∧ 0 ≤ v t 0 ∧ v t 0 ≤ 999999000 * v t 1) ∧ (¬ v t 2 = 0 → (v t 3 = f (g + 2) ∧ v t 4 = f (g + 3) ∧ v t 5 = f (g + 4)) ∧ (0 ≤ v t 3 ∧ v t 3 ≤ 999999000) ∧ (0 ≤ v t 4 ∧ v t 4 ≤ 999999000) ∧ (0 ≤ v t 5 ∧ v t 5 ≤ 999999000))
/-- an archive -/
def SRa (v : QV) (P s a : Int) (f : Int → Int) : Prop := (f (51 + a) = (if v (P + (13 + a)) 2 < f 0 / cU v P a then v (P + (13 + a)) 2 else f 0 / cU v P a) ∧ f (51 + a) ≤ 30) ∧ ∀ m, 0 ≤ m → m < v P 1 → SRt v (s + (28 + 7 * a) + (3 + m)) f (55 + 7 * (4 * a + m)) (v (P + (13 + a)) 1) ∧ ∀ i, 0 ≤ i → i < f (51 + a) → v (s + (28 + 7 * a) + 1) ((f 0 / cU v P a - 1 - i) % 30 * 4 + m) = f (167 + 30 * (4 * a + m) + i) ∧ tv (f (167 + 30 * (4 * a + m) + i))
/-- a forecast: the Outlook o; from g on in f -/
def SRf (v : QV) (o : Int) (f : Int → Int) (g : Int) : Prop := (v o 0 = f (g + 2) ∧ ((v o 0 = 0 ∧ f (g + 0) = 0) ∨ v o 0 = 1)) ∧ (v o 1 = f (g + 0) ∧ -2000000000 ≤ v o 1 ∧ v o 1 ≤ 2000000000) ∧ (v o 2 = f (g + 1) ∧ -2000000000 ≤ v o 2 ∧ v o 2 ≤ 2000000000) ∧ (0 ≤ v o 7 ∧ v o 7 ≤ f 1 ∧ f (g + 3) = cKo v o) ∧ (∀ j, 0 ≤ j → j < 24 → (v (o + 1) j = f (g + (4 + j)) ∧ -2000000000 ≤ v (o + 1) j ∧ v (o + 1) j ≤ 2000000000) ∧ (v (o + 2) j = f (g + (28 + j)) ∧ 0 ≤ v (o + 2) j ∧ v (o + 2) j ≤ 2000000000)) ∧ (∀ i, 0 ≤ i → i < cKo v o → (cTo v o i = f (g + (52 + i)) ∧ -2000000000 ≤ cTo v o i ∧ cTo v o i ≤ 2000000000) ∧ (cOd v o i = f (g + (82 + i)) ∧ (cOd v o i = 0 ∨ cOd v o i = 1)))
/-- all that acts change -/
def SR (v : QV) (P s : Int) (f : Int → Int) : Prop := (v s 0 = f 0 ∧ 0 ≤ f 0 ∧ f 0 ≤ 100000) ∧ f 1 = f 0 / v P 0 ∧ (v s 1 = f 2 ∧ 0 ≤ f 2 ∧ f 2 ≤ f 0) ∧ (∀ m, 0 ≤ m → m < v P 1 → SRm v (P + (9 + m)) (s + (4 + 6 * m)) f (3 + 12 * m) (v P 0)) ∧ (∀ a, 0 ≤ a → a < v P 2 → SRa v P s a f) ∧ (∀ m, 0 ≤ m → m < v P 1 → 0 < v (P + (9 + m)) 6 → SRf v (s + (5 + 6 * m)) f (647 + 112 * m))
/-- the same data in a state at s' as in one at s -/
def Dq (v : QV) (s : Int) (w : QV) (s' : Int) : Prop := (w s' 0 = v s 0 ∧ w s' 1 = v s 1) ∧ (∀ m, 0 ≤ m → m < 4 → (∀ k, 0 ≤ k → k < 10 → w (s' + (4 + 6 * m)) k = v (s + (4 + 6 * m)) k) ∧ (w (s' + (5 + 6 * m)) 0 = v (s + (5 + 6 * m)) 0 ∧ w (s' + (5 + 6 * m)) 1 = v (s + (5 + 6 * m)) 1 ∧ w (s' + (5 + 6 * m)) 2 = v (s + (5 + 6 * m)) 2 ∧ w (s' + (5 + 6 * m)) 7 = v (s + (5 + 6 * m)) 7) ∧ (∀ j, 0 ≤ j → j < 24 → w (s' + (5 + 6 * m) + 1) j = v (s + (5 + 6 * m) + 1) j ∧ w (s' + (5 + 6 * m) + 2) j = v (s + (5 + 6 * m) + 2) j) ∧ (∀ j, 0 ≤ j → j < 30 → w (s' + (5 + 6 * m) + 3) j = v (s + (5 + 6 * m) + 3) j ∧ w (s' + (5 + 6 * m) + 4) j = v (s + (5 + 6 * m) + 4) j)) ∧ (∀ a, 0 ≤ a → a < 4 → (∀ j, 0 ≤ j → j < 120 → w (s' + (28 + 7 * a) + 1) j = v (s + (28 + 7 * a) + 1) j) ∧ ∀ m, 0 ≤ m → m < 4 → ∀ k, 0 ≤ k → k < 6 → w (s' + (28 + 7 * a) + (3 + m)) k = v (s + (28 + 7 * a) + (3 + m)) k)
theorem Dq.of {v w : QV} {s : Int} (h : ∀ a k, s ≤ a → a < s + 56 → w a k = v a k) : Dq v s w s :=
  ⟨⟨h _ _ (by omega) (by omega), h _ _ (by omega) (by omega)⟩, fun m g0 g1 => ⟨fun k _ _ => h _ _ (by omega) (by omega), ⟨h _ _ (by omega) (by omega), h _ _ (by omega) (by omega), h _ _ (by omega) (by omega), h _ _ (by omega) (by omega)⟩, fun j _ _ => ⟨h _ _ (by omega) (by omega), h _ _ (by omega) (by omega)⟩, fun j _ _ => ⟨h _ _ (by omega) (by omega), h _ _ (by omega) (by omega)⟩⟩, fun a g0 g1 => ⟨fun j _ _ => h _ _ (by omega) (by omega), fun m g2 g3 k _ _ => h _ _ (by omega) (by omega)⟩⟩
theorem cU_eq {v w : QV} {P a : Int} (hP : ∀ x k, (x = P ∨ (P + 9 ≤ x ∧ x ≤ P + 16)) → w x k = v x k) (ha : 0 ≤ a ∧ a < 4) : cU w P a = cU v P a := by
  unfold cU
  rw [hP _ _ (by omega), hP _ _ (by omega)]
theorem SR.cong {v w : QV} {P s s' : Int} {f f' : Int → Int} (hn : v P 1 ≤ 4) (ha : v P 2 ≤ 4) (hP : ∀ x k, (x = P ∨ (P + 9 ≤ x ∧ x ≤ P + 16)) → w x k = v x k) (hD : Dq v s w s') (hf : ∀ k, 0 ≤ k → k < 1095 → f' k = f k) (h : SR v P s f) : SR w P s' f' := by
  obtain ⟨h1, h2, h3, h4, h5, h6⟩ := h
  obtain ⟨d1, d2, d3⟩ := hD
  have f0 := hf 0 (by omega) (by omega)
  have f1 := hf 1 (by omega) (by omega)
  have eP : ∀ k, w P k = v P k := fun k => hP _ _ (by omega)
  refine ⟨?_, ?_, ?_, ?_, ?_, ?_⟩
  · rw [d1.1, f0]; exact h1
  · rw [f0, f1, eP]; exact h2
  · rw [d1.2, f0, hf 2 (by omega) (by omega)]; exact h3
  · intro m g0 g1
    rw [eP] at g1
    have := h4 m g0 g1
    obtain ⟨e1, e2, e3, e4⟩ := d2 m g0 (by omega)
    unfold SRm at this ⊢
    rw [e1 0 (by omega) (by omega), e1 1 (by omega) (by omega), e1 2 (by omega) (by omega), e1 3 (by omega) (by omega), e1 4 (by omega) (by omega), e1 5 (by omega) (by omega), e1 6 (by omega) (by omega), e1 7 (by omega) (by omega), e1 8 (by omega) (by omega), e1 9 (by omega) (by omega), hP (P + (9 + m)) _ (by omega), hP (P + (9 + m)) _ (by omega), eP, f0, hf (3 + 12 * m + 0) (by omega) (by omega), hf (3 + 12 * m + 1) (by omega) (by omega), hf (3 + 12 * m + 2) (by omega) (by omega), hf (3 + 12 * m + 3) (by omega) (by omega), hf (3 + 12 * m + 4) (by omega) (by omega), hf (3 + 12 * m + 5) (by omega) (by omega), hf (3 + 12 * m + 6) (by omega) (by omega), hf (3 + 12 * m + 7) (by omega) (by omega), hf (3 + 12 * m + 8) (by omega) (by omega), hf (3 + 12 * m + 9) (by omega) (by omega)]
    exact this
  · intro a g0 g1
    rw [eP] at g1
    obtain ⟨k1, k2⟩ := h5 a g0 g1
    obtain ⟨e1, e2⟩ := d3 a g0 (by omega)
    have ek := hf (51 + a) (by omega) (by omega)
    have eU := cU_eq hP (a := a) (by omega)
    have ePa : ∀ k, w (P + (13 + a)) k = v (P + (13 + a)) k := fun k => hP _ _ (by omega)
    refine ⟨by rw [ek, eU, ePa, f0]; exact k1, fun m q0 q1 => ?_⟩
    rw [eP] at q1
    obtain ⟨k3, k4⟩ := k2 m q0 q1
    have e3 := e2 m q0 (by omega)
    refine ⟨?_, fun i i0 i1 => ?_⟩
    · unfold SRt at k3 ⊢
      rw [e3 0 (by omega) (by omega), e3 1 (by omega) (by omega), e3 2 (by omega) (by omega), e3 3 (by omega) (by omega), e3 4 (by omega) (by omega), e3 5 (by omega) (by omega), f1, ePa, hf (55 + 7 * (4 * a + m) + 0) (by omega) (by omega), hf (55 + 7 * (4 * a + m) + 1) (by omega) (by omega), hf (55 + 7 * (4 * a + m) + 2) (by omega) (by omega), hf (55 + 7 * (4 * a + m) + 3) (by omega) (by omega), hf (55 + 7 * (4 * a + m) + 4) (by omega) (by omega), hf (55 + 7 * (4 * a + m) + 5) (by omega) (by omega), hf (55 + 7 * (4 * a + m) + 6) (by omega) (by omega)]
      exact k3
    · rw [ek] at i1
      rw [eU, f0, e1 _ (by omega) (by omega), hf (167 + 30 * (4 * a + m) + i) (by omega) (by omega)]
      exact k4 i i0 i1
  · intro m g0 g1 g2
    rw [eP] at g1
    rw [hP _ _ (by omega)] at g2
    obtain ⟨o1, o2, o3, o4, o5, o6⟩ := h6 m g0 g1 g2
    obtain ⟨-, e2, e3, e4⟩ := d2 m g0 (by omega)
    have eK : cKo w (s' + (5 + 6 * m)) = cKo v (s + (5 + 6 * m)) := by unfold cKo; rw [e2.2.2.2]
    have hK : cKo v (s + (5 + 6 * m)) ≤ 30 := by unfold cKo; split <;> omega
    refine ⟨?_, ?_, ?_, ?_, ?_, ?_⟩
    · rw [e2.1, hf (647 + 112 * m + 2) (by omega) (by omega), hf (647 + 112 * m + 0) (by omega) (by omega)]; exact o1
    · rw [e2.2.1, hf (647 + 112 * m + 0) (by omega) (by omega)]; exact o2
    · rw [e2.2.2.1, hf (647 + 112 * m + 1) (by omega) (by omega)]; exact o3
    · rw [e2.2.2.2, eK, f1, hf (647 + 112 * m + 3) (by omega) (by omega)]; exact o4
    · intro j j0 j1
      rw [(e3 j j0 j1).1, (e3 j j0 j1).2, hf (647 + 112 * m + (4 + j)) (by omega) (by omega), hf (647 + 112 * m + (28 + j)) (by omega) (by omega)]
      exact o5 j j0 j1
    · intro i i0 i1
      rw [eK] at i1
      have e5 := e4 ((v (s + (5 + 6 * m)) 7 - 1 - i) % 30) (by omega) (by omega)
      have eT : cTo w (s' + (5 + 6 * m)) i = cTo v (s + (5 + 6 * m)) i := by unfold cTo; rw [e2.2.2.2, e5.1]
      have eO : cOd w (s' + (5 + 6 * m)) i = cOd v (s + (5 + 6 * m)) i := by unfold cOd; rw [e2.2.2.2, e5.2]
      rw [eT, eO, hf (647 + 112 * m + (52 + i)) (by omega) (by omega), hf (647 + 112 * m + (82 + i)) (by omega) (by omega)]
      exact o6 i i0 i1
/-- all of it: the class from b on with plan P and state s, the reference from M on with bank B -/
def RR (S : QS) (v : QV) (b M P B s : Int) : Prop := (LCl S v b ∧ LMo S v M ∧ M = b + 889) ∧ (v b 2 = P ∧ v b 3 = 2 * b + 37 - P ∧ (P = b + 10 ∨ P = b + 27)) ∧ (v M 28 = B ∧ (B = 0 ∨ B = 1)) ∧ (0 ≤ v b 5 ∧ v b 5 < 13 ∧ b + (45 + 56 * v b 5) = s) ∧ PR v P M B ∧ SR v P s (v (M + 1)) ∧ (v b 6 = v M 58 ∧ v b 7 = v M 59 ∧ 0 ≤ v b 6 ∧ 0 ≤ v b 7 ∧ v b 6 + v b 7 ≤ 12) ∧ (∀ j, 1 ≤ j → j ≤ v b 6 → SR v P (b + (45 + 56 * ((v b 5 - j) % 13))) (fun k => v (M + 36) (1095 * (v b 6 - j) + k))) ∧ (∀ j, 1 ≤ j → j ≤ v b 7 → SR v P (b + (45 + 56 * ((v b 5 + j) % 13))) (fun k => v (M + 36) (1095 * (v b 6 + j - 1) + k))) ∧ (∀ x, 0 ≤ x → x < 2 → (v (b + 886) x = v (M + 38) x ∧ (v (b + 886) x = 0 ∨ v (b + 886) x = 1)) ∧ (¬ v (b + 886) x = 0 → SR v P (b + (774 + 56 * x)) (fun k => v (M + 37) (1095 * x + k)))) ∧ (v (b + 1) 1 = v M 30 ∧ 0 ≤ v M 30 ∧ v M 30 ≤ 1000 ∧ ∀ k, 0 ≤ k → k < v M 30 → v (b + 2) k = v (M + 28) k % 256 ∧ -128 ≤ v (M + 28) k ∧ v (M + 28) k < 128) ∧ (v b 10 = v M 39 ∧ v b 11 = v M 40)
def RX (S : QS) (b : Int) (v : QV) : Prop := ∃ P B s, RR S v b (b + 889) P B s
section RE
variable {S : QS} {v w : QV} {b M P B s : Int}
theorem RR.rc (h : RR S v b M P B s) : RC S v b P s := by
  obtain ⟨⟨h1, h2, h3⟩, ⟨p1, p2, p3⟩, -, ⟨s1, s2, s3⟩, ⟨r1, r2, r3, r4, r5, r6, r7⟩, ⟨t1, -⟩, -⟩ := h
  refine ⟨h1, p1, p3, ⟨s1, s2⟩, s3, r1.2, r2.2, r3.2, fun a g0 g1 => ?_, by rw [t1.1]; exact t1.2⟩
  obtain ⟨a1, a2, a3, a4⟩ := r6 a g0 g1
  exact ⟨a2.2, a3.2, a4.2, a1.2⟩
theorem tdd {x y z : Int} (hy : 0 < y) : x / y / z = x / (z * y) := by
  rw [Int.mul_comm]
  exact Int.ediv_ediv_of_nonneg (Int.le_of_lt hy)
theorem RR.eU (h : RR S v b M P B s) {a : Int} (g0 : 0 ≤ a) (g1 : a < v P 2) : cU v P a = mU v M B a := by
  obtain ⟨-, -, -, -, ⟨r1, r2, r3, r4, r5, r6, r7⟩, -⟩ := h
  unfold cU mU
  rw [(r6 a g0 g1).2.1.1, r1.1]
theorem RR.eD (h : RR S v b M P B s) {a : Int} (g0 : 0 ≤ a) (g1 : a < v P 2) : cD v P s a = mD v M B a := by
  have e := h.eU g0 g1
  obtain ⟨-, -, -, -, ⟨r1, r2, r3, r4, r5, r6, r7⟩, ⟨t1, t2, -⟩, -⟩ := h
  unfold cD mD
  rw [t1.1, t2, ← (r6 a g0 g1).2.1.1, tdd (by omega)]
  rfl
theorem RR.eK (h : RR S v b M P B s) {a : Int} (g0 : 0 ≤ a) (g1 : a < v P 2) : cK v P s a = mK v M a := by
  obtain ⟨-, -, -, -, -, ⟨t1, t2, t3, t4, t5, t6⟩, -⟩ := h
  unfold cK mK cD
  rw [(t5 a g0 g1).1.1, t1.1]
theorem RR.rm (h : RR S v b M P B s) : RM S v M B := by
  have hc := h.rc
  have hK := fun a g0 g1 => h.eK (a := a) g0 g1
  have hD := fun a g0 g1 => h.eD (a := a) g0 g1
  obtain ⟨⟨h1, h2, h3⟩, ⟨p1, p2, p3⟩, ⟨b1, b2⟩, ⟨s1, s2, s3⟩, ⟨r1, r2, r3, r4, r5, r6, r7⟩, ⟨t1, t2, -⟩, -⟩ := h
  refine ⟨h2, b1, b2, by rw [← r1.1]; exact r1.2, by rw [← r2.1]; exact r2.2, by rw [← r3.1]; exact r3.2, fun a g0 g1 => ?_, t1.2, by rw [t2, r1.1]⟩
  rw [← r3.1] at g1
  obtain ⟨a1, a2, a3, a4⟩ := r6 a g0 g1
  have kb := cK_b hc (a := a) ⟨g0, g1⟩
  rw [hK a g0 g1, hD a g0 g1] at kb
  exact ⟨by rw [← a2.1]; exact a2.2, kb⟩
theorem RR.eR (h : RR S v b M P B s) {a m i : Int} (g0 : 0 ≤ a) (g1 : a < v P 2) (q0 : 0 ≤ m) (q1 : m < v P 1) (i0 : 0 ≤ i) (i1 : i < cK v P s a) : cR v P s a m i = mR v M a m i ∧ tv (cR v P s a m i) := by
  have eK := h.eK g0 g1
  obtain ⟨-, -, -, -, -, ⟨t1, t2, t3, t4, t5, t6⟩, -⟩ := h
  have := ((t5 a g0 g1).2 m q0 q1).2 i i0 (by rw [eK] at i1; exact i1)
  unfold cR mR cD
  rw [t1.1]
  rw [← this.1] at this
  exact ⟨(((t5 a g0 g1).2 m q0 q1).2 i i0 (by rw [eK] at i1; exact i1)).1, this.2⟩
/-- a frame of questions, both sides' -/
def Fq (b P M : Int) (v w : QV) : Prop := ∀ a k, a ≠ b + 888 → (a = P + 3 → k ≠ 8) → a ≠ P + 7 → a ≠ P + 8 → (a = M → k < 47 ∨ 51 < k) → a ≠ M + 32 → a ≠ M + 33 → a ≠ M + 34 → a ≠ M + 35 → w a k = v a k
theorem Qf.fq (h : Qf b P v w) : Fq b P M v w := fun a k h1 h2 h3 h4 _ _ _ _ _ => h a k h1 h2 h3 h4
theorem Qm.fq (h : Qm M v w) : Fq b P M v w := fun a k _ _ _ _ h5 h6 h7 h8 h9 => h a k h5 h6 h7 h8 h9
theorem Fq.tr {u : QV} (h : Fq b P M u v) (h' : Fq b P M v w) : Fq b P M u w := fun a k h1 h2 h3 h4 h5 h6 h7 h8 h9 => (h' a k h1 h2 h3 h4 h5 h6 h7 h8 h9).trans (h a k h1 h2 h3 h4 h5 h6 h7 h8 h9)
theorem CC.eq {F : Int} {c e c' e' : Int → Int} {nm nm' : Int} {ns ns' : Nat} (h : CC v F c e nm ns) (hF : ∀ a k, (F ≤ a ∧ a ≤ F + 3 ∧ (a = F → k ≠ 8)) → w a k = v a k) (hc : c' = c) (he : e' = e) (hn : nm' = nm) (hs : ns' = ns) : CC w F c' e' nm' ns' := by
  subst hc he hn hs
  obtain ⟨c1, c2, c3, c4, c5, c6⟩ := h
  refine ⟨?_, c2, c3, c4, fun s g0 g1 => ?_, fun k g0 g1 => ?_⟩
  · rw [hF _ _ ⟨by omega, by omega, fun _ => by decide⟩]; exact c1
  · rw [hF _ _ ⟨by omega, by omega, fun _ => by omega⟩]; exact c5 s g0 g1
  · rw [hF _ _ ⟨by omega, by omega, fun _ => by omega⟩, hF _ _ ⟨by omega, by omega, fun _ => by omega⟩]; exact c6 k g0 g1
theorem PR.eq (h : PR v P M B) (hP : ∀ a k, P ≤ a → a ≤ P + 16 → (a = P + 3 → k ≠ 8) → a ≠ P + 7 → a ≠ P + 8 → w a k = v a k) (hM : ∀ j k, 2 ≤ j → j ≤ 25 → w (M + j) k = v (M + j) k) : PR w P M B := by
  obtain ⟨r1, r2, r3, r4, r5, r6, r7⟩ := h
  have eP : ∀ k, w P k = v P k := fun k => hP _ _ (by omega) (by omega) (by omega) (by omega) (by omega)
  refine ⟨?_, ?_, ?_, ?_, ?_, ?_, ?_⟩
  · rw [eP, hM _ _ (by omega) (by omega)]; exact r1
  · rw [eP, hM _ _ (by omega) (by omega)]; exact r2
  · rw [eP, hM _ _ (by omega) (by omega)]; exact r3
  · rw [hP (P + 3) 0 (by omega) (by omega) (by omega) (by omega) (by omega), hP (P + 3) 1 (by omega) (by omega) (by omega) (by omega) (by omega), hM _ _ (by omega) (by omega), hM _ _ (by omega) (by omega)]; exact r4
  · intro m g0 g1
    rw [eP] at g1
    have := r5 m g0 g1
    have e : ∀ k, w (P + (9 + m)) k = v (P + (9 + m)) k := fun k => hP _ _ (by omega) (by omega) (by omega) (by omega) (by omega)
    unfold PRm at this ⊢
    simp only [e]
    rw [hM 8 _ (by omega) (by omega), hM 9 _ (by omega) (by omega), hM 10 _ (by omega) (by omega), hM 11 _ (by omega) (by omega), hM 12 _ (by omega) (by omega), hM 13 _ (by omega) (by omega), hM 18 _ (by omega) (by omega), hM 19 _ (by omega) (by omega), hM 20 _ (by omega) (by omega), hM 21 _ (by omega) (by omega), hM 22 _ (by omega) (by omega), hM 23 _ (by omega) (by omega)]
    exact this
  · intro a g0 g1
    rw [eP] at g1
    have := r6 a g0 g1
    have e : ∀ k, w (P + (13 + a)) k = v (P + (13 + a)) k := fun k => hP _ _ (by omega) (by omega) (by omega) (by omega) (by omega)
    unfold PRa at this ⊢
    simp only [e]
    rw [hM 14 _ (by omega) (by omega), hM 15 _ (by omega) (by omega), hM 16 _ (by omega) (by omega), hM 17 _ (by omega) (by omega)]
    exact this
  · refine r7.eq (fun a k hh => hP a k (by omega) (by omega) (fun q => hh.2.2 q) (by omega) (by omega)) (funext fun k => ?_) (funext fun k => ?_) (eP 1) ?_
    · exact hM _ _ (by omega) (by omega)
    · exact hM _ _ (by omega) (by omega)
    · rw [hP _ _ (by omega) (by omega) (by omega) (by omega) (by omega)]
theorem RR.nb (h : RR S v b M P B s) : v P 1 ≤ 4 ∧ v P 2 ≤ 4 := ⟨h.rc.2.2.2.2.2.2.1.2, h.rc.2.2.2.2.2.2.2.1.2⟩
theorem SR.q {f f' : Int → Int} (hn : v P 1 ≤ 4 ∧ v P 2 ≤ 4) (hP : ∀ a k, (a = P ∨ (P + 9 ≤ a ∧ a ≤ P + 16)) → w a k = v a k) (hs : ∀ a k, s ≤ a → a < s + 56 → w a k = v a k) (hf : ∀ k, 0 ≤ k → k < 1095 → f' k = f k) (h : SR v P s f) : SR w P s f' := by
  exact SR.cong hn.1 hn.2 hP (Dq.of hs) hf h
theorem RR.q (h : RR S v b M P B s) (hq : Fq b P M v w) (hk : Kp S v w) : RR S w b M P B s := by
  have hn := h.nb
  obtain ⟨⟨h1, h2, h3⟩, ⟨p1, p2, p3⟩, ⟨b1, b2⟩, ⟨s1, s2, s3⟩, r, t, ⟨u1, u2, u3⟩, un, re, bx, tp, fa⟩ := h
  have eb : ∀ k, w b k = v b k := fun k => hq _ _ (by omega) (by omega) (by omega) (by omega) (by omega) (by omega) (by omega) (by omega) (by omega)
  have eM : ∀ k, k < 47 ∨ 51 < k → w M k = v M k := fun k hh => hq _ _ (by omega) (by omega) (by omega) (by omega) (fun _ => hh) (by omega) (by omega) (by omega) (by omega)
  have eP : ∀ a k, (a = P ∨ (P + 9 ≤ a ∧ a ≤ P + 16)) → w a k = v a k := fun a k hh => hq _ _ (by omega) (by omega) (by omega) (by omega) (by omega) (by omega) (by omega) (by omega) (by omega)
  have es : ∀ s', b + 45 ≤ s' → s' ≤ b + 830 → ∀ a k, s' ≤ a → a < s' + 56 → w a k = v a k := fun s' g0 g1 a k g2 g3 => hq _ _ (by omega) (by omega) (by omega) (by omega) (by omega) (by omega) (by omega) (by omega) (by omega)
  have em : ∀ j k, (1 ≤ j ∧ j ≤ 31) ∨ (36 ≤ j ∧ j ≤ 38) → w (M + j) k = v (M + j) k := fun j k hh => hq _ _ (by omega) (by omega) (by omega) (by omega) (by omega) (by omega) (by omega) (by omega) (by omega)
  refine ⟨⟨h1.keep hk, h2.keep hk, h3⟩, ⟨by rw [eb]; exact p1, by rw [eb]; exact p2, p3⟩, ⟨by rw [eM 28 (by decide)]; exact b1, b2⟩, ⟨by rw [eb]; exact s1, by rw [eb]; exact s2, by rw [eb]; exact s3⟩, ?_, ?_, ?_, ?_, ?_, ?_, ?_, ?_⟩
  · exact r.eq (fun a k g0 g1 g2 g3 g4 => hq _ _ (by omega) g2 g3 g4 (by omega) (by omega) (by omega) (by omega) (by omega)) (fun j k g0 g1 => em j k (by omega))
  · exact SR.q hn eP (es s (by omega) (by omega)) (fun k _ _ => em 1 k (by omega)) t
  · rw [eb, eb, eM 58 (by decide), eM 59 (by decide)]; exact ⟨u1, u2, u3⟩
  · intro j g0 g1
    rw [eb] at g1
    rw [eb, eb]
    exact SR.q hn eP (es _ (by omega) (by omega)) (fun k _ _ => em 36 _ (by omega)) (un j g0 g1)
  · intro j g0 g1
    rw [eb] at g1
    rw [eb, eb]
    exact SR.q hn eP (es _ (by omega) (by omega)) (fun k _ _ => em 36 _ (by omega)) (re j g0 g1)
  · intro x g0 g1
    have e1 : ∀ k, w (b + 886) k = v (b + 886) k := fun k => hq _ _ (by omega) (by omega) (by omega) (by omega) (by omega) (by omega) (by omega) (by omega) (by omega)
    rw [e1, em 38 _ (by omega)]
    exact ⟨(bx x g0 g1).1, fun g2 => SR.q hn eP (es _ (by omega) (by omega)) (fun k _ _ => em 37 _ (by omega)) ((bx x g0 g1).2 g2)⟩
  · have e1 : ∀ k, w (b + 1) k = v (b + 1) k := fun k => hq _ _ (by omega) (by omega) (by omega) (by omega) (by omega) (by omega) (by omega) (by omega) (by omega)
    have e2 : ∀ k, w (b + 2) k = v (b + 2) k := fun k => hq _ _ (by omega) (by omega) (by omega) (by omega) (by omega) (by omega) (by omega) (by omega) (by omega)
    have e3 : ∀ k, w (M + 28) k = v (M + 28) k := fun k => em 28 k (by omega)
    rw [e1, eM 30 (by decide)]
    simp only [e2, e3]
    exact tp
  · rw [eb, eb, eM 39 (by decide), eM 40 (by decide)]; exact fa
end RE
