/-! MAKING: the class whole -/
def GrP (S S' : QS) (v v' : QV) (E : Int → Prop) : Prop := S.2.2 ≤ S'.2.2 ∧ (∀ q : Int, q < (S.2.2 : Int) → S'.1 q = S.1 q ∧ S'.2.1 q = S.2.1 q) ∧ ∀ (q k : Int), q < (S.2.2 : Int) → ¬ E q → v' q k = v q k
def LC0 (S : QS) (v : QV) (b : Int) : Prop := LCl S v b ∧ (v b 2 = b + 10 ∧ v b 3 = b + 27 ∧ v b 11 = -1) ∧ (v (b + 10) 0 = 1 ∧ v (b + 10) 1 = 0 ∧ v (b + 10) 2 = 0 ∧ v (b + 13) 0 = 0 ∧ v (b + 13) 1 = 0 ∧ v (b + 13) 2 = 0) ∧ v (b + 1) 1 = 0 ∧ (v (b + 45) 0 = 0 ∧ v (b + 45) 1 = 0) ∧ (v (b + 886) 0 = 0 ∧ v (b + 886) 1 = 0)
section MK5
variable {S S' S2 : QS} {v v' v2 : QV} {L : QL} {N : QN} {Q Q' : QL → QN → Prop} {c u : Nat} {a b lo hi : Int} {E : Int → Prop}
theorem GrP.tr (h : GrP S S' v v' E) (h' : GrP S' S2 v' v2 E) : GrP S S2 v v2 E := by
  obtain ⟨h1, h2, h3⟩ := h
  obtain ⟨g1, g2, g3⟩ := h'
  refine ⟨Nat.le_trans h1 g1, fun q hq => ?_, fun q k hq hn => ?_⟩
  · have := g2 q (by omega)
    rw [this.1, this.2]; exact h2 q hq
  · rw [g3 q k (by omega) hn]; exact h3 q k hq hn
theorem Gr.gp (h : Gr S S' v v' a) (he : E a) : GrP S S' v v' E := ⟨h.1, h.2.1, fun q k hq hn => h.2.2 q k hq (fun e => hn (by rw [e]; exact he))⟩
theorem GrP.eqw (h : GrP S S' v v' E) (h1 : hi < S.2.2) (h2 : ∀ q, lo ≤ q → q ≤ hi → ¬ E q) : Eqw S S' v v' lo hi := fun q q1 q2 => ⟨(h.2.1 q (by omega)).1, (h.2.1 q (by omega)).2, fun k => h.2.2 q k (by omega) (h2 q q1 q2)⟩
def PA1 (S : QS) (v : QV) (S5 : QS) (v5 : QV) (a : Int) : Prop := Gr S S5 v v5 a ∧ ((S5.2.2 : Nat) : Int) = a + 45 ∧ (v5 a 0 = a + 1 ∧ v5 a 1 = a + 6 ∧ v5 a 2 = a + 10 ∧ v5 a 3 = a + 27 ∧ v5 a 4 = a + 44) ∧ (∀ k, k ∉ [(0 : Int), 1, 2, 3, 4] → v5 a k = v a k) ∧ (S5.1 (a + 44) = 38 ∧ S5.2.1 (a + 44) = 13) ∧ (LTp S5 v5 (a + 1) ∧ LPs S5 v5 (a + 6) ∧ LPz S5 v5 (a + 10) ∧ LPz S5 v5 (a + 27)) ∧ (v5 (a + 10) 1 = 0 ∧ v5 (a + 10) 2 = 0 ∧ v5 (a + 1) 1 = 0)
theorem LPz.st (h : LPz S v a) (e : Eqw S S' v v' a (a + 16)) : LPz S' v' a := cs_X6.2.1 _ _ _ _ _ h e
theorem w_X11a {r : NT} (h1 : a + 1 = S.2.2) (h0 : 0 ≤ a) (h2 : S.1 a = 12) (l0 : L 0 = a) (hc : 44 ≤ c) (hu : 4587 ≤ u) (h : ∀ S5 v5, PA1 S v S5 v5 a → wN r L (S5, v5, c - 44, u - 4587) Q) : wN (nSeq (nFO 11 0 10 6 mX10_init 4 4000) (nSeq (nFO 11 1 5 10 mX5_init 3 76) (nSeq (nFO 11 2 6 6 mX6_init 16 235) (nSeq (nFO 11 3 6 6 mX6_init 16 235) (nSeq (nFA 11 4 38 13) r))))) L (S, v, c, u) Q := by
  have k0 := h2
  rw [wN_Seq]
  refine n_FO cs_X10 (by rw [l0]; exact k0) (by rw [l0]; omega) (by omega) (by omega) (fun S1 v1 f1 => ?_)
  rw [l0] at f1
  have g1 : Gr S S1 v v1 a := f1.gr
  have w1 : v1 a 0 = a + 1 := by rw [f1.2.2.2.1]; omega
  have e1 : ∀ q, q ≠ 0 → v1 a q = v a q := fun q hq => f1.2.2.1 a q (by omega) (fun _ => hq)
  have y1 := f1.2.2.2.2.1
  rw [show ((S.2.2 : Nat) : Int) = a + 1 by omega] at y1
  have z1 := f1.2.2.2.2.2
  rw [show ((S.2.2 : Nat) : Int) = a + 1 by omega] at z1
  have s1 : ((S1.2.2 : Nat) : Int) = a + 6 := by have := f1.1; omega
  clear f1
  have k1 : S1.1 a = 12 := by rw [(g1.2.1 a (by omega)).1]; exact k0
  rw [wN_Seq]
  refine n_FO cs_X5 (by rw [l0]; exact k1) (by rw [l0]; omega) (by omega) (by omega) (fun S2 v2 f2 => ?_)
  rw [l0] at f2
  have g2 : Gr S1 S2 v1 v2 a := f2.gr
  have w2 : v2 a 1 = a + 6 := by rw [f2.2.2.2.1]; omega
  have e2 : ∀ q, q ≠ 1 → v2 a q = v1 a q := fun q hq => f2.2.2.1 a q (by omega) (fun _ => hq)
  have y2 := f2.2.2.2.2.1
  rw [show ((S1.2.2 : Nat) : Int) = a + 6 by omega] at y2
  have z2 := f2.2.2.2.2.2
  rw [show ((S1.2.2 : Nat) : Int) = a + 6 by omega] at z2
  have s2 : ((S2.2.2 : Nat) : Int) = a + 10 := by have := f2.1; omega
  clear f2
  have k2 : S2.1 a = 12 := by rw [(g2.2.1 a (by omega)).1]; exact k1
  rw [wN_Seq]
  refine n_FO cs_X6 (by rw [l0]; exact k2) (by rw [l0]; omega) (by omega) (by omega) (fun S3 v3 f3 => ?_)
  rw [l0] at f3
  have g3 : Gr S2 S3 v2 v3 a := f3.gr
  have w3 : v3 a 2 = a + 10 := by rw [f3.2.2.2.1]; omega
  have e3 : ∀ q, q ≠ 2 → v3 a q = v2 a q := fun q hq => f3.2.2.1 a q (by omega) (fun _ => hq)
  have y3 := f3.2.2.2.2.1
  rw [show ((S2.2.2 : Nat) : Int) = a + 10 by omega] at y3
  have z3 := f3.2.2.2.2.2
  rw [show ((S2.2.2 : Nat) : Int) = a + 10 by omega] at z3
  have s3 : ((S3.2.2 : Nat) : Int) = a + 27 := by have := f3.1; omega
  clear f3
  have k3 : S3.1 a = 12 := by rw [(g3.2.1 a (by omega)).1]; exact k2
  rw [wN_Seq]
  refine n_FO cs_X6 (by rw [l0]; exact k3) (by rw [l0]; omega) (by omega) (by omega) (fun S4 v4 f4 => ?_)
  rw [l0] at f4
  have g4 : Gr S3 S4 v3 v4 a := f4.gr
  have w4 : v4 a 3 = a + 27 := by rw [f4.2.2.2.1]; omega
  have e4 : ∀ q, q ≠ 3 → v4 a q = v3 a q := fun q hq => f4.2.2.1 a q (by omega) (fun _ => hq)
  have y4 := f4.2.2.2.2.1
  rw [show ((S3.2.2 : Nat) : Int) = a + 27 by omega] at y4
  have z4 := f4.2.2.2.2.2
  rw [show ((S3.2.2 : Nat) : Int) = a + 27 by omega] at z4
  have s4 : ((S4.2.2 : Nat) : Int) = a + 44 := by have := f4.1; omega
  clear f4
  have k4 : S4.1 a = 12 := by rw [(g4.2.1 a (by omega)).1]; exact k3
  rw [wN_Seq]
  refine n_FA (by rw [l0]; exact k4) (by rw [l0]; omega) (by omega) (by have : (13 : Int).toNat = 13 := rfl; omega) (fun S5 v5 f5 => ?_)
  rw [l0] at f5
  have g5 : Gr S4 S5 v4 v5 a := f5.gr
  have w5 : v5 a 4 = a + 44 := by rw [f5.2.2.2.2.1]; omega
  have e5 : ∀ q, q ≠ 4 → v5 a q = v4 a q := fun q hq => f5.2.2.2.2.2 a q (by omega) (fun _ => hq)
  have y5 := f5.2.1
  rw [show ((S4.2.2 : Nat) : Int) = a + 44 by omega] at y5
  have s5 : ((S5.2.2 : Nat) : Int) = a + 45 := by have := f5.1; omega
  clear f5
  have k5 : S5.1 a = 12 := by rw [(g5.2.1 a (by omega)).1]; exact k4
  have d4 : Gr S4 S5 v4 v5 a := g5
  have d3 := g4.tr d4
  have d2 := g3.tr d3
  have d1 := g2.tr d2
  have x1 := d1.eqw (lo := a + 1) (hi := a + 5) (by omega) (by omega)
  have x3 := d3.eqw (lo := a + 10) (hi := a + 26) (by omega) (by omega)
  have ec : c - 1 - 4 - 1 - 3 - 1 - 16 - 1 - 16 - 1 = c - 44 := by omega
  have eu : u - 6 - 4000 - 10 - 76 - 6 - 235 - 6 - 235 - (13 : Int).toNat = u - 4587 := by have : (13 : Int).toNat = 13 := rfl; omega
  rw [ec, eu]
  refine h S5 v5 ⟨g1.tr d1, s5, ⟨?_, ?_, ?_, ?_, w5⟩, fun k hk => ?_, y5, ⟨y1.st (x1.sub (by omega) (by omega)), y2.st (d2.eqw (by omega) (by omega)), y3.st (x3.sub (by omega) (by omega)), y4.st (d4.eqw (by omega) (by omega))⟩, ?_, ?_, ?_⟩
  · rw [e5 0 (by decide), e4 0 (by decide), e3 0 (by decide), e2 0 (by decide)]; exact w1
  · rw [e5 1 (by decide), e4 1 (by decide), e3 1 (by decide)]; exact w2
  · rw [e5 2 (by decide), e4 2 (by decide)]; exact w3
  · rw [e5 3 (by decide)]; exact w4
  · simp only [List.mem_cons, List.not_mem_nil, or_false, not_or] at hk
    rw [e5 k hk.2.2.2.2, e4 k hk.2.2.2.1, e3 k hk.2.2.1, e2 k hk.2.1, e1 k hk.1]
  · rw [(x3 (a + 10) (by omega) (by omega)).2.2, z3 1 (by decide)]; rfl
  · rw [(x3 (a + 10) (by omega) (by omega)).2.2, z3 2 (by decide)]; rfl
  · rw [(x1 (a + 1) (by omega) (by omega)).2.2, z1 1 (by decide)]; rfl
end MK5
