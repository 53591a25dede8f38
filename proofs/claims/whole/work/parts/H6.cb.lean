/-! MAKING: the class whole, its second half -/
section MK6
variable {S S' S2 : QS} {v v' v2 : QV} {L : QL} {N : QN} {Q Q' : QL → QN → Prop} {c u : Nat} {a b lo hi : Int} {E : Int → Prop}
/-- the states -/
def PB1 (S : QS) (v : QV) (S6 : QS) (v6 : QV) (a : Int) : Prop := Gr S S6 v v6 (a + 44) ∧ ((S6.2.2 : Nat) : Int) = a + 773 ∧ ∀ i, 0 ≤ i → i < 13 → v6 (a + 44) i = a + (45 + 56 * i) ∧ LSt S6 v6 (a + (45 + 56 * i)) ∧ v6 (a + (45 + 56 * i)) 0 = 0 ∧ v6 (a + (45 + 56 * i)) 1 = 0
theorem w_X11b {r : NT} (h1 : ((S.2.2 : Nat) : Int) = a + 45) (h0 : 0 ≤ a) (h2 : S.1 a = 12) (l0 : L 0 = a) (h4 : v a 4 = a + 44) (h5 : S.1 (a + 44) = 38 ∧ S.2.1 (a + 44) = 13) (hc : 728 ≤ c) (hu : 14573 ≤ u) (h : ∀ L' S6 v6, L' 0 = a → PB1 S v S6 v6 a → wN r L' (S6, v6, c - 728, u - 14573) Q) : wN (nSeq (nLift (sSet 1 (eI 0))) (nSeq (nWh (cB qlt (eV 1) (eI 13)) nbX11_init_1 100) r)) L (S, v, c, u) Q := by
  rw [wN_Seq]
  refine w_set ?_
  have n0 : lu L 1 0 0 = a := by simp [lu_ap, l0]
  have n1 : lu L 1 0 1 = 0 := by simp [lu_ap]
  generalize lu L 1 0 = L1 at *
  rw [wN_Seq]
  refine n_loop (K := 13) (arr := a + 44) cs_X8 (by decide) (by decide) n0 n1 h2 (by omega) h4 (by omega) (by omega) h5.1 h5.2 (by omega) (by omega) (fun L6 S6 v6 c6 u6 m0 g6 s6 p6 ec6 eu6 => ?_)
  have s6' : ((S6.2.2 : Nat) : Int) = a + 773 := by omega
  have ec : c6 = c - 728 := by omega
  have eu : u6 = u - 14573 := by omega
  rw [ec, eu]
  refine h L6 S6 v6 m0 ⟨g6, s6', fun i i0 i1 => ?_⟩
  obtain ⟨x, y, z⟩ := p6 i i0 i1
  rw [show ((S.2.2 : Nat) : Int) + (1 + ((55 : Nat) : Int)) * i = a + (45 + 56 * i) by omega] at x y z
  exact ⟨x, y, by rw [z 0 (by decide)]; rfl, by rw [z 1 (by decide)]; rfl⟩
/-- the boxes -/
def PB2 (S : QS) (v : QV) (S7 : QS) (v7 : QV) (a : Int) : Prop := GrP S S7 v v7 (fun q => q = a) ∧ ((S7.2.2 : Nat) : Int) = a + 886 ∧ (v7 a 8 = a + 773 ∧ ∀ k, k ≠ 8 → v7 a k = v a k) ∧ (S7.1 (a + 773) = 38 ∧ S7.2.1 (a + 773) = 2) ∧ ∀ i, 0 ≤ i → i < 2 → v7 (a + 773) i = a + (774 + 56 * i) ∧ LSt S7 v7 (a + (774 + 56 * i))
theorem w_X11c {r : NT} (h1 : ((S.2.2 : Nat) : Int) = a + 773) (h0 : 0 ≤ a) (h2 : S.1 a = 12) (l0 : L 0 = a) (hc : 113 ≤ c) (hu : 2244 ≤ u) (h : ∀ L' S6 v6, L' 0 = a → PB2 S v S6 v6 a → wN r L' (S6, v6, c - 113, u - 2244) Q) : wN (nSeq (nFA 11 8 38 2) (nSeq (nLift (sSet 1 (eI 0))) (nSeq (nWh (cB qlt (eV 1) (eI 2)) nbX11_init_2 100) r))) L (S, v, c, u) Q := by
  rw [wN_Seq]
  have t2 : (2 : Int).toNat = 2 := rfl
  refine n_FA (by rw [l0]; exact h2) (by rw [l0]; omega) (by omega) (by omega) (fun S1 v1 f1 => ?_)
  rw [l0] at f1
  have g1 := f1.gr
  have y1 := f1.2.1
  have w1 := f1.2.2.2.2.1
  rw [h1] at y1 w1
  have e1 : ∀ k, k ≠ 8 → v1 a k = v a k := fun k hk => f1.2.2.2.2.2 a k (by omega) (fun _ => hk)
  have s1 : ((S1.2.2 : Nat) : Int) = a + 774 := by have := f1.1; omega
  have k1 : S1.1 a = 12 := by rw [(g1.2.1 a (by omega)).1]; exact h2
  clear f1
  rw [wN_Seq]
  refine w_set ?_
  have n0 : lu L 1 0 0 = a := by simp [lu_ap, l0]
  have n1 : lu L 1 0 1 = 0 := by simp [lu_ap]
  generalize lu L 1 0 = L1 at *
  rw [wN_Seq]
  refine n_loop (K := 2) (arr := a + 773) cs_X8 (by decide) (by decide) n0 n1 k1 (by omega) w1 (by omega) (by omega) y1.1 y1.2 (by omega) (by omega) (fun L6 S6 v6 c6 u6 m0 g6 s6 p6 ec6 eu6 => ?_)
  have s6' : ((S6.2.2 : Nat) : Int) = a + 886 := by omega
  have ec : c6 = c - 113 := by omega
  have eu : u6 = u - 2244 := by omega
  have va : ∀ k, v6 a k = v1 a k := fun k => g6.2.2 a k (by omega) (by omega)
  rw [ec, eu]
  refine h L6 S6 v6 m0 ⟨⟨Nat.le_trans g1.1 g6.1, fun q hq => ?_, fun q k hq hn => ?_⟩, s6', ⟨by rw [va]; exact w1, fun k hk => by rw [va]; exact e1 k hk⟩, ⟨by rw [(g6.2.1 _ (by omega)).1]; exact y1.1, by rw [(g6.2.1 _ (by omega)).2]; exact y1.2⟩, fun i i0 i1 => ?_⟩
  · have x := g6.2.1 q (by omega); have y := g1.2.1 q hq
    exact ⟨x.1.trans y.1, x.2.trans y.2⟩
  · rw [g6.2.2 q k (by omega) (by omega)]; exact g1.2.2 q k hq hn
  · obtain ⟨x, y, -⟩ := p6 i i0 i1
    rw [show ((S1.2.2 : Nat) : Int) + (1 + ((55 : Nat) : Int)) * i = a + (774 + 56 * i) by omega] at x y
    exact ⟨x, y⟩
/-- the rest -/
def PB3 (S : QS) (v : QV) (S7 : QS) (v7 : QV) (a : Int) : Prop := Gr S S7 v v7 a ∧ ((S7.2.2 : Nat) : Int) = a + 889 ∧ (v7 a 9 = a + 886 ∧ v7 a 11 = -1 ∧ v7 a 12 = a + 887 ∧ v7 a 13 = a + 888 ∧ ∀ k, k ≠ 9 → k ≠ 11 → k ≠ 12 → k ≠ 13 → v7 a k = v a k) ∧ (S7.1 (a + 886) = 24 ∧ S7.2.1 (a + 886) = 2) ∧ (∀ k, v7 (a + 886) k = 0) ∧ (S7.1 (a + 887) = 20 ∧ S7.2.1 (a + 887) = 4) ∧ S7.1 (a + 888) = 10
theorem w_X11d (h1 : ((S.2.2 : Nat) : Int) = a + 886) (h0 : 0 ≤ a) (h2 : S.1 a = 12) (l0 : L 0 = a) (hc : 3 ≤ c) (hu : 12 ≤ u) (h : ∀ L' S6 v6, PB3 S v S6 v6 a → Q L' (S6, v6, c - 3, u - 12)) : wN (nSeq (nFA 11 9 24 2) (nSeq (nLift (sPut 11 11 (eV 0) (eI (-1)))) (nSeq (nFA 11 12 20 4) (nFO 11 13 9 6 mX9_init 0 0)))) L (S, v, c, u) Q := by
  have t2 : (2 : Int).toNat = 2 := rfl
  have t4 : (4 : Int).toNat = 4 := rfl
  rw [wN_Seq]
  refine n_FA (by rw [l0]; exact h2) (by rw [l0]; omega) (by omega) (by omega) (fun S1 v1 f1 => ?_)
  rw [l0] at f1
  have g1 := f1.gr
  have y1 := f1.2.1
  have w1 := f1.2.2.2.2.1
  have z1 := f1.2.2.2.1
  rw [h1] at y1 w1 z1
  have e1 : ∀ k, k ≠ 9 → v1 a k = v a k := fun k hk => f1.2.2.2.2.2 a k (by omega) (fun _ => hk)
  have s1 : ((S1.2.2 : Nat) : Int) = a + 887 := by have := f1.1; omega
  have k1 : S1.1 a = 12 := by rw [(g1.2.1 a (by omega)).1]; exact h2
  clear f1
  rw [wN_Seq]
  refine wN_Lift ?_
  rw [wS_Put, wE_V, wE_I]
  refine ⟨by rw [l0]; exact k1, rfl, ?_⟩
  rw [l0]
  have w2 : vu v1 a 11 (-1) a 11 = -1 := vu_is
  have e2 : ∀ k, k ≠ 11 → vu v1 a 11 (-1) a k = v1 a k := fun k hk => vu_ne (fun e => hk e.2)
  have o2 : ∀ q k, q ≠ a → vu v1 a 11 (-1) q k = v1 q k := fun q k hq => vu_ne (fun e => hq e.1)
  generalize vu v1 a 11 (-1) = v2 at *
  rw [wN_Seq]
  refine n_FA (by rw [l0]; exact k1) (by rw [l0]; omega) (by omega) (by omega) (fun S3 v3 f3 => ?_)
  rw [l0] at f3
  have g3 := f3.gr
  have y3 := f3.2.1
  have w3 := f3.2.2.2.2.1
  rw [s1] at y3 w3
  have e3 : ∀ k, k ≠ 12 → v3 a k = v2 a k := fun k hk => f3.2.2.2.2.2 a k (by omega) (fun _ => hk)
  have s3 : ((S3.2.2 : Nat) : Int) = a + 888 := by have := f3.1; omega
  have k3 : S3.1 a = 12 := by rw [(g3.2.1 a (by omega)).1]; exact k1
  clear f3
  refine n_FO cs_X9 (by rw [l0]; exact k3) (by rw [l0]; omega) (by omega) (by omega) (fun S4 v4 f4 => ?_)
  rw [l0] at f4
  have g4 := f4.gr
  obtain ⟨a1, a2, a3, a4, a5, -⟩ := f4
  rw [s3] at a4 a5
  have ec : c - 1 - 1 - 1 - 0 = c - 3 := by omega
  have eu : u - (2 : Int).toNat - (4 : Int).toNat - 6 - 0 = u - 12 := by omega
  rw [ec, eu]
  have e4 : ∀ k, k ≠ 13 → v4 a k = v3 a k := fun k hk => a3 a k (by omega) (fun _ => hk)
  refine h L S4 v4 ⟨⟨Nat.le_trans g1.1 (Nat.le_trans g3.1 g4.1), fun q hq => ?_, fun q k hq hn => ?_⟩, by omega, ⟨?_, ?_, ?_, a4, fun k q1 q2 q3 q4 => ?_⟩, ⟨?_, ?_⟩, fun k => ?_, ⟨?_, ?_⟩, a5⟩
  · have x := g4.2.1 q (by omega); have y := g3.2.1 q (by omega); have z := g1.2.1 q hq
    exact ⟨(x.1.trans y.1).trans z.1, (x.2.trans y.2).trans z.2⟩
  · rw [g4.2.2 q k (by omega) hn, g3.2.2 q k (by omega) hn, o2 q k hn]; exact g1.2.2 q k hq hn
  · rw [e4 _ (by decide), e3 _ (by decide), e2 _ (by decide)]; exact w1
  · rw [e4 _ (by decide), e3 _ (by decide)]; exact w2
  · rw [e4 _ (by decide)]; exact w3
  · rw [e4 _ q4, e3 _ q3, e2 _ q2]; exact e1 k q1
  · rw [(g4.2.1 _ (by omega)).1, (g3.2.1 _ (by omega)).1]; exact y1.1
  · rw [(g4.2.1 _ (by omega)).2, (g3.2.1 _ (by omega)).2]; exact y1.2
  · rw [g4.2.2 _ k (by omega) (by omega), g3.2.2 _ k (by omega) (by omega), o2 _ k (by omega), z1]; rfl
  · rw [(g4.2.1 _ (by omega)).1]; exact y3.1
  · rw [(g4.2.1 _ (by omega)).2]; exact y3.2
end MK6
