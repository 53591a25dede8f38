/-! MAKING: the class whole, put together -/
section MK7
variable {S S' S2 : QS} {v v' v2 : QV} {L : QL} {N : QN} {Q Q' : QL → QN → Prop} {c u : Nat} {a b lo hi : Int} {E : Int → Prop}
theorem X11_fin {S5 S6 S7 S8 : QS} {v5 v6 v7 v8 : QV} (h1 : a + 1 = S.2.2) (h0 : 0 ≤ a) (h2 : S.1 a = 12) (hA : PA1 S v S5 v5 a) (hB : PB1 S5 v5 S6 v6 a) (hC : PB2 S6 v6 S7 v7 a) (hD : PB3 S7 v7 S8 v8 a) : Gr S S8 v v8 a ∧ ((S8.2.2 : Nat) : Int) = a + 889 ∧ LC0 S8 v8 a ∧ ∀ k, k ∉ [(0 : Int), 1, 2, 3, 4, 8, 9, 11, 12, 13] → v8 a k = v a k := by
  have g5 := hA.1
  have s5 := hA.2.1
  have g6 := hB.1
  have s6 := hB.2.1
  have g7 := hC.1
  have s7 := hC.2.1
  have g8 := hD.1
  have s8 := hD.2.1
  have E5 : ∀ q : Int, q < a + 45 → S8.1 q = S5.1 q ∧ S8.2.1 q = S5.2.1 q := fun q hq => by
    have x := g8.2.1 q (by omega); have y := g7.2.1 q (by omega); have z := g6.2.1 q (by omega)
    exact ⟨(x.1.trans y.1).trans z.1, (x.2.trans y.2).trans z.2⟩
  have V5 : ∀ (q k : Int), q < a + 44 → q ≠ a → v8 q k = v5 q k := fun q k h1 h2 => by
    rw [g8.2.2 q k (by omega) h2, g7.2.2 q k (by omega) h2, g6.2.2 q k (by omega) (by omega)]
  have w5 : ∀ lo hi : Int, a < lo → hi < a + 44 → Eqw S5 S8 v5 v8 lo hi := fun lo hi q1 q2 q h1 h2 => ⟨(E5 q (by omega)).1, (E5 q (by omega)).2, fun k => V5 q k (by omega) (by omega)⟩
  have x6 : ∀ k, v6 a k = v5 a k := fun k => g6.2.2 a k (by omega) (by omega)
  have dd := hD.2.2.1.2.2.2.2
  have co := hC.2.2.1.2
  have A5 : ∀ k, k ≠ 8 → k ≠ 9 → k ≠ 11 → k ≠ 12 → k ≠ 13 → v8 a k = v5 a k := fun k q1 q2 q3 q4 q5 => by
    rw [dd k q2 q3 q4 q5, co k q1, x6]
  have w6 : ∀ i : Int, 0 ≤ i → i < 13 → Eqw S6 S8 v6 v8 (a + (45 + 56 * i)) (a + (45 + 56 * i) + 55) := fun i i0 i1 q h1 h2 => by
    have x := g8.2.1 q (by omega); have y := g7.2.1 q (by omega)
    exact ⟨x.1.trans y.1, x.2.trans y.2, fun k => by rw [g8.2.2 q k (by omega) (by omega), g7.2.2 q k (by omega) (show q ≠ a by omega)]⟩
  have w7 : ∀ i : Int, 0 ≤ i → i < 2 → Eqw S7 S8 v7 v8 (a + (774 + 56 * i)) (a + (774 + 56 * i) + 55) := fun i i0 i1 => g8.eqw (by omega) (by omega)
  have i1 : a < a + 1 := by omega
  have W1 := w5 (a + 1) (a + 1 + 4) (by omega) (by omega)
  have W2 := w5 (a + 6) (a + 6 + 3) (by omega) (by omega)
  have W3 := w5 (a + 10) (a + 10 + 16) (by omega) (by omega)
  have W4 := w5 (a + 27) (a + 27 + 16) (by omega) (by omega)
  have Ka : S8.1 a = 12 := by rw [(E5 a (by omega)).1, (g5.2.1 a (by omega)).1]; exact h2
  have K44 := E5 (a + 44) (by omega)
  have K773 := g8.2.1 (a + 773) (by omega)
  have V44 : ∀ k, v8 (a + 44) k = v6 (a + 44) k := fun k => by rw [g8.2.2 _ k (by omega) (by omega), g7.2.2 _ k (by omega) (show a + 44 ≠ a by omega)]
  have V773 : ∀ k, v8 (a + 773) k = v7 (a + 773) k := fun k => g8.2.2 _ k (by omega) (by omega)
  have V45 : ∀ k, v8 (a + 45) k = v6 (a + 45) k := fun k => by rw [g8.2.2 _ k (by omega) (by omega), g7.2.2 _ k (by omega) (show a + 45 ≠ a by omega)]
  have V10 : ∀ k, v8 (a + 10) k = v5 (a + 10) k := fun k => V5 _ k (by omega) (by omega)
  have V1 : ∀ k, v8 (a + 1) k = v5 (a + 1) k := fun k => V5 _ k (by omega) (by omega)
  have G : Gr S S8 v v8 a := ⟨by have x1 := g5.1; have x2 := g6.1; have x3 := g7.1; have x4 := g8.1; omega, fun q hq => by
    have x := E5 q (by omega); have y := g5.2.1 q hq
    exact ⟨x.1.trans y.1, x.2.trans y.2⟩, fun q k hq hn => by
    rw [V5 q k (by omega) hn]; exact g5.2.2 q k hq hn⟩
  have e13 : a + 10 + 3 = a + 13 := by omega
  have e45 : a + (45 + 56 * (0 : Int)) = a + 45 := by omega
  clear E5 V5 w5 s5 s6 s7 g5 g6 g7 g8
  have pz := hA.2.2.2.2.2.1.2.2.1.st W3
  obtain ⟨pz1, pz2, pz3, pz4, pz5⟩ := pz
  rw [e13] at pz3 pz4 pz5
  have st0 := hB.2.2 0 (by decide) (by decide)
  rw [e45] at st0
  obtain ⟨b0, b1, b2, b3, b4⟩ := hA.2.2.1
  have k44 := hA.2.2.2.2.1
  have k773 := hC.2.2.2.1
  obtain ⟨d9, d11, d12, d13, -⟩ := hD.2.2.1
  obtain ⟨k886, v886, k887, k888⟩ := hD.2.2.2
  refine ⟨G, s8, ⟨⟨Ka, ?_, ?_, ?_, ?_, d9, d12, d13, by rw [K44.1]; exact k44.1, by rw [K44.2]; exact k44.2, by rw [K773.1]; exact k773.1, by rw [K773.2]; exact k773.2, k886.1, k886.2, k887.1, k887.2, k888, hA.2.2.2.2.2.1.1.st W1, hA.2.2.2.2.2.1.2.1.st W2, pz1, (hA.2.2.2.2.2.1.2.2.2.st W4).1, fun i i0 i1 => ?_, fun i i0 i1 => ?_, fun i i0 i1 => (hB.2.2 i i0 i1).2.1.st (w6 i i0 i1), fun i i0 i1 => (hC.2.2.2.2 i i0 i1).2.st (w7 i i0 i1)⟩, ⟨?_, ?_, d11⟩, ⟨pz2, ?_, ?_, pz3, pz4, pz5⟩, ?_, ⟨?_, ?_⟩, v886 0, v886 1⟩, fun k hk => ?_⟩
  · rw [A5 _ (by decide) (by decide) (by decide) (by decide) (by decide)]; exact b0
  · rw [A5 _ (by decide) (by decide) (by decide) (by decide) (by decide)]; exact b1
  · rw [A5 _ (by decide) (by decide) (by decide) (by decide) (by decide)]; exact b4
  · rw [dd _ (by decide) (by decide) (by decide) (by decide)]; exact hC.2.2.1.1
  · rw [V44]; exact (hB.2.2 i i0 i1).1
  · rw [V773]; exact (hC.2.2.2.2 i i0 i1).1
  · rw [A5 _ (by decide) (by decide) (by decide) (by decide) (by decide)]; exact b2
  · rw [A5 _ (by decide) (by decide) (by decide) (by decide) (by decide)]; exact b3
  · rw [V10]; exact hA.2.2.2.2.2.2.1
  · rw [V10]; exact hA.2.2.2.2.2.2.2.1
  · rw [V1]; exact hA.2.2.2.2.2.2.2.2
  · rw [V45]; exact st0.2.2.1
  · rw [V45]; exact st0.2.2.2
  · simp only [List.mem_cons, List.not_mem_nil, or_false, not_or] at hk
    rw [A5 k hk.2.2.2.2.2.1 hk.2.2.2.2.2.2.1 hk.2.2.2.2.2.2.2.1 hk.2.2.2.2.2.2.2.2.1 hk.2.2.2.2.2.2.2.2.2]
    exact hA.2.2.2.1 k (by simp only [List.mem_cons, List.not_mem_nil, or_false, not_or]; exact ⟨hk.1, hk.2.1, hk.2.2.1, hk.2.2.2.1, hk.2.2.2.2.1⟩)
theorem cs_X11 (S : QS) (v : QV) (a : Int) (h1 : a + 1 = S.2.2) (h0 : 0 ≤ a) (h2 : S.1 a = 12) : wG mX11_init a (S, v, 888, 21416) (fun M => Gr S M.1 v M.2.1 a ∧ (M.1.2.2 : Int) = a + 889 ∧ LC0 M.1 M.2.1 a ∧ ∀ k, k ∉ [(0 : Int), 1, 2, 3, 4, 8, 9, 11, 12, 13] → M.2.1 a k = v a k) := by
  refine wG_M ?_
  have l0 : aL 0 [2] [a] 0 = a := rfl
  generalize aL 0 [2] [a] = L at *
  unfold sX11_init
  rw [wN_Seq]
  refine wN_Super (by rw [l0]; exact h0) ?_
  refine w_X11a h1 h0 h2 l0 (by decide) (by decide) (fun S5 v5 hA => ?_)
  have k5 : S5.1 a = 12 := by rw [(hA.1.2.1 a (by omega)).1]; exact h2
  refine w_X11b hA.2.1 h0 k5 l0 hA.2.2.1.2.2.2.2 hA.2.2.2.2.1 (by decide) (by decide) (fun L6 S6 v6 l6 hB => ?_)
  have k6 : S6.1 a = 12 := by rw [(hB.1.2.1 a (by have := hA.2.1; omega)).1]; exact k5
  refine w_X11c hB.2.1 h0 k6 l6 (by decide) (by decide) (fun L7 S7 v7 l7 hC => ?_)
  have k7 : S7.1 a = 12 := by rw [(hC.1.2.1 a (by have := hB.2.1; omega)).1]; exact k6
  refine w_X11d hC.2.1 h0 k7 l7 (by decide) (by decide) (fun L8 S8 v8 hD => ?_)
  exact X11_fin h1 h0 h2 hA hB hC hD
end MK7
