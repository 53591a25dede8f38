/-! STORE: what holds at the start; the class's store -/
section ST4
variable {S : QS} {u v w : QV} {b M P B s T x : Int} {o : Int × Int}
theorem CC.cg2 {F nm : Int} {ns : Nat} {c e c' e' : Int → Int} (h : CC v F c e nm ns) (h0 : w F 0 = v F 0) (h3 : ∀ k, w (F + 3) k = v (F + 3) k) (h1 : ∀ k, w (F + 1) k = v (F + 1) k ∧ w (F + 2) k = v (F + 2) k) (hc : ∀ k, 0 ≤ k → k < 60 → c' k = c k) (he : ∀ s : Nat, s < ns → e' s = e s) : CC w F c' e' nm ns := by
  obtain ⟨g1, g2, g3, g4, g5, g6⟩ := h
  have hss := ss_e he
  refine ⟨by rw [h0]; exact g1, g2, g3, fun s hs => ?_, fun s s0 s1 => ?_, fun k k0 ⟨s, hs, hk⟩ => ?_⟩
  · obtain ⟨q1, q2, q3⟩ := g4 s hs
    rw [hss s (by omega), he s hs]
    have hcc : ∀ j : Nat, ss e s + j < e s → c' (ss e s + j) = c (ss e s + j) := fun j hj => hc _ (by omega) (by omega)
    refine ⟨q1, fun j hj => wc_c (fun k hk => hcc k (by omega)) (q2 j hj), ?_⟩
    rw [dp_c _ (fun k hk => hcc k (by omega))]
    exact q3
  · have := g5 s s0 s1
    have e1 := he s.toNat (by omega)
    rw [show ((s.toNat : Nat) : Int) = s by omega] at e1
    rw [h3, e1, this]
  · rw [he s hs] at hk
    have := (g4 s hs).1
    rw [(h1 k).1, (h1 k).2, hc k k0 (by omega)]
    exact g6 k k0 ⟨s, hs, hk⟩
/-- what a text told stays where its bank and its plan stay -/
theorem PR.cgB (h : PR v P M B) (hB : B = 0 ∨ B = 1) (hP : ∀ a k, P ≤ a → a ≤ P + 16 → w a k = v a k) (h2 : ∀ j, 2 ≤ j → j ≤ 7 → w (M + j) B = v (M + j) B) (h8 : ∀ j k, (8 ≤ j ∧ j ≤ 23) ∨ j = 25 → 4 * B ≤ k → k < 4 * B + 4 → w (M + j) k = v (M + j) k) (h24 : ∀ k, 100 * B ≤ k → k < 100 * B + 100 → w (M + 24) k = v (M + 24) k) : PR w P M B := by
  obtain ⟨r1, r2, r3, r4, r5, r6, r7⟩ := h
  have p0 := hP P
  have p3 := hP (P + 3)
  refine ⟨?_, ?_, ?_, ?_, ?_, ?_, ?_⟩
  · rw [p0 _ (by omega) (by omega), h2 2 (by omega) (by omega)]; exact r1
  · rw [p0 _ (by omega) (by omega), h2 3 (by omega) (by omega)]; exact r2
  · rw [p0 _ (by omega) (by omega), h2 4 (by omega) (by omega)]; exact r3
  · rw [p3 _ (by omega) (by omega), p3 _ (by omega) (by omega), h2 5 (by omega) (by omega), h2 6 (by omega) (by omega)]; exact r4
  · intro k k0 k1
    rw [p0 _ (by omega) (by omega)] at k1
    refine (r5 k k0 k1).cg (fun j => hP _ _ (by omega) (by omega)) (fun a a0 => ?_)
    have := h8 (a - M) (4 * B + k) (by omega) (by omega) (by omega)
    rw [show M + (a - M) = a by omega] at this
    exact this
  · intro k k0 k1
    rw [p0 _ (by omega) (by omega)] at k1
    refine (r6 k k0 k1).cg (fun j => hP _ _ (by omega) (by omega)) (fun a a0 => ?_)
    have := h8 (a - M) (4 * B + k) (by omega) (by omega) (by omega)
    rw [show M + (a - M) = a by omega] at this
    exact this
  · rw [p0 _ (by omega) (by omega), p3 _ (by omega) (by omega)]
    refine r7.cg2 (p3 _ (by omega) (by omega)) (fun k => hP _ _ (by omega) (by omega)) (fun k => ⟨hP _ _ (by omega) (by omega), hP _ _ (by omega) (by omega)⟩) (fun k k0 k1 => h24 _ (by omega) (by omega)) (fun s hs => ?_)
    have hns := r7.2.1
    exact h8 25 _ (by omega) (by omega) (by omega)
/-- at the start -/
theorem SR.start (hP : PR v P M B) (h0 : v s 0 = 0 ∧ v s 1 = 0) (hm : ∀ m, 0 ≤ m → m < 4 → BeM v v s P m) (hr : ∀ a, 0 ≤ a → a < 4 → BeR v s a) (ha : ∀ m, 0 ≤ m → m < v (M + 3) B → AnM v M B (v (M + 1)) m) (hz : AnZ (v (M + 1))) : SR v P s (v (M + 1)) := by
  obtain ⟨r1, r2, r3, r4, r5, r6, r7⟩ := hP
  generalize v (M + 1) = f at *
  have z := fun k h1 h2 h3 => hz k h1 h2 h3
  have f0 : f 0 = 0 := z 0 (by decide) (by decide) (by decide)
  have f1 : f 1 = 0 := z 1 (by decide) (by decide) (by decide)
  have f2 : f 2 = 0 := z 2 (by decide) (by decide) (by decide)
  refine ⟨⟨by rw [h0.1, f0], by omega⟩, by rw [f0, f1, Int.zero_ediv], ⟨by rw [h0.2, f2], by omega⟩, fun m m0 m1 => ?_, fun a a0 a1 => ?_, fun m m0 m1 h6 => ?_⟩
  · obtain ⟨⟨q1, q2⟩, q3, ⟨q4, q5, q6⟩, ⟨q7, q8, q9, q10, q11⟩, -⟩ := r5 m m0 m1
    obtain ⟨g1, -, -⟩ := hm m m0 (by omega)
    obtain ⟨⟨y0, y1, y2⟩, y3, y4, y5, y8, y9⟩ := ha m m0 (by omega)
    have f6 : f (3 + 12 * m + 6) = 0 := z _ (by omega) (by omega) (by omega)
    have f7 : f (3 + 12 * m + 7) = 0 := z _ (by omega) (by omega) (by omega)
    have t0 : v (s + (4 + 6 * m)) 0 = v (P + (9 + m)) 3 := g1 0 (by decide) (by decide)
    have t1 : v (s + (4 + 6 * m)) 1 = v (P + (9 + m)) 4 := g1 1 (by decide) (by decide)
    have t2 : v (s + (4 + 6 * m)) 2 = v (P + (9 + m)) 5 := g1 2 (by decide) (by decide)
    have t3 : v (s + (4 + 6 * m)) 3 = -1 := g1 3 (by decide) (by decide)
    have t4 : v (s + (4 + 6 * m)) 4 = -2147483648 := g1 4 (by decide) (by decide)
    have t5 : v (s + (4 + 6 * m)) 5 = -2147483648 := g1 5 (by decide) (by decide)
    have t6 : v (s + (4 + 6 * m)) 6 = 0 := g1 6 (by decide) (by decide)
    have t7 : v (s + (4 + 6 * m)) 7 = 0 := g1 7 (by decide) (by decide)
    have t8 : v (s + (4 + 6 * m)) 8 = -2000000000 := g1 8 (by decide) (by decide)
    have t9 : v (s + (4 + 6 * m)) 9 = 2000000000 := g1 9 (by decide) (by decide)
    have hp2 : ∀ n : Nat, (-1 : Int) < 2 ^ n := fun n => by
      have : (0 : Int) < 2 ^ n := Int.pow_pos (by decide)
      omega
    refine ⟨⟨by rw [t0, y0]; exact q4, by rw [t0]; exact ⟨q5, q6⟩⟩, ⟨by rw [t1, y1]; exact q7, by rw [t2, y2]; exact q8, by rw [t1, t2]; exact ⟨q9, q10, q11⟩⟩, ⟨by rw [t3, y3], by rw [t3]; decide, by rw [t3]; decide, fun _ => by rw [t3]; exact hp2 _⟩, ⟨by rw [t4, y4], Or.inl t4⟩, ⟨by rw [t5, y5], Or.inl t5⟩, ⟨by rw [t6, f7], by rw [t6]; decide, by rw [t6, f0, Int.zero_emod]; decide⟩, ⟨by rw [t7, f6], by rw [t7]; decide, by rw [t6, t7]; decide⟩, Or.inl ⟨t8, t9, y8, y9⟩⟩
  · obtain ⟨-, ⟨-, p1, -⟩, ⟨-, p2, -⟩, -⟩ := r6 a a0 a1
    have fa : f (51 + a) = 0 := z _ (by omega) (by omega) (by omega)
    refine ⟨⟨?_, by omega⟩, fun m m0 m1 => ⟨?_, fun i i0 i1 => by omega⟩⟩
    · rw [fa, f0, Int.zero_ediv, if_neg (by omega)]
    · obtain ⟨t0, t1, t2⟩ := hr a a0 (by omega) m m0 (by omega)
      have g0 : f (55 + 7 * (4 * a + m) + 0) = 0 := z _ (by omega) (by omega) (by omega)
      have g1 : f (55 + 7 * (4 * a + m) + 1) = 0 := z _ (by omega) (by omega) (by omega)
      have g5 : f (55 + 7 * (4 * a + m) + 5) = 0 := z _ (by omega) (by omega) (by omega)
      have g6 : f (55 + 7 * (4 * a + m) + 6) = 0 := z _ (by omega) (by omega) (by omega)
      refine ⟨⟨by rw [t2, g5], by omega, by omega, by rw [t2, g6, f1, Int.zero_emod]; rfl⟩, ⟨by rw [t1, g1], by omega, by omega⟩, ⟨by rw [t0, g0], by omega, by omega⟩, fun y => absurd t2 y⟩
  · obtain ⟨-, ⟨t0, t1, t2, t7⟩, h3⟩ := hm m m0 (by omega)
    have zf : ∀ j, 0 ≤ j → j < 112 → f (647 + 112 * m + j) = 0 := fun j j0 j1 => z _ (by omega) (by omega) (by omega)
    have ck : cKo v (s + (5 + 6 * m)) = 0 := by unfold cKo; rw [t7]; rfl
    refine ⟨⟨by rw [t0, zf 2 (by omega) (by omega)], Or.inl ⟨t0, zf 0 (by omega) (by omega)⟩⟩, ⟨by rw [t1, zf 0 (by omega) (by omega)], by omega, by omega⟩, ⟨by rw [t2, zf 1 (by omega) (by omega)], by omega, by omega⟩, ⟨by omega, by omega, by rw [ck, zf 3 (by omega) (by omega)]⟩, fun j j0 j1 => ?_, fun i i0 i1 => by omega⟩
    obtain ⟨e1, e2⟩ := h3 j j0 j1
    refine ⟨⟨by rw [e1, zf _ (by omega) (by omega)], by omega, by omega⟩, ⟨by rw [e2, zf _ (by omega) (by omega)], by omega, by omega⟩⟩
end ST4
