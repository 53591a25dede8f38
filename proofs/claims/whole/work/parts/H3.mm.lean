/-! MAKING: rings, states, plans -/
section MK3
variable {S S' S2 : QS} {v v' v2 : QV} {L : QL} {N : QN} {Q Q' : QL → QN → Prop} {c u : Nat} {a b lo hi : Int}
theorem LRi.st (h : LRi S v a) (e : Eqw S S' v v' a (a + 6)) : LRi S' v' a := by
  obtain ⟨h1, h2, h3, h4, h5, h6, h7, h8, h9⟩ := h
  obtain ⟨e0, -, e1⟩ := e a (by omega) (by omega)
  obtain ⟨e2, e3, -⟩ := e (a + 1) (by omega) (by omega)
  obtain ⟨e4, e5, e6⟩ := e (a + 2) (by omega) (by omega)
  exact ⟨by rw [e0]; exact h1, by rw [e1]; exact h2, by rw [e1]; exact h3, by rw [e2]; exact h4, by rw [e3]; exact h5, by rw [e4]; exact h6, by rw [e5]; exact h7, fun m m0 m1 => by rw [e6]; exact h8 m m0 m1, fun m m0 m1 => by rw [(e (a + (3 + m)) (by omega) (by omega)).1]; exact h9 m m0 m1⟩
theorem LSt.st (h : LSt S v a) (e : Eqw S S' v v' a (a + 55)) : LSt S' v' a := by
  obtain ⟨h1, h2, h3, h4, h5, h6, h7, h8, h9, h10, h11, h12, h13, h14, h15, h16⟩ := h
  obtain ⟨e0, -, e1⟩ := e a (by omega) (by omega)
  obtain ⟨e2, e3, e4⟩ := e (a + 1) (by omega) (by omega)
  obtain ⟨e5, e6, e7⟩ := e (a + 2) (by omega) (by omega)
  obtain ⟨e8, e9, e10⟩ := e (a + 3) (by omega) (by omega)
  exact ⟨by rw [e0]; exact h1, by rw [e1]; exact h2, by rw [e1]; exact h3, by rw [e1]; exact h4, by rw [e2]; exact h5, by rw [e3]; exact h6, by rw [e5]; exact h7, by rw [e6]; exact h8, by rw [e8]; exact h9, by rw [e9]; exact h10, fun m m0 m1 => by rw [e4]; exact h11 m m0 m1, fun m m0 m1 => by rw [e7]; exact h12 m m0 m1, fun m m0 m1 => by rw [e10]; exact h13 m m0 m1, fun m m0 m1 => by rw [(e _ (by omega) (by omega)).1]; exact h14 m m0 m1, fun m m0 m1 => (h15 m m0 m1).st (e.sub (by omega) (by omega)), fun m m0 m1 => (h16 m m0 m1).st (e.sub (by omega) (by omega))⟩
theorem LPl.st (h : LPl S v a) (e : Eqw S S' v v' a (a + 16)) : LPl S' v' a := by
  obtain ⟨h1, h2, h3, h4, h5, h6, h7, h8, h9, h10, h11, h12, h13⟩ := h
  obtain ⟨e0, -, e1⟩ := e a (by omega) (by omega)
  obtain ⟨e2, e3, e4⟩ := e (a + 1) (by omega) (by omega)
  obtain ⟨e5, e6, e7⟩ := e (a + 2) (by omega) (by omega)
  exact ⟨by rw [e0]; exact h1, by rw [e1]; exact h2, by rw [e1]; exact h3, by rw [e1]; exact h4, by rw [e2]; exact h5, by rw [e3]; exact h6, by rw [e5]; exact h7, by rw [e6]; exact h8, fun m m0 m1 => by rw [e4]; exact h9 m m0 m1, fun m m0 m1 => by rw [e7]; exact h10 m m0 m1, fun m m0 m1 => by rw [(e _ (by omega) (by omega)).1]; exact h11 m m0 m1, fun m m0 m1 => by rw [(e _ (by omega) (by omega)).1]; exact h12 m m0 m1, h13.st (e.sub (by omega) (by omega))⟩
theorem w_set {k : Nat} {z : Int} (h : Q (lu L k z) (S, v, c, u)) : wN (nLift (sSet k (eI z))) L (S, v, c, u) Q := by
  refine wN_Lift ?_
  simp only [wE_I, wE_V, wE_F, wE_A, wE_N, wE_1, wE_2, wE_D, wE_B, wE_If, wE_C, wE_CV, wE_SL, wE_SA, wA_0, wA_1, wC_B, wC_E, wC_And, wC_Or, wC_Not, wS_Skip, wS_Brk, wS_Cnt, wS_RetV, wS_Ret, wS_Seq, wS_Set, wS_Inc, wS_Do, wS_Put, wS_PutC, wS_Arr, wS_ArrC, wS_If, wS_Sw, wS_F0, wS_F1, wM_q, lu_ap, aL_ap, ct_0, ct_1, ct_2, ct_3, ct_4, ct_5, headD_1, List.mem_cons, List.not_mem_nil, or_false, false_or, or_true, true_or, true_and, and_true, false_and, and_false, not_true_eq_false, not_false_eq_true, if_true, if_false, nr_20, nr_24, nr_40, nr_41, nr_44, pt_lt, pt_ge, pt_eq, pt_ne, pt_gt, pt_le, pt_E, pt_N, pt_F, ite_10, ite_11, ne_eq, and_self, or_self, decide_true, decide_false, Bool.not_true, Bool.not_false, Bool.false_eq_true, Nat.reduceEqDiff, Nat.reduceAdd, Int.reduceEq, Int.reduceLT, Int.reduceLE, Int.reduceNeg, Int.reduceAdd, Int.reduceSub, Int.reduceMul, reduceCtorEq, iA, iS, iM, iD, iR, iN, lA, lS, lM, lD, lR]
  exact h
theorem w_inc {k : Nat} {z y : Int} (hz : w32 (L k + z) = y) (h : Q (lu L k y) (S, v, c, u)) : wN (nLift (sInc k z)) L (S, v, c, u) Q := by
  refine wN_Lift ?_
  simp only [wE_I, wE_V, wE_F, wE_A, wE_N, wE_1, wE_2, wE_D, wE_B, wE_If, wE_C, wE_CV, wE_SL, wE_SA, wA_0, wA_1, wC_B, wC_E, wC_And, wC_Or, wC_Not, wS_Skip, wS_Brk, wS_Cnt, wS_RetV, wS_Ret, wS_Seq, wS_Set, wS_Inc, wS_Do, wS_Put, wS_PutC, wS_Arr, wS_ArrC, wS_If, wS_Sw, wS_F0, wS_F1, wM_q, lu_ap, aL_ap, ct_0, ct_1, ct_2, ct_3, ct_4, ct_5, headD_1, List.mem_cons, List.not_mem_nil, or_false, false_or, or_true, true_or, true_and, and_true, false_and, and_false, not_true_eq_false, not_false_eq_true, if_true, if_false, nr_20, nr_24, nr_40, nr_41, nr_44, pt_lt, pt_ge, pt_eq, pt_ne, pt_gt, pt_le, pt_E, pt_N, pt_F, ite_10, ite_11, ne_eq, and_self, or_self, decide_true, decide_false, Bool.not_true, Bool.not_false, Bool.false_eq_true, Nat.reduceEqDiff, Nat.reduceAdd, Int.reduceEq, Int.reduceLT, Int.reduceLE, Int.reduceNeg, Int.reduceAdd, Int.reduceSub, Int.reduceMul, reduceCtorEq, iA, iS, iM, iD, iR, iN, lA, lS, lM, lD, lR, hz]
  exact h
theorem cs_X7 : Cs mX7_init 7 6 6 148 [0, 1] LRi := by
  refine ⟨fun S v a h1 h0 h2 => ?_, fun S v S' v' a h e => h.st e, fun S v a h => h.k⟩
  refine wG_M ?_
  have l0 : aL 0 [2] [a] 0 = a := rfl
  generalize aL 0 [2] [a] = L at *
  rw [show sX7_init = nSeq nSuper (nFs 7 [(0, 20, 120), (1, 39, 4)] (nSeq (nLift (sSet 1 (eI 0))) (nWh (cB qlt (eV 1) (eI 4)) nbX7_init_1 100))) from rfl, wN_Seq]
  refine wN_Super (by rw [l0]; exact h0) ?_
  refine n_Fs _ S v _ _ (by decide) (by rw [l0]; exact h2) (by rw [l0]; omega) (by decide) (by decide) (fun S1 v1 hf => ?_)
  rw [l0] at hf
  have hg := hf.gr
  obtain ⟨a0, b0, -, c0⟩ := hf.2.2.2 0 _ rfl
  obtain ⟨a1, b1, -, c1⟩ := hf.2.2.2 1 _ rfl
  rw [show ((S.2.2 : Nat) : Int) + ((0 : Nat) : Int) = a + 1 by omega] at a0 b0 c0
  rw [show ((S.2.2 : Nat) : Int) + ((1 : Nat) : Int) = a + 2 by omega] at a1 b1 c1
  have s1 : ((S1.2.2 : Nat) : Int) = a + 3 := by have := hf.1; simp only [List.length_cons, List.length_nil] at this; omega
  have k1 : S1.1 a = 8 := by rw [(hf.2.1 a (by omega)).1]; exact h2
  have o1 : ∀ k, k ∉ [(0 : Int), 1] → v1 a k = v a k := fun k hk => hf.2.2.1 a k (by omega) (fun _ p hp e => hk (List.mem_map.mpr ⟨p, hp, e⟩))
  clear hf
  rw [wN_Seq]
  refine w_set ?_
  have n0 : lu L 1 0 0 = a := by simp [lu_ap, l0]
  have n1 : lu L 1 0 1 = 0 := by simp [lu_ap]
  generalize lu L 1 0 = L1 at *
  refine wN_For (K := 4) (fun j L N => (L 0 = a ∧ L 1 = j) ∧ (Gr S1 N.1 v1 N.2.1 (a + 2) ∧ ((N.1.2.2 : Nat) : Int) = a + 3 + j) ∧ (∀ m, 0 ≤ m → m < (j : Int) → N.2.1 (a + 2) m = a + (3 + m) ∧ N.1.1 (a + (3 + m)) = 10) ∧ (N.2.2.1 + j = 4 ∧ N.2.2.2 + 6 * j = 24)) (by decide) ?_ ?_ ?_
  · exact ⟨⟨n0, n1⟩, ⟨Gr.rf, by show ((S1.2.2 : Nat) : Int) = a + 3 + ((0 : Nat) : Int); omega⟩, fun m m0 m1 => by omega, rfl, rfl⟩
  · rintro j L S v c u hj ⟨⟨m0, m1⟩, ⟨q1, q2⟩, q3, q4, q5⟩
    dsimp only at q1 q2 q3 q4 q5
    refine ⟨m1, ?_⟩
    have qk := q1.2.1
    rw [nbX7_init_1, wN_Seq]
    refine n_AO cs_X9 (arr := a + 2) (len := 4) (by rw [m0, (qk a (by omega)).1]; exact k1) (by rw [m0, q1.2.2 a 1 (by omega) (by omega)]; exact c1) m1 (by omega) (by rw [(qk _ (by omega)).1]; exact a1) (by rw [(qk _ (by omega)).2]; exact b1) (by omega) (by omega) (by omega) (fun S' v' hO => ?_)
    obtain ⟨r1, r2, r3, r4, r5, r6⟩ := id hO
    refine w_inc (y := ((j + 1 : Nat) : Int)) (by rw [m1, w32_e (by omega)]; omega) ⟨⟨by simp [lu_ap, m0], by simp [lu_ap]⟩, ⟨q1.tr hO.gr, by show ((S'.2.2 : Nat) : Int) = _; omega⟩, fun m m0 m1 => ?_, by show c - 1 - 0 + (j + 1) = 4; omega, by show u - 6 - 0 + 6 * (j + 1) = 24; omega⟩
    show v' (a + 2) m = _ ∧ S'.1 _ = 10
    by_cases e : m = (j : Int)
    · subst e
      rw [r4, show a + (3 + (j : Int)) = ((S.2.2 : Nat) : Int) by omega]
      exact ⟨rfl, r5⟩
    · have := q3 m m0 (by omega)
      rw [r3 _ _ (by omega) (fun _ => e), (r2 _ (by omega)).1]
      exact this
  · rintro L S v c u ⟨⟨m0, m1⟩, ⟨q1, q2⟩, q3, q4, q5⟩
    dsimp only at q1 q2 q3
    have qk := q1.2.1
    refine ⟨m1, ?_, ?_, ?_, fun k hk => ?_⟩
    · exact ⟨Nat.le_trans hg.1 q1.1, fun q hq => by have x := qk q (by omega); have y := hg.2.1 q hq; exact ⟨x.1.trans y.1, x.2.trans y.2⟩, fun q k hq hn => by show v q k = _; rw [q1.2.2 q k (by omega) (by omega)]; exact hg.2.2 q k hq hn⟩
    · show ((S.2.2 : Nat) : Int) = a + 1 + ((6 : Nat) : Int); omega
    · refine ⟨by rw [(qk a (by omega)).1]; exact k1, ?_, ?_, by rw [(qk _ (by omega)).1]; exact a0, by rw [(qk _ (by omega)).2]; exact b0, by rw [(qk _ (by omega)).1]; exact a1, by rw [(qk _ (by omega)).2]; exact b1, fun m m0 m1 => (q3 m m0 (by omega)).1, fun m m0 m1 => (q3 m m0 (by omega)).2⟩
      · show v a 0 = a + 1; rw [q1.2.2 a 0 (by omega) (by omega)]; exact c0
      · show v a 1 = a + 2; rw [q1.2.2 a 1 (by omega) (by omega)]; exact c1
    · show v a k = _
      rw [q1.2.2 a k (by omega) (by omega)]; exact o1 k hk
theorem cs_X8 : Cs mX8_init 8 55 55 1116 [2, 3, 4] LSt := by
  refine ⟨fun S v a h1 h0 h2 => ?_, fun S v S' v' a h e => h.st e, fun S v a h => h.k⟩
  refine wG_M ?_
  have l0 : aL 0 [2] [a] 0 = a := rfl
  generalize aL 0 [2] [a] = L at *
  rw [show sX8_init = nSeq nSuper (nFs 8 [(2, 33, 4), (3, 34, 4), (4, 37, 4)] (nSeq (nLift (sSet 1 (eI 0))) (nSeq (nWh (cB qlt (eV 1) (eI 4)) nbX8_init_1 100) (nSeq (nLift (sSet 1 (eI 0))) (nWh (cB qlt (eV 1) (eI 4)) nbX8_init_2 100))))) from rfl, wN_Seq]
  refine wN_Super (by rw [l0]; exact h0) ?_
  refine n_Fs _ S v _ _ (by decide) (by rw [l0]; exact h2) (by rw [l0]; omega) (by decide) (by decide) (fun S1 v1 hf => ?_)
  rw [l0] at hf
  have hg := hf.gr
  obtain ⟨a0, b0, -, c0⟩ := hf.2.2.2 0 _ rfl
  obtain ⟨a1, b1, -, c1⟩ := hf.2.2.2 1 _ rfl
  obtain ⟨a2, b2, -, c2⟩ := hf.2.2.2 2 _ rfl
  rw [show ((S.2.2 : Nat) : Int) + ((0 : Nat) : Int) = a + 1 by omega] at a0 b0 c0
  rw [show ((S.2.2 : Nat) : Int) + ((1 : Nat) : Int) = a + 2 by omega] at a1 b1 c1
  rw [show ((S.2.2 : Nat) : Int) + ((2 : Nat) : Int) = a + 3 by omega] at a2 b2 c2
  have s1 : ((S1.2.2 : Nat) : Int) = a + 4 := by have := hf.1; simp only [List.length_cons, List.length_nil] at this; omega
  have k1 : S1.1 a = 9 := by rw [(hf.2.1 a (by omega)).1]; exact h2
  have o1 : ∀ k, k ∉ [(2 : Int), 3, 4] → v1 a k = v a k := fun k hk => hf.2.2.1 a k (by omega) (fun _ p hp e => hk (List.mem_map.mpr ⟨p, hp, e⟩))
  clear hf
  rw [wN_Seq]
  refine w_set ?_
  have n0 : lu L 1 0 0 = a := by simp [lu_ap, l0]
  have n1 : lu L 1 0 1 = 0 := by simp [lu_ap]
  generalize lu L 1 0 = L1 at *
  rw [wN_Seq]
  refine wN_For (K := 4) (fun j L N => (L 0 = a ∧ L 1 = j) ∧ ((a + 4 ≤ ((N.1.2.2 : Nat) : Int) ∧ ∀ q : Int, q < a + 4 → N.1.1 q = S1.1 q ∧ N.1.2.1 q = S1.2.1 q) ∧ (∀ (q k : Int), q < a + 4 → q ≠ a + 1 → q ≠ a + 2 → N.2.1 q k = v1 q k) ∧ ((N.1.2.2 : Nat) : Int) = a + 4 + 6 * j) ∧ (∀ m, 0 ≤ m → m < (j : Int) → (N.2.1 (a + 1) m = a + (4 + 6 * m) ∧ N.2.1 (a + 2) m = a + (5 + 6 * m)) ∧ N.1.1 (a + (4 + 6 * m)) = 4 ∧ LOu N.1 N.2.1 (a + (5 + 6 * m))) ∧ (N.2.2.1 + 6 * j = 52 ∧ N.2.2.2 + 126 * j = 1104)) (by decide) ?_ ?_ ?_
  · exact ⟨⟨n0, n1⟩, ⟨⟨by show a + 4 ≤ ((S1.2.2 : Nat) : Int); omega, fun _ _ => ⟨rfl, rfl⟩⟩, fun _ _ _ _ _ => rfl, by show ((S1.2.2 : Nat) : Int) = a + 4 + 6 * ((0 : Nat) : Int); omega⟩, fun m m0 m1 => by omega, rfl, rfl⟩
  · rintro j L S v c u hj ⟨⟨m0, m1⟩, ⟨⟨q0, q1⟩, q2, q3⟩, q4, q5, q6⟩
    dsimp only at q0 q1 q2 q3 q4 q5 q6
    refine ⟨m1, ?_⟩
    rw [nbX8_init_1, wN_Seq]
    refine n_AO cs_X3 (arr := a + 1) (len := 4) (by rw [m0, (q1 a (by omega)).1]; exact k1) (by rw [m0, q2 a 2 (by omega) (by omega) (by omega)]; exact c0) m1 (by omega) (by rw [(q1 _ (by omega)).1]; exact a0) (by rw [(q1 _ (by omega)).2]; exact b0) (by omega) (by omega) (by omega) (fun S2 v2 hO => ?_)
    obtain ⟨r1, r2, r3, r4, r5, r6⟩ := id hO
    rw [wN_Seq]
    refine n_AO cs_X4 (arr := a + 2) (len := 4) (by rw [m0, (r2 a (by omega)).1, (q1 a (by omega)).1]; exact k1) (by rw [m0, r3 a 3 (by omega) (by omega), q2 a 3 (by omega) (by omega) (by omega)]; exact c1) m1 (by omega) (by rw [(r2 _ (by omega)).1, (q1 _ (by omega)).1]; exact a1) (by rw [(r2 _ (by omega)).2, (q1 _ (by omega)).2]; exact b1) (by omega) (by omega) (by omega) (fun S3 v3 hO2 => ?_)
    obtain ⟨t1, t2, t3, t4, t5, t6⟩ := id hO2
    have es : ((S2.2.2 : Nat) : Int) = ((S.2.2 : Nat) : Int) + 1 := by omega
    refine w_inc (y := ((j + 1 : Nat) : Int)) (by rw [m1, w32_e (by omega)]; omega) ⟨⟨by simp [lu_ap, m0], by simp [lu_ap]⟩, ⟨⟨by show a + 4 ≤ ((S3.2.2 : Nat) : Int); omega, fun q hq => ?_⟩, fun q k hq h1 h2 => ?_, by show ((S3.2.2 : Nat) : Int) = _; omega⟩, fun m m0 m1 => ?_, by show c - 1 - 0 - 1 - 4 + 6 * (j + 1) = 52; omega, by show u - 10 - 0 - 8 - 108 + 126 * (j + 1) = 1104; omega⟩
    · have x := t2 q (by omega); have y := r2 q (by omega); have z := q1 q hq
      exact ⟨(x.1.trans y.1).trans z.1, (x.2.trans y.2).trans z.2⟩
    · show v3 q k = _
      rw [t3 q k (by omega) (fun e => absurd e h2), r3 q k (by omega) (fun e => absurd e h1)]
      exact q2 q k hq h1 h2
    · show (v3 (a + 1) m = _ ∧ v3 (a + 2) m = _) ∧ S3.1 _ = 4 ∧ LOu S3 v3 _
      by_cases e : m = (j : Int)
      · subst e
        refine ⟨⟨?_, ?_⟩, ?_, ?_⟩
        · rw [t3 _ _ (by omega) (by omega), r4]; omega
        · rw [t4]; omega
        · rw [(t2 _ (by omega)).1, show a + (4 + 6 * (j : Int)) = ((S.2.2 : Nat) : Int) by omega]; exact r5
        · rw [show a + (5 + 6 * (j : Int)) = ((S2.2.2 : Nat) : Int) by omega]; exact t5
      · obtain ⟨⟨x1, x2⟩, x3, x4⟩ := q4 m m0 (by omega)
        refine ⟨⟨?_, ?_⟩, ?_, ?_⟩
        · rw [t3 _ _ (by omega) (by omega), r3 _ _ (by omega) (fun _ => e)]; exact x1
        · rw [t3 _ _ (by omega) (fun _ => e), r3 _ _ (by omega) (by omega)]; exact x2
        · rw [(t2 _ (by omega)).1, (r2 _ (by omega)).1]; exact x3
        · exact (x4.st (hO.gr.eqw (by omega) (by omega))).st (hO2.gr.eqw (by omega) (by omega))
  rintro L S3 v3 c u ⟨⟨m0, m1⟩, ⟨⟨q0, q1⟩, q2, q3⟩, q4, q5, q6⟩
  dsimp only at q0 q1 q2 q3 q4 q5 q6
  refine ⟨m1, ?_⟩
  rw [wN_Seq]
  refine w_set ?_
  have n0 : lu L 1 0 0 = a := by simp [lu_ap, m0]
  have n1 : lu L 1 0 1 = 0 := by simp [lu_ap]
  generalize lu L 1 0 = L2 at *
  refine wN_For (K := 4) (fun j L N => (L 0 = a ∧ L 1 = j) ∧ (Gr S3 N.1 v3 N.2.1 (a + 3) ∧ ((N.1.2.2 : Nat) : Int) = a + 28 + 7 * j) ∧ (∀ m, 0 ≤ m → m < (j : Int) → N.2.1 (a + 3) m = a + (28 + 7 * m) ∧ LRi N.1 N.2.1 (a + (28 + 7 * m))) ∧ (N.2.2.1 + 7 * j = 28 ∧ N.2.2.2 + 150 * j = 600)) (by decide) ?_ ?_ ?_
  · exact ⟨⟨n0, n1⟩, ⟨Gr.rf, by show ((S3.2.2 : Nat) : Int) = a + 28 + 7 * ((0 : Nat) : Int); omega⟩, fun m m0 m1 => by omega, by show c + 7 * 0 = 28; omega, by show u + 150 * 0 = 600; omega⟩
  · rintro j L S v c u hj ⟨⟨m0, m1⟩, ⟨p1, p2⟩, p3, p4, p5⟩
    dsimp only at p1 p2 p3 p4 p5
    refine ⟨m1, ?_⟩
    have pk := p1.2.1
    rw [nbX8_init_2, wN_Seq]
    refine n_AO cs_X7 (arr := a + 3) (len := 4) (by rw [m0, (pk a (by omega)).1, (q1 a (by omega)).1]; exact k1) (by rw [m0, p1.2.2 a 4 (by omega) (by omega), q2 a 4 (by omega) (by omega) (by omega)]; exact c2) m1 (by omega) (by rw [(pk _ (by omega)).1, (q1 _ (by omega)).1]; exact a2) (by rw [(pk _ (by omega)).2, (q1 _ (by omega)).2]; exact b2) (by omega) (by omega) (by omega) (fun S' v' hO => ?_)
    obtain ⟨r1, r2, r3, r4, r5, r6⟩ := id hO
    refine w_inc (y := ((j + 1 : Nat) : Int)) (by rw [m1, w32_e (by omega)]; omega) ⟨⟨by simp [lu_ap, m0], by simp [lu_ap]⟩, ⟨p1.tr hO.gr, by show ((S'.2.2 : Nat) : Int) = _; omega⟩, fun m m0 m1 => ?_, by show c - 1 - 6 + 7 * (j + 1) = 28; omega, by show u - 2 - 148 + 150 * (j + 1) = 600; omega⟩
    show v' (a + 3) m = _ ∧ LRi S' v' _
    by_cases e : m = (j : Int)
    · subst e
      rw [r4, show a + (28 + 7 * (j : Int)) = ((S.2.2 : Nat) : Int) by omega]
      exact ⟨rfl, r5⟩
    · have := p3 m m0 (by omega)
      rw [r3 _ _ (by omega) (fun _ => e)]
      exact ⟨this.1, this.2.st (hO.gr.eqw (by omega) (by omega))⟩
  · rintro L S v c u ⟨⟨m0, m1⟩, ⟨p1, p2⟩, p3, p4, p5⟩
    dsimp only at p1 p2 p3
    have pk := p1.2.1
    have kk : ∀ q : Int, q < a + 4 → S.1 q = S1.1 q ∧ S.2.1 q = S1.2.1 q := fun q hq => by
      have x := pk q (by omega); have y := q1 q hq
      exact ⟨x.1.trans y.1, x.2.trans y.2⟩
    have va : ∀ k, v a k = v1 a k := fun k => by rw [p1.2.2 a k (by omega) (by omega)]; exact q2 a k (by omega) (by omega) (by omega)
    refine ⟨m1, ⟨by show _ ≤ S.2.2; omega, fun q hq => ?_, fun q k hq hn => ?_⟩, ?_, ?_, fun k hk => ?_⟩
    · have x := kk q (by omega); have y := hg.2.1 q hq
      exact ⟨x.1.trans y.1, x.2.trans y.2⟩
    · show v q k = _
      rw [p1.2.2 q k (by omega) (by omega), q2 q k (by omega) (by omega) (by omega)]; exact hg.2.2 q k hq hn
    · show ((S.2.2 : Nat) : Int) = a + 1 + ((55 : Nat) : Int); omega
    · refine ⟨by rw [(kk a (by omega)).1]; exact k1, by show v a 2 = _; rw [va]; exact c0, by show v a 3 = _; rw [va]; exact c1, by show v a 4 = _; rw [va]; exact c2, by rw [(kk _ (by omega)).1]; exact a0, by rw [(kk _ (by omega)).2]; exact b0, by rw [(kk _ (by omega)).1]; exact a1, by rw [(kk _ (by omega)).2]; exact b1, by rw [(kk _ (by omega)).1]; exact a2, by rw [(kk _ (by omega)).2]; exact b2, fun m z0 z1 => ?_, fun m z0 z1 => ?_, fun m z0 z1 => (p3 m z0 (by omega)).1, fun m z0 z1 => ?_, fun m z0 z1 => ?_, fun m z0 z1 => (p3 m z0 (by omega)).2⟩
      · show v (a + 1) m = _; rw [p1.2.2 _ m (by omega) (by omega)]; exact (q4 m z0 (by omega)).1.1
      · show v (a + 2) m = _; rw [p1.2.2 _ m (by omega) (by omega)]; exact (q4 m z0 (by omega)).1.2
      · rw [(pk _ (by omega)).1]; exact (q4 m z0 (by omega)).2.1
      · exact (q4 m z0 (by omega)).2.2.st (p1.eqw (by omega) (by omega))
    · show v a k = _
      rw [va]; exact o1 k hk
end MK3
