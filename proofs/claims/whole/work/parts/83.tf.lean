/-! THE REFERENCE'S STATE AS ONE ROW OF NUMBERS: what its methods make of it -/
def fu (f : Int → Int) (i x : Int) : Int → Int := fun k => if k = i then x else f k
def vf (v : QV) (A : Int) (f : Int → Int) : QV := fun q k => if q = A then f k else v q k
theorem fu_is {f : Int → Int} {i x : Int} : fu f i x i = x := if_pos rfl
theorem fu_ne {f : Int → Int} {i x k : Int} (h : k ≠ i) : fu f i x k = f k := if_neg h
theorem fu_ap {f : Int → Int} {i x k : Int} : fu f i x k = if k = i then x else f k := rfl
theorem vf_is {v : QV} {A k : Int} {f : Int → Int} : vf v A f A k = f k := if_pos rfl
theorem vf_ne {v : QV} {A q k : Int} {f : Int → Int} (h : ¬ q = A) : vf v A f q k = v q k := if_neg h
theorem vf_vu {v : QV} {A i x : Int} {f : Int → Int} : vu (vf v A f) A i x = vf v A (fu f i x) := by
  funext q k
  rw [vu_ap]
  unfold vf fu
  by_cases e : q = A
  · by_cases e2 : k = i <;> simp [e, e2]
  · simp [e]
theorem vf_self {v : QV} {A : Int} : vf v A (v A) = v := by
  funext q k
  unfold vf
  split
  · rename_i e; rw [e]
  · rfl
/-- a value reached -/
def reachF (m x : Int) (f : Int → Int) : Int → Int :=
  let g := if f (3 + 12 * m + 8) = -2147483648 ∨ f (3 + 12 * m + 8) < x then fu f (3 + 12 * m + 8) x else f
  if g (3 + 12 * m + 9) = -2147483648 ∨ x < g (3 + 12 * m + 9) then fu g (3 + 12 * m + 9) x else g
/-- a value added to a row that is not over -/
def gatherF (a m x n : Int) (f : Int → Int) : Int → Int :=
  if x = -2147483648 then fu f (55 + 7 * (4 * a + m) + 6) (w64 (f (55 + 7 * (4 * a + m) + 6) + 1)) else
  let g1 := fu f (55 + 7 * (4 * a + m) + 0) (w64 (f (55 + 7 * (4 * a + m) + 0) + w64 (x * n)))
  let g2 := fu g1 (55 + 7 * (4 * a + m) + 1) (w64 (g1 (55 + 7 * (4 * a + m) + 1) + n))
  let g3 := if f (55 + 7 * (4 * a + m) + 5) = 0 ∨ g2 (55 + 7 * (4 * a + m) + 2) < x then fu g2 (55 + 7 * (4 * a + m) + 2) x else g2
  let g4 := if f (55 + 7 * (4 * a + m) + 5) = 0 ∨ x < g3 (55 + 7 * (4 * a + m) + 3) then fu g3 (55 + 7 * (4 * a + m) + 3) x else g3
  let g5 := fu g4 (55 + 7 * (4 * a + m) + 4) x
  fu g5 (55 + 7 * (4 * a + m) + 5) (w64 (g5 (55 + 7 * (4 * a + m) + 5) + 1))
theorem ws_step {s t : QT} {L L' : QL} {S : QS} {v w : QV} {Q : Nat → Int → QL → QV → Prop} (h : wS s L S v (fun k _ M u => k = 0 ∧ M = L' ∧ u = w)) (ht : wS t L' S w Q) : wS (sSeq s t) L S v Q := by
  rw [wS_Seq]
  refine wS_mono h ?_
  rintro k z M u ⟨rfl, rfl, rfl⟩
  rw [if_pos rfl]
  exact ht
section TF
variable {S : QS} {v w : QV} {b M P B s : Int} {f : Int → Int}
theorem Kp.vf (h : LMo S v M) : Kp S v (vf v (M + 1) f) := by
  intro a k _ h2
  by_cases e : a = M + 1
  · rw [e, h.a1] at h2
    cases h2
  · exact vf_ne e
theorem m_reach (h : LMo S v M) {m x : Int} (hm : 0 ≤ m ∧ m < 4) : mX12_reach [M, m, x] S (vf v (M + 1) f) = some (0, vf v (M + 1) (reachF m x f)) := by
  have hw := h.keep (Kp.vf h (f := f))
  have q8 : 0 ≤ 3 + 12 * m + 8 ∧ 3 + 12 * m + 8 < 1095 := by omega
  have q9 : 0 ≤ 3 + 12 * m + 9 ∧ 3 + 12 * m + 9 < 1095 := by omega
  have a8 := fun g => m_atMeasure (S := S) (v := vf v (M + 1) g) hm (show 0 ≤ (8 : Int) ∧ (8 : Int) < 12 by decide)
  have a9 := fun g => m_atMeasure (S := S) (v := vf v (M + 1) g) hm (show 0 ≤ (9 : Int) ∧ (9 : Int) < 12 by decide)
  have hne : fu f (3 + 12 * m + 8) x (3 + 12 * m + 9) = f (3 + 12 * m + 9) := fu_ne (by omega)
  have hw2 := h.keep (Kp.vf h (f := fu f (3 + 12 * m + 8) x))
  apply wM_eq
  by_cases d1 : f (3 + 12 * m + 8) = -2147483648 <;> by_cases d2 : f (3 + 12 * m + 8) < x <;> by_cases d3 : f (3 + 12 * m + 9) = -2147483648 <;> by_cases d4 : x < f (3 + 12 * m + 9) <;>
    simp only [mX12_reach, sX12_reach, reachF, wE_I, wE_V, wE_F, wE_A, wE_N, wE_1, wE_2, wE_D, wE_B, wE_If, wE_C, wE_CV, wE_SL, wE_SA, wA_0, wA_1, wC_B, wC_E, wC_And, wC_Or, wC_Not, wS_Skip, wS_Brk, wS_Cnt, wS_RetV, wS_Ret, wS_Seq, wS_Set, wS_Inc, wS_Do, wS_Put, wS_PutC, wS_Arr, wS_ArrC, wS_If, wS_Sw, wS_F0, wS_F1, wM_q, lu_ap, aL_ap, ct_0, ct_1, ct_2, ct_3, ct_4, ct_5, headD_1, List.mem_cons, List.not_mem_nil, or_false, false_or, or_true, true_or, true_and, and_true, false_and, and_false, not_true_eq_false, not_false_eq_true, if_true, if_false, nr_20, nr_24, nr_40, nr_41, nr_44, pt_lt, pt_ge, pt_eq, pt_ne, pt_gt, pt_le, pt_E, pt_N, pt_F, ite_10, ite_11, ne_eq, and_self, or_self, decide_true, decide_false, Bool.not_true, Bool.not_false, Bool.false_eq_true, Nat.reduceEqDiff, Nat.reduceAdd, Int.reduceEq, Int.reduceLT, Int.reduceLE, Int.reduceNeg, Int.reduceAdd, Int.reduceSub, Int.reduceMul, reduceCtorEq, iA, iS, iM, iD, iR, iN, lA, lS, lM, lD, lR, hw.k, hw.p0, hw.a1, hw.n1, hw2.k, hw2.p0, hw2.a1, hw2.n1, wM_of (a8 _), wM_of (a9 _), q8, q9, vf_is, vf_vu, hne, d1, d2, d3, d4]
/-- the cells of what is gathered -/
theorem q_ga {a m j : Int} (ha : 0 ≤ a ∧ a < 4) (hm : 0 ≤ m ∧ m < 4) (hj : 0 ≤ j ∧ j < 7) : 0 ≤ 55 + 7 * (4 * a + m) + j ∧ 55 + 7 * (4 * a + m) + j < 1095 := by omega
theorem m_gather (h : LMo S v M) {a m x n : Int} (ha : 0 ≤ a ∧ a < 4) (hm : 0 ≤ m ∧ m < 4) : mX12_gather [M, a, m, x, n] S (vf v (M + 1) f) = some (0, vf v (M + 1) (gatherF a m x n f)) := by
  have hw := fun g => h.keep (Kp.vf h (f := g))
  have z0 := fun g => m_atGather (S := S) (v := vf v (M + 1) g) ha hm (show 0 ≤ (0 : Int) ∧ (0 : Int) < 7 by decide)
  have z1 := fun g => m_atGather (S := S) (v := vf v (M + 1) g) ha hm (show 0 ≤ (1 : Int) ∧ (1 : Int) < 7 by decide)
  have z2 := fun g => m_atGather (S := S) (v := vf v (M + 1) g) ha hm (show 0 ≤ (2 : Int) ∧ (2 : Int) < 7 by decide)
  have z3 := fun g => m_atGather (S := S) (v := vf v (M + 1) g) ha hm (show 0 ≤ (3 : Int) ∧ (3 : Int) < 7 by decide)
  have z4 := fun g => m_atGather (S := S) (v := vf v (M + 1) g) ha hm (show 0 ≤ (4 : Int) ∧ (4 : Int) < 7 by decide)
  have z5 := fun g => m_atGather (S := S) (v := vf v (M + 1) g) ha hm (show 0 ≤ (5 : Int) ∧ (5 : Int) < 7 by decide)
  have z6 := fun g => m_atGather (S := S) (v := vf v (M + 1) g) ha hm (show 0 ≤ (6 : Int) ∧ (6 : Int) < 7 by decide)
  have y0 := q_ga ha hm (show 0 ≤ (0 : Int) ∧ (0 : Int) < 7 by decide)
  have y1 := q_ga ha hm (show 0 ≤ (1 : Int) ∧ (1 : Int) < 7 by decide)
  have y2 := q_ga ha hm (show 0 ≤ (2 : Int) ∧ (2 : Int) < 7 by decide)
  have y3 := q_ga ha hm (show 0 ≤ (3 : Int) ∧ (3 : Int) < 7 by decide)
  have y4 := q_ga ha hm (show 0 ≤ (4 : Int) ∧ (4 : Int) < 7 by decide)
  have y5 := q_ga ha hm (show 0 ≤ (5 : Int) ∧ (5 : Int) < 7 by decide)
  have y6 := q_ga ha hm (show 0 ≤ (6 : Int) ∧ (6 : Int) < 7 by decide)
  unfold gatherF
  generalize 55 + 7 * (4 * a + m) = g at *
  have n10 : g + 1 ≠ g + 0 := by omega
  have n20 : g + 2 ≠ g + 0 := by omega
  have n21 : g + 2 ≠ g + 1 := by omega
  have n30 : g + 3 ≠ g + 0 := by omega
  have n31 : g + 3 ≠ g + 1 := by omega
  have n32 : g + 3 ≠ g + 2 := by omega
  have n40 : g + 4 ≠ g + 0 := by omega
  have n41 : g + 4 ≠ g + 1 := by omega
  have n42 : g + 4 ≠ g + 2 := by omega
  have n43 : g + 4 ≠ g + 3 := by omega
  have n50 : g + 5 ≠ g + 0 := by omega
  have n51 : g + 5 ≠ g + 1 := by omega
  have n52 : g + 5 ≠ g + 2 := by omega
  have n53 : g + 5 ≠ g + 3 := by omega
  have n54 : g + 5 ≠ g + 4 := by omega
  apply wM_eq
  by_cases c0 : x = -2147483648
  · simp only [mX12_gather, sX12_gather, wE_I, wE_V, wE_F, wE_A, wE_N, wE_1, wE_2, wE_D, wE_B, wE_If, wE_C, wE_CV, wE_SL, wE_SA, wA_0, wA_1, wC_B, wC_E, wC_And, wC_Or, wC_Not, wS_Skip, wS_Brk, wS_Cnt, wS_RetV, wS_Ret, wS_Seq, wS_Set, wS_Inc, wS_Do, wS_Put, wS_PutC, wS_Arr, wS_ArrC, wS_If, wS_Sw, wS_F0, wS_F1, wM_q, lu_ap, aL_ap, ct_0, ct_1, ct_2, ct_3, ct_4, ct_5, headD_1, List.mem_cons, List.not_mem_nil, or_false, false_or, or_true, true_or, true_and, and_true, false_and, and_false, not_true_eq_false, not_false_eq_true, if_true, if_false, nr_20, nr_24, nr_40, nr_41, nr_44, pt_lt, pt_ge, pt_eq, pt_ne, pt_gt, pt_le, pt_E, pt_N, pt_F, ite_10, ite_11, ne_eq, and_self, or_self, decide_true, decide_false, Bool.not_true, Bool.not_false, Bool.false_eq_true, Nat.reduceEqDiff, Nat.reduceAdd, Int.reduceEq, Int.reduceLT, Int.reduceLE, Int.reduceNeg, Int.reduceAdd, Int.reduceSub, Int.reduceMul, reduceCtorEq, iA, iS, iM, iD, iR, iN, lA, lS, lM, lD, lR, h.k, (hw _).p0, h.a1, h.n1, wM_of (z6 _), y6, vf_is, vf_vu, c0]
  · rw [if_neg c0]
    simp only [mX12_gather, sX12_gather, wM_q]
    generalize hL : aL 0 [2, 0, 0, 1, 1] [M, a, m, x, n] = L
    have m0 : L 0 = M := by rw [← hL]; simp [lu_ap, aL_ap, ct_0, ct_1, ct_2]
    have m1 : L 1 = a := by rw [← hL]; simp [lu_ap, aL_ap, ct_0, ct_1, ct_2]
    have m2 : L 2 = m := by rw [← hL]; simp [lu_ap, aL_ap, ct_0, ct_1, ct_2]
    have m3 : L 3 = x := by rw [← hL]; simp [lu_ap, aL_ap, ct_0, ct_1, ct_2]
    have m5 : L 5 = n := by rw [← hL]; simp [lu_ap, aL_ap, ct_0, ct_1, ct_2]
    clear hL
    refine ws_step (L' := L) (w := vf v (M + 1) f) (by simp only [wE_I, wE_V, wE_F, wE_A, wE_N, wE_1, wE_2, wE_D, wE_B, wE_If, wE_C, wE_CV, wE_SL, wE_SA, wA_0, wA_1, wC_B, wC_E, wC_And, wC_Or, wC_Not, wS_Skip, wS_Brk, wS_Cnt, wS_RetV, wS_Ret, wS_Seq, wS_Set, wS_Inc, wS_Do, wS_Put, wS_PutC, wS_Arr, wS_ArrC, wS_If, wS_Sw, wS_F0, wS_F1, wM_q, lu_ap, aL_ap, ct_0, ct_1, ct_2, ct_3, ct_4, ct_5, headD_1, List.mem_cons, List.not_mem_nil, or_false, false_or, or_true, true_or, true_and, and_true, false_and, and_false, not_true_eq_false, not_false_eq_true, if_true, if_false, nr_20, nr_24, nr_40, nr_41, nr_44, pt_lt, pt_ge, pt_eq, pt_ne, pt_gt, pt_le, pt_E, pt_N, pt_F, ite_10, ite_11, ne_eq, and_self, or_self, decide_true, decide_false, Bool.not_true, Bool.not_false, Bool.false_eq_true, Nat.reduceEqDiff, Nat.reduceAdd, Int.reduceEq, Int.reduceLT, Int.reduceLE, Int.reduceNeg, Int.reduceAdd, Int.reduceSub, Int.reduceMul, reduceCtorEq, iA, iS, iM, iD, iR, iN, lA, lS, lM, lD, lR, h.k, (hw _).p0, h.a1, h.n1, vf_is, vf_vu, m3, c0]) ?_
    refine ws_step (L' := lu L 7 (if f (g + 5) = 0 then 1 else 0)) (w := vf v (M + 1) f) ?_ ?_
    · simp only [wE_I, wE_V, wE_F, wE_A, wE_N, wE_1, wE_2, wE_D, wE_B, wE_If, wE_C, wE_CV, wE_SL, wE_SA, wA_0, wA_1, wC_B, wC_E, wC_And, wC_Or, wC_Not, wS_Skip, wS_Brk, wS_Cnt, wS_RetV, wS_Ret, wS_Seq, wS_Set, wS_Inc, wS_Do, wS_Put, wS_PutC, wS_Arr, wS_ArrC, wS_If, wS_Sw, wS_F0, wS_F1, wM_q, lu_ap, aL_ap, ct_0, ct_1, ct_2, ct_3, ct_4, ct_5, headD_1, List.mem_cons, List.not_mem_nil, or_false, false_or, or_true, true_or, true_and, and_true, false_and, and_false, not_true_eq_false, not_false_eq_true, if_true, if_false, nr_20, nr_24, nr_40, nr_41, nr_44, pt_lt, pt_ge, pt_eq, pt_ne, pt_gt, pt_le, pt_E, pt_N, pt_F, ite_10, ite_11, ne_eq, and_self, or_self, decide_true, decide_false, Bool.not_true, Bool.not_false, Bool.false_eq_true, Nat.reduceEqDiff, Nat.reduceAdd, Int.reduceEq, Int.reduceLT, Int.reduceLE, Int.reduceNeg, Int.reduceAdd, Int.reduceSub, Int.reduceMul, reduceCtorEq, iA, iS, iM, iD, iR, iN, lA, lS, lM, lD, lR, h.k, (hw _).p0, h.a1, h.n1, vf_is, vf_vu, m0, m1, m2, wM_of (z5 _), y5]
    generalize hL7 : lu L 7 (if f (g + 5) = 0 then 1 else 0) = L7
    have k0 : L7 0 = M := by rw [← hL7, lu_ap]; simp [m0]
    have k1 : L7 1 = a := by rw [← hL7, lu_ap]; simp [m1]
    have k2 : L7 2 = m := by rw [← hL7, lu_ap]; simp [m2]
    have k3 : L7 3 = x := by rw [← hL7, lu_ap]; simp [m3]
    have k5 : L7 5 = n := by rw [← hL7, lu_ap]; simp [m5]
    have k7 : L7 7 = if f (g + 5) = 0 then 1 else 0 := by rw [← hL7, lu_ap]; simp
    clear hL7
    refine ws_step (L' := L7) (w := vf v (M + 1) (fu f (g + 0) (w64 (f (g + 0) + w64 (x * n))))) (by simp only [wE_I, wE_V, wE_F, wE_A, wE_N, wE_1, wE_2, wE_D, wE_B, wE_If, wE_C, wE_CV, wE_SL, wE_SA, wA_0, wA_1, wC_B, wC_E, wC_And, wC_Or, wC_Not, wS_Skip, wS_Brk, wS_Cnt, wS_RetV, wS_Ret, wS_Seq, wS_Set, wS_Inc, wS_Do, wS_Put, wS_PutC, wS_Arr, wS_ArrC, wS_If, wS_Sw, wS_F0, wS_F1, wM_q, lu_ap, aL_ap, ct_0, ct_1, ct_2, ct_3, ct_4, ct_5, headD_1, List.mem_cons, List.not_mem_nil, or_false, false_or, or_true, true_or, true_and, and_true, false_and, and_false, not_true_eq_false, not_false_eq_true, if_true, if_false, nr_20, nr_24, nr_40, nr_41, nr_44, pt_lt, pt_ge, pt_eq, pt_ne, pt_gt, pt_le, pt_E, pt_N, pt_F, ite_10, ite_11, ne_eq, and_self, or_self, decide_true, decide_false, Bool.not_true, Bool.not_false, Bool.false_eq_true, Nat.reduceEqDiff, Nat.reduceAdd, Int.reduceEq, Int.reduceLT, Int.reduceLE, Int.reduceNeg, Int.reduceAdd, Int.reduceSub, Int.reduceMul, reduceCtorEq, iA, iS, iM, iD, iR, iN, lA, lS, lM, lD, lR, h.k, (hw _).p0, h.a1, h.n1, vf_is, vf_vu, k0, k1, k2, k3, k5, wM_of (z0 _), y0]) ?_
    generalize hg1 : fu f (g + 0) (w64 (f (g + 0) + w64 (x * n))) = g1
    refine ws_step (L' := L7) (w := vf v (M + 1) (fu g1 (g + 1) (w64 (g1 (g + 1) + n)))) (by simp only [wE_I, wE_V, wE_F, wE_A, wE_N, wE_1, wE_2, wE_D, wE_B, wE_If, wE_C, wE_CV, wE_SL, wE_SA, wA_0, wA_1, wC_B, wC_E, wC_And, wC_Or, wC_Not, wS_Skip, wS_Brk, wS_Cnt, wS_RetV, wS_Ret, wS_Seq, wS_Set, wS_Inc, wS_Do, wS_Put, wS_PutC, wS_Arr, wS_ArrC, wS_If, wS_Sw, wS_F0, wS_F1, wM_q, lu_ap, aL_ap, ct_0, ct_1, ct_2, ct_3, ct_4, ct_5, headD_1, List.mem_cons, List.not_mem_nil, or_false, false_or, or_true, true_or, true_and, and_true, false_and, and_false, not_true_eq_false, not_false_eq_true, if_true, if_false, nr_20, nr_24, nr_40, nr_41, nr_44, pt_lt, pt_ge, pt_eq, pt_ne, pt_gt, pt_le, pt_E, pt_N, pt_F, ite_10, ite_11, ne_eq, and_self, or_self, decide_true, decide_false, Bool.not_true, Bool.not_false, Bool.false_eq_true, Nat.reduceEqDiff, Nat.reduceAdd, Int.reduceEq, Int.reduceLT, Int.reduceLE, Int.reduceNeg, Int.reduceAdd, Int.reduceSub, Int.reduceMul, reduceCtorEq, iA, iS, iM, iD, iR, iN, lA, lS, lM, lD, lR, h.k, (hw _).p0, h.a1, h.n1, vf_is, vf_vu, k0, k1, k2, k3, k5, wM_of (z1 _), y1]) ?_
    generalize hg2 : fu g1 (g + 1) (w64 (g1 (g + 1) + n)) = g2
    refine ws_step (L' := L7) (w := vf v (M + 1) (if f (g + 5) = 0 ∨ g2 (g + 2) < x then fu g2 (g + 2) x else g2)) ?_ ?_
    · by_cases c1 : f (g + 5) = 0 <;> by_cases c2 : g2 (g + 2) < x <;> simp only [wE_I, wE_V, wE_F, wE_A, wE_N, wE_1, wE_2, wE_D, wE_B, wE_If, wE_C, wE_CV, wE_SL, wE_SA, wA_0, wA_1, wC_B, wC_E, wC_And, wC_Or, wC_Not, wS_Skip, wS_Brk, wS_Cnt, wS_RetV, wS_Ret, wS_Seq, wS_Set, wS_Inc, wS_Do, wS_Put, wS_PutC, wS_Arr, wS_ArrC, wS_If, wS_Sw, wS_F0, wS_F1, wM_q, lu_ap, aL_ap, ct_0, ct_1, ct_2, ct_3, ct_4, ct_5, headD_1, List.mem_cons, List.not_mem_nil, or_false, false_or, or_true, true_or, true_and, and_true, false_and, and_false, not_true_eq_false, not_false_eq_true, if_true, if_false, nr_20, nr_24, nr_40, nr_41, nr_44, pt_lt, pt_ge, pt_eq, pt_ne, pt_gt, pt_le, pt_E, pt_N, pt_F, ite_10, ite_11, ne_eq, and_self, or_self, decide_true, decide_false, Bool.not_true, Bool.not_false, Bool.false_eq_true, Nat.reduceEqDiff, Nat.reduceAdd, Int.reduceEq, Int.reduceLT, Int.reduceLE, Int.reduceNeg, Int.reduceAdd, Int.reduceSub, Int.reduceMul, reduceCtorEq, iA, iS, iM, iD, iR, iN, lA, lS, lM, lD, lR, h.k, (hw _).p0, h.a1, h.n1, vf_is, vf_vu, k0, k1, k2, k3, k5, k7, c1, c2, wM_of (z2 _), y2]
    generalize hg3 : (if f (g + 5) = 0 ∨ g2 (g + 2) < x then fu g2 (g + 2) x else g2) = g3
    refine ws_step (L' := L7) (w := vf v (M + 1) (if f (g + 5) = 0 ∨ x < g3 (g + 3) then fu g3 (g + 3) x else g3)) ?_ ?_
    · by_cases c1 : f (g + 5) = 0 <;> by_cases c2 : x < g3 (g + 3) <;> simp only [wE_I, wE_V, wE_F, wE_A, wE_N, wE_1, wE_2, wE_D, wE_B, wE_If, wE_C, wE_CV, wE_SL, wE_SA, wA_0, wA_1, wC_B, wC_E, wC_And, wC_Or, wC_Not, wS_Skip, wS_Brk, wS_Cnt, wS_RetV, wS_Ret, wS_Seq, wS_Set, wS_Inc, wS_Do, wS_Put, wS_PutC, wS_Arr, wS_ArrC, wS_If, wS_Sw, wS_F0, wS_F1, wM_q, lu_ap, aL_ap, ct_0, ct_1, ct_2, ct_3, ct_4, ct_5, headD_1, List.mem_cons, List.not_mem_nil, or_false, false_or, or_true, true_or, true_and, and_true, false_and, and_false, not_true_eq_false, not_false_eq_true, if_true, if_false, nr_20, nr_24, nr_40, nr_41, nr_44, pt_lt, pt_ge, pt_eq, pt_ne, pt_gt, pt_le, pt_E, pt_N, pt_F, ite_10, ite_11, ne_eq, and_self, or_self, decide_true, decide_false, Bool.not_true, Bool.not_false, Bool.false_eq_true, Nat.reduceEqDiff, Nat.reduceAdd, Int.reduceEq, Int.reduceLT, Int.reduceLE, Int.reduceNeg, Int.reduceAdd, Int.reduceSub, Int.reduceMul, reduceCtorEq, iA, iS, iM, iD, iR, iN, lA, lS, lM, lD, lR, h.k, (hw _).p0, h.a1, h.n1, vf_is, vf_vu, k0, k1, k2, k3, k5, k7, c1, c2, wM_of (z3 _), y3]
    generalize hg4 : (if f (g + 5) = 0 ∨ x < g3 (g + 3) then fu g3 (g + 3) x else g3) = g4
    refine ws_step (L' := L7) (w := vf v (M + 1) (fu g4 (g + 4) x)) (by simp only [wE_I, wE_V, wE_F, wE_A, wE_N, wE_1, wE_2, wE_D, wE_B, wE_If, wE_C, wE_CV, wE_SL, wE_SA, wA_0, wA_1, wC_B, wC_E, wC_And, wC_Or, wC_Not, wS_Skip, wS_Brk, wS_Cnt, wS_RetV, wS_Ret, wS_Seq, wS_Set, wS_Inc, wS_Do, wS_Put, wS_PutC, wS_Arr, wS_ArrC, wS_If, wS_Sw, wS_F0, wS_F1, wM_q, lu_ap, aL_ap, ct_0, ct_1, ct_2, ct_3, ct_4, ct_5, headD_1, List.mem_cons, List.not_mem_nil, or_false, false_or, or_true, true_or, true_and, and_true, false_and, and_false, not_true_eq_false, not_false_eq_true, if_true, if_false, nr_20, nr_24, nr_40, nr_41, nr_44, pt_lt, pt_ge, pt_eq, pt_ne, pt_gt, pt_le, pt_E, pt_N, pt_F, ite_10, ite_11, ne_eq, and_self, or_self, decide_true, decide_false, Bool.not_true, Bool.not_false, Bool.false_eq_true, Nat.reduceEqDiff, Nat.reduceAdd, Int.reduceEq, Int.reduceLT, Int.reduceLE, Int.reduceNeg, Int.reduceAdd, Int.reduceSub, Int.reduceMul, reduceCtorEq, iA, iS, iM, iD, iR, iN, lA, lS, lM, lD, lR, h.k, (hw _).p0, h.a1, h.n1, vf_is, vf_vu, k0, k1, k2, k3, k5, wM_of (z4 _), y4]) ?_
    generalize hg5 : fu g4 (g + 4) x = g5
    simp only [wE_I, wE_V, wE_F, wE_A, wE_N, wE_1, wE_2, wE_D, wE_B, wE_If, wE_C, wE_CV, wE_SL, wE_SA, wA_0, wA_1, wC_B, wC_E, wC_And, wC_Or, wC_Not, wS_Skip, wS_Brk, wS_Cnt, wS_RetV, wS_Ret, wS_Seq, wS_Set, wS_Inc, wS_Do, wS_Put, wS_PutC, wS_Arr, wS_ArrC, wS_If, wS_Sw, wS_F0, wS_F1, wM_q, lu_ap, aL_ap, ct_0, ct_1, ct_2, ct_3, ct_4, ct_5, headD_1, List.mem_cons, List.not_mem_nil, or_false, false_or, or_true, true_or, true_and, and_true, false_and, and_false, not_true_eq_false, not_false_eq_true, if_true, if_false, nr_20, nr_24, nr_40, nr_41, nr_44, pt_lt, pt_ge, pt_eq, pt_ne, pt_gt, pt_le, pt_E, pt_N, pt_F, ite_10, ite_11, ne_eq, and_self, or_self, decide_true, decide_false, Bool.not_true, Bool.not_false, Bool.false_eq_true, Nat.reduceEqDiff, Nat.reduceAdd, Int.reduceEq, Int.reduceLT, Int.reduceLE, Int.reduceNeg, Int.reduceAdd, Int.reduceSub, Int.reduceMul, reduceCtorEq, iA, iS, iM, iD, iR, iN, lA, lS, lM, lD, lR, h.k, (hw _).p0, h.a1, h.n1, vf_is, vf_vu, k0, k1, k2, k3, k5, wM_of (z5 _), y5]
end TF
