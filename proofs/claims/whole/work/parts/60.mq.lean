/-! THE REFERENCE'S QUESTIONS: its small methods -/
def RM (S : QS) (v : QV) (M B : Int) : Prop := LMo S v M ∧ v M 28 = B ∧ (B = 0 ∨ B = 1) ∧ (1 ≤ v (M + 2) B ∧ v (M + 2) B ≤ 60) ∧ (0 ≤ v (M + 3) B ∧ v (M + 3) B ≤ 4) ∧ (0 ≤ v (M + 4) B ∧ v (M + 4) B ≤ 4) ∧ (∀ a, 0 ≤ a → a < v (M + 4) B → (1 ≤ v (M + 15) (4 * B + a) ∧ v (M + 15) (4 * B + a) ≤ 12) ∧ (0 ≤ v (M + 1) (51 + a) ∧ v (M + 1) (51 + a) ≤ 30 ∧ v (M + 1) (51 + a) ≤ v (M + 1) 1 / v (M + 15) (4 * B + a))) ∧ (0 ≤ v (M + 1) 0 ∧ v (M + 1) 0 ≤ 100000) ∧ v (M + 1) 1 = v (M + 1) 0 / v (M + 2) B
def mU (v : QV) (M B a : Int) : Int := v (M + 15) (4 * B + a) * v (M + 2) B
def mD (v : QV) (M B a : Int) : Int := v (M + 1) 1 / v (M + 15) (4 * B + a)
def mK (v : QV) (M a : Int) : Int := v (M + 1) (51 + a)
def mR (v : QV) (M a m i : Int) : Int := v (M + 1) (167 + 30 * (4 * a + m) + i)
section MQ
variable {S : QS} {v w : QV} {M B : Int}
theorem m_isIn {x l h : Int} : mX12_isIn [x, l, h] S v = some (if l ≤ x ∧ x ≤ h then 1 else 0, v) := by
  apply wM_eq
  simp only [mX12_isIn, sX12_isIn, wE_I, wE_V, wE_F, wE_A, wE_N, wE_1, wE_2, wE_D, wE_B, wE_If, wE_C, wE_CV, wE_SL, wE_SA, wA_0, wA_1, wC_B, wC_E, wC_And, wC_Or, wC_Not, wS_Skip, wS_Brk, wS_Cnt, wS_RetV, wS_Ret, wS_Seq, wS_Set, wS_Inc, wS_Do, wS_Put, wS_PutC, wS_Arr, wS_ArrC, wS_If, wS_Sw, wS_F0, wS_F1, wM_q, lu_ap, aL_ap, ct_0, ct_1, ct_2, ct_3, ct_4, ct_5, headD_1, List.mem_cons, List.not_mem_nil, or_false, false_or, or_true, true_or, true_and, and_true, false_and, and_false, not_true_eq_false, not_false_eq_true, if_true, if_false, nr_20, nr_24, nr_40, nr_41, nr_44, pt_lt, pt_ge, pt_eq, pt_ne, pt_gt, pt_le, pt_E, pt_N, pt_F, ite_10, ite_11, ne_eq, and_self, or_self, decide_true, decide_false, Bool.not_true, Bool.not_false, Bool.false_eq_true, Nat.reduceEqDiff, Nat.reduceAdd, Int.reduceEq, Int.reduceLT, Int.reduceLE, Int.reduceNeg, Int.reduceAdd, Int.reduceSub, Int.reduceMul, reduceCtorEq, iA, iS, iM, iD, iR, iN, lA, lS, lM, lD, lR]
  by_cases h0 : l ≤ x <;> simp [h0]
theorem m_own {k : Int} (hB : B = 0 ∨ B = 1) (hk : 0 ≤ k ∧ k ≤ 1000) : mX12_own [B, k] S v = some (4 * B + k, v) := by
  apply wM_eq
  have e1 : w32 (w32 (4 * B) + k) = 4 * B + k := by rw [w32_e (z := 4 * B) (by omega)]; exact w32_e (by omega)
  simp only [mX12_own, sX12_own, wE_I, wE_V, wE_F, wE_A, wE_N, wE_1, wE_2, wE_D, wE_B, wE_If, wE_C, wE_CV, wE_SL, wE_SA, wA_0, wA_1, wC_B, wC_E, wC_And, wC_Or, wC_Not, wS_Skip, wS_Brk, wS_Cnt, wS_RetV, wS_Ret, wS_Seq, wS_Set, wS_Inc, wS_Do, wS_Put, wS_PutC, wS_Arr, wS_ArrC, wS_If, wS_Sw, wS_F0, wS_F1, wM_q, lu_ap, aL_ap, ct_0, ct_1, ct_2, ct_3, ct_4, ct_5, headD_1, List.mem_cons, List.not_mem_nil, or_false, false_or, or_true, true_or, true_and, and_true, false_and, and_false, not_true_eq_false, not_false_eq_true, if_true, if_false, nr_20, nr_24, nr_40, nr_41, nr_44, pt_lt, pt_ge, pt_eq, pt_ne, pt_gt, pt_le, pt_E, pt_N, pt_F, ite_10, ite_11, ne_eq, and_self, or_self, decide_true, decide_false, Bool.not_true, Bool.not_false, Bool.false_eq_true, Nat.reduceEqDiff, Nat.reduceAdd, Int.reduceEq, Int.reduceLT, Int.reduceLE, Int.reduceNeg, Int.reduceAdd, Int.reduceSub, Int.reduceMul, reduceCtorEq, iA, iS, iM, iD, iR, iN, lA, lS, lM, lD, lR, e1]
theorem m_atMeasure {m x : Int} (hm : 0 ≤ m ∧ m < 4) (hx : 0 ≤ x ∧ x < 12) : mX12_atMeasure [m, x] S v = some (3 + 12 * m + x, v) := by
  apply wM_eq
  have e1 : w32 (w32 (3 + w32 (12 * m)) + x) = 3 + 12 * m + x := by rw [w32_e (z := 12 * m) (by omega), w32_e (z := 3 + 12 * m) (by omega)]; exact w32_e (by omega)
  simp only [mX12_atMeasure, sX12_atMeasure, wE_I, wE_V, wE_F, wE_A, wE_N, wE_1, wE_2, wE_D, wE_B, wE_If, wE_C, wE_CV, wE_SL, wE_SA, wA_0, wA_1, wC_B, wC_E, wC_And, wC_Or, wC_Not, wS_Skip, wS_Brk, wS_Cnt, wS_RetV, wS_Ret, wS_Seq, wS_Set, wS_Inc, wS_Do, wS_Put, wS_PutC, wS_Arr, wS_ArrC, wS_If, wS_Sw, wS_F0, wS_F1, wM_q, lu_ap, aL_ap, ct_0, ct_1, ct_2, ct_3, ct_4, ct_5, headD_1, List.mem_cons, List.not_mem_nil, or_false, false_or, or_true, true_or, true_and, and_true, false_and, and_false, not_true_eq_false, not_false_eq_true, if_true, if_false, nr_20, nr_24, nr_40, nr_41, nr_44, pt_lt, pt_ge, pt_eq, pt_ne, pt_gt, pt_le, pt_E, pt_N, pt_F, ite_10, ite_11, ne_eq, and_self, or_self, decide_true, decide_false, Bool.not_true, Bool.not_false, Bool.false_eq_true, Nat.reduceEqDiff, Nat.reduceAdd, Int.reduceEq, Int.reduceLT, Int.reduceLE, Int.reduceNeg, Int.reduceAdd, Int.reduceSub, Int.reduceMul, reduceCtorEq, iA, iS, iM, iD, iR, iN, lA, lS, lM, lD, lR, e1]
theorem m_atGather {a m x : Int} (ha : 0 ≤ a ∧ a < 4) (hm : 0 ≤ m ∧ m < 4) (hx : 0 ≤ x ∧ x < 7) : mX12_atGather [a, m, x] S v = some (55 + 7 * (4 * a + m) + x, v) := by
  apply wM_eq
  have e1 : w32 (w32 (55 + w32 (7 * w32 (w32 (4 * a) + m))) + x) = 55 + 7 * (4 * a + m) + x := by rw [w32_e (z := 4 * a) (by omega), w32_e (z := 4 * a + m) (by omega), w32_e (z := 7 * (4 * a + m)) (by omega), w32_e (z := 55 + 7 * (4 * a + m)) (by omega)]; exact w32_e (by omega)
  simp only [mX12_atGather, sX12_atGather, wE_I, wE_V, wE_F, wE_A, wE_N, wE_1, wE_2, wE_D, wE_B, wE_If, wE_C, wE_CV, wE_SL, wE_SA, wA_0, wA_1, wC_B, wC_E, wC_And, wC_Or, wC_Not, wS_Skip, wS_Brk, wS_Cnt, wS_RetV, wS_Ret, wS_Seq, wS_Set, wS_Inc, wS_Do, wS_Put, wS_PutC, wS_Arr, wS_ArrC, wS_If, wS_Sw, wS_F0, wS_F1, wM_q, lu_ap, aL_ap, ct_0, ct_1, ct_2, ct_3, ct_4, ct_5, headD_1, List.mem_cons, List.not_mem_nil, or_false, false_or, or_true, true_or, true_and, and_true, false_and, and_false, not_true_eq_false, not_false_eq_true, if_true, if_false, nr_20, nr_24, nr_40, nr_41, nr_44, pt_lt, pt_ge, pt_eq, pt_ne, pt_gt, pt_le, pt_E, pt_N, pt_F, ite_10, ite_11, ne_eq, and_self, or_self, decide_true, decide_false, Bool.not_true, Bool.not_false, Bool.false_eq_true, Nat.reduceEqDiff, Nat.reduceAdd, Int.reduceEq, Int.reduceLT, Int.reduceLE, Int.reduceNeg, Int.reduceAdd, Int.reduceSub, Int.reduceMul, reduceCtorEq, iA, iS, iM, iD, iR, iN, lA, lS, lM, lD, lR, e1]
theorem m_atRow {a m x : Int} (ha : 0 ≤ a ∧ a < 4) (hm : 0 ≤ m ∧ m < 4) (hx : 0 ≤ x ∧ x < 30) : mX12_atRow [a, m, x] S v = some (167 + 30 * (4 * a + m) + x, v) := by
  apply wM_eq
  have e1 : w32 (w32 (167 + w32 (30 * w32 (w32 (4 * a) + m))) + x) = 167 + 30 * (4 * a + m) + x := by rw [w32_e (z := 4 * a) (by omega), w32_e (z := 4 * a + m) (by omega), w32_e (z := 30 * (4 * a + m)) (by omega), w32_e (z := 167 + 30 * (4 * a + m)) (by omega)]; exact w32_e (by omega)
  simp only [mX12_atRow, sX12_atRow, wE_I, wE_V, wE_F, wE_A, wE_N, wE_1, wE_2, wE_D, wE_B, wE_If, wE_C, wE_CV, wE_SL, wE_SA, wA_0, wA_1, wC_B, wC_E, wC_And, wC_Or, wC_Not, wS_Skip, wS_Brk, wS_Cnt, wS_RetV, wS_Ret, wS_Seq, wS_Set, wS_Inc, wS_Do, wS_Put, wS_PutC, wS_Arr, wS_ArrC, wS_If, wS_Sw, wS_F0, wS_F1, wM_q, lu_ap, aL_ap, ct_0, ct_1, ct_2, ct_3, ct_4, ct_5, headD_1, List.mem_cons, List.not_mem_nil, or_false, false_or, or_true, true_or, true_and, and_true, false_and, and_false, not_true_eq_false, not_false_eq_true, if_true, if_false, nr_20, nr_24, nr_40, nr_41, nr_44, pt_lt, pt_ge, pt_eq, pt_ne, pt_gt, pt_le, pt_E, pt_N, pt_F, ite_10, ite_11, ne_eq, and_self, or_self, decide_true, decide_false, Bool.not_true, Bool.not_false, Bool.false_eq_true, Nat.reduceEqDiff, Nat.reduceAdd, Int.reduceEq, Int.reduceLT, Int.reduceLE, Int.reduceNeg, Int.reduceAdd, Int.reduceSub, Int.reduceMul, reduceCtorEq, iA, iS, iM, iD, iR, iN, lA, lS, lM, lD, lR, e1]
theorem m_atForecast {m x : Int} (hm : 0 ≤ m ∧ m < 4) (hx : 0 ≤ x ∧ x < 112) : mX12_atForecast [m, x] S v = some (647 + 112 * m + x, v) := by
  apply wM_eq
  have e1 : w32 (w32 (647 + w32 (112 * m)) + x) = 647 + 112 * m + x := by rw [w32_e (z := 112 * m) (by omega), w32_e (z := 647 + 112 * m) (by omega)]; exact w32_e (by omega)
  simp only [mX12_atForecast, sX12_atForecast, wE_I, wE_V, wE_F, wE_A, wE_N, wE_1, wE_2, wE_D, wE_B, wE_If, wE_C, wE_CV, wE_SL, wE_SA, wA_0, wA_1, wC_B, wC_E, wC_And, wC_Or, wC_Not, wS_Skip, wS_Brk, wS_Cnt, wS_RetV, wS_Ret, wS_Seq, wS_Set, wS_Inc, wS_Do, wS_Put, wS_PutC, wS_Arr, wS_ArrC, wS_If, wS_Sw, wS_F0, wS_F1, wM_q, lu_ap, aL_ap, ct_0, ct_1, ct_2, ct_3, ct_4, ct_5, headD_1, List.mem_cons, List.not_mem_nil, or_false, false_or, or_true, true_or, true_and, and_true, false_and, and_false, not_true_eq_false, not_false_eq_true, if_true, if_false, nr_20, nr_24, nr_40, nr_41, nr_44, pt_lt, pt_ge, pt_eq, pt_ne, pt_gt, pt_le, pt_E, pt_N, pt_F, ite_10, ite_11, ne_eq, and_self, or_self, decide_true, decide_false, Bool.not_true, Bool.not_false, Bool.false_eq_true, Nat.reduceEqDiff, Nat.reduceAdd, Int.reduceEq, Int.reduceLT, Int.reduceLE, Int.reduceNeg, Int.reduceAdd, Int.reduceSub, Int.reduceMul, reduceCtorEq, iA, iS, iM, iD, iR, iN, lA, lS, lM, lD, lR, e1]
theorem m_held {x : Int} : mX12_held [x] S v = some (hd x, v) := by
  apply wM_eq
  unfold hd
  by_cases h1 : 2000000000 < x
  · simp only [mX12_held, sX12_held, wE_I, wE_V, wE_F, wE_A, wE_N, wE_1, wE_2, wE_D, wE_B, wE_If, wE_C, wE_CV, wE_SL, wE_SA, wA_0, wA_1, wC_B, wC_E, wC_And, wC_Or, wC_Not, wS_Skip, wS_Brk, wS_Cnt, wS_RetV, wS_Ret, wS_Seq, wS_Set, wS_Inc, wS_Do, wS_Put, wS_PutC, wS_Arr, wS_ArrC, wS_If, wS_Sw, wS_F0, wS_F1, wM_q, lu_ap, aL_ap, ct_0, ct_1, ct_2, ct_3, ct_4, ct_5, headD_1, List.mem_cons, List.not_mem_nil, or_false, false_or, or_true, true_or, true_and, and_true, false_and, and_false, not_true_eq_false, not_false_eq_true, if_true, if_false, nr_20, nr_24, nr_40, nr_41, nr_44, pt_lt, pt_ge, pt_eq, pt_ne, pt_gt, pt_le, pt_E, pt_N, pt_F, ite_10, ite_11, ne_eq, and_self, or_self, decide_true, decide_false, Bool.not_true, Bool.not_false, Bool.false_eq_true, Nat.reduceEqDiff, Nat.reduceAdd, Int.reduceEq, Int.reduceLT, Int.reduceLE, Int.reduceNeg, Int.reduceAdd, Int.reduceSub, Int.reduceMul, reduceCtorEq, iA, iS, iM, iD, iR, iN, lA, lS, lM, lD, lR, h1]
  · by_cases h2 : x < -2000000000 <;> simp only [mX12_held, sX12_held, wE_I, wE_V, wE_F, wE_A, wE_N, wE_1, wE_2, wE_D, wE_B, wE_If, wE_C, wE_CV, wE_SL, wE_SA, wA_0, wA_1, wC_B, wC_E, wC_And, wC_Or, wC_Not, wS_Skip, wS_Brk, wS_Cnt, wS_RetV, wS_Ret, wS_Seq, wS_Set, wS_Inc, wS_Do, wS_Put, wS_PutC, wS_Arr, wS_ArrC, wS_If, wS_Sw, wS_F0, wS_F1, wM_q, lu_ap, aL_ap, ct_0, ct_1, ct_2, ct_3, ct_4, ct_5, headD_1, List.mem_cons, List.not_mem_nil, or_false, false_or, or_true, true_or, true_and, and_true, false_and, and_false, not_true_eq_false, not_false_eq_true, if_true, if_false, nr_20, nr_24, nr_40, nr_41, nr_44, pt_lt, pt_ge, pt_eq, pt_ne, pt_gt, pt_le, pt_E, pt_N, pt_F, ite_10, ite_11, ne_eq, and_self, or_self, decide_true, decide_false, Bool.not_true, Bool.not_false, Bool.false_eq_true, Nat.reduceEqDiff, Nat.reduceAdd, Int.reduceEq, Int.reduceLT, Int.reduceLE, Int.reduceNeg, Int.reduceAdd, Int.reduceSub, Int.reduceMul, reduceCtorEq, iA, iS, iM, iD, iR, iN, lA, lS, lM, lD, lR, h1, h2]
theorem RM.B2 (h : RM S v M B) : 0 ≤ B ∧ B < 2 := by have := h.2.2.1; omega
theorem m_many (h : RM S v M B) : mX12_many [M] S v = some (v (M + 3) B, v) := by
  apply wM_eq
  simp only [mX12_many, sX12_many, wE_I, wE_V, wE_F, wE_A, wE_N, wE_1, wE_2, wE_D, wE_B, wE_If, wE_C, wE_CV, wE_SL, wE_SA, wA_0, wA_1, wC_B, wC_E, wC_And, wC_Or, wC_Not, wS_Skip, wS_Brk, wS_Cnt, wS_RetV, wS_Ret, wS_Seq, wS_Set, wS_Inc, wS_Do, wS_Put, wS_PutC, wS_Arr, wS_ArrC, wS_If, wS_Sw, wS_F0, wS_F1, wM_q, lu_ap, aL_ap, ct_0, ct_1, ct_2, ct_3, ct_4, ct_5, headD_1, List.mem_cons, List.not_mem_nil, or_false, false_or, or_true, true_or, true_and, and_true, false_and, and_false, not_true_eq_false, not_false_eq_true, if_true, if_false, nr_20, nr_24, nr_40, nr_41, nr_44, pt_lt, pt_ge, pt_eq, pt_ne, pt_gt, pt_le, pt_E, pt_N, pt_F, ite_10, ite_11, ne_eq, and_self, or_self, decide_true, decide_false, Bool.not_true, Bool.not_false, Bool.false_eq_true, Nat.reduceEqDiff, Nat.reduceAdd, Int.reduceEq, Int.reduceLT, Int.reduceLE, Int.reduceNeg, Int.reduceAdd, Int.reduceSub, Int.reduceMul, reduceCtorEq, iA, iS, iM, iD, iR, iN, lA, lS, lM, lD, lR, h.1.k, h.1.p2, h.1.a3, h.1.n3, h.2.1, h.B2]
theorem m_archivesNow (h : RM S v M B) : mX12_archivesNow [M] S v = some (v (M + 4) B, v) := by
  apply wM_eq
  simp only [mX12_archivesNow, sX12_archivesNow, wE_I, wE_V, wE_F, wE_A, wE_N, wE_1, wE_2, wE_D, wE_B, wE_If, wE_C, wE_CV, wE_SL, wE_SA, wA_0, wA_1, wC_B, wC_E, wC_And, wC_Or, wC_Not, wS_Skip, wS_Brk, wS_Cnt, wS_RetV, wS_Ret, wS_Seq, wS_Set, wS_Inc, wS_Do, wS_Put, wS_PutC, wS_Arr, wS_ArrC, wS_If, wS_Sw, wS_F0, wS_F1, wM_q, lu_ap, aL_ap, ct_0, ct_1, ct_2, ct_3, ct_4, ct_5, headD_1, List.mem_cons, List.not_mem_nil, or_false, false_or, or_true, true_or, true_and, and_true, false_and, and_false, not_true_eq_false, not_false_eq_true, if_true, if_false, nr_20, nr_24, nr_40, nr_41, nr_44, pt_lt, pt_ge, pt_eq, pt_ne, pt_gt, pt_le, pt_E, pt_N, pt_F, ite_10, ite_11, ne_eq, and_self, or_self, decide_true, decide_false, Bool.not_true, Bool.not_false, Bool.false_eq_true, Nat.reduceEqDiff, Nat.reduceAdd, Int.reduceEq, Int.reduceLT, Int.reduceLE, Int.reduceNeg, Int.reduceAdd, Int.reduceSub, Int.reduceMul, reduceCtorEq, iA, iS, iM, iD, iR, iN, lA, lS, lM, lD, lR, h.1.k, h.1.p3, h.1.a4, h.1.n4, h.2.1, h.B2]
theorem ite_c {p q : Prop} [Decidable p] [Decidable q] (h : p ↔ q) : (if p then (1 : Int) else 0) = if q then 1 else 0 := by
  by_cases hq : q
  · rw [if_pos hq, if_pos (h.mpr hq)]
  · rw [if_neg hq, if_neg (fun x => hq (h.mp x))]
theorem m_isMeasure (h : RM S v M B) {m : Int} : mX12_isMeasure [M, m] S v = some (if 0 ≤ m ∧ m < v (M + 3) B then 1 else 0, v) := by
  apply wM_eq
  have hn := h.2.2.2.2.1
  have e1 : w32 (v (M + 3) B - 1) = v (M + 3) B - 1 := w32_e (by omega)
  simp only [mX12_isMeasure, sX12_isMeasure, wE_I, wE_V, wE_F, wE_A, wE_N, wE_1, wE_2, wE_D, wE_B, wE_If, wE_C, wE_CV, wE_SL, wE_SA, wA_0, wA_1, wC_B, wC_E, wC_And, wC_Or, wC_Not, wS_Skip, wS_Brk, wS_Cnt, wS_RetV, wS_Ret, wS_Seq, wS_Set, wS_Inc, wS_Do, wS_Put, wS_PutC, wS_Arr, wS_ArrC, wS_If, wS_Sw, wS_F0, wS_F1, wM_q, lu_ap, aL_ap, ct_0, ct_1, ct_2, ct_3, ct_4, ct_5, headD_1, List.mem_cons, List.not_mem_nil, or_false, false_or, or_true, true_or, true_and, and_true, false_and, and_false, not_true_eq_false, not_false_eq_true, if_true, if_false, nr_20, nr_24, nr_40, nr_41, nr_44, pt_lt, pt_ge, pt_eq, pt_ne, pt_gt, pt_le, pt_E, pt_N, pt_F, ite_10, ite_11, ne_eq, and_self, or_self, decide_true, decide_false, Bool.not_true, Bool.not_false, Bool.false_eq_true, Nat.reduceEqDiff, Nat.reduceAdd, Int.reduceEq, Int.reduceLT, Int.reduceLE, Int.reduceNeg, Int.reduceAdd, Int.reduceSub, Int.reduceMul, reduceCtorEq, iA, iS, iM, iD, iR, iN, lA, lS, lM, lD, lR, h.1.k, wM_of (m_many h), e1, wM_of m_isIn]
  clear e1
  exact ite_c (by omega)
theorem m_isArchive (h : RM S v M B) {m : Int} : mX12_isArchive [M, m] S v = some (if 0 ≤ m ∧ m < v (M + 4) B then 1 else 0, v) := by
  apply wM_eq
  have hn := h.2.2.2.2.2.1
  have e1 : w32 (v (M + 4) B - 1) = v (M + 4) B - 1 := w32_e (by omega)
  simp only [mX12_isArchive, sX12_isArchive, wE_I, wE_V, wE_F, wE_A, wE_N, wE_1, wE_2, wE_D, wE_B, wE_If, wE_C, wE_CV, wE_SL, wE_SA, wA_0, wA_1, wC_B, wC_E, wC_And, wC_Or, wC_Not, wS_Skip, wS_Brk, wS_Cnt, wS_RetV, wS_Ret, wS_Seq, wS_Set, wS_Inc, wS_Do, wS_Put, wS_PutC, wS_Arr, wS_ArrC, wS_If, wS_Sw, wS_F0, wS_F1, wM_q, lu_ap, aL_ap, ct_0, ct_1, ct_2, ct_3, ct_4, ct_5, headD_1, List.mem_cons, List.not_mem_nil, or_false, false_or, or_true, true_or, true_and, and_true, false_and, and_false, not_true_eq_false, not_false_eq_true, if_true, if_false, nr_20, nr_24, nr_40, nr_41, nr_44, pt_lt, pt_ge, pt_eq, pt_ne, pt_gt, pt_le, pt_E, pt_N, pt_F, ite_10, ite_11, ne_eq, and_self, or_self, decide_true, decide_false, Bool.not_true, Bool.not_false, Bool.false_eq_true, Nat.reduceEqDiff, Nat.reduceAdd, Int.reduceEq, Int.reduceLT, Int.reduceLE, Int.reduceNeg, Int.reduceAdd, Int.reduceSub, Int.reduceMul, reduceCtorEq, iA, iS, iM, iD, iR, iN, lA, lS, lM, lD, lR, h.1.k, wM_of (m_archivesNow h), e1, wM_of m_isIn]
  clear e1
  exact ite_c (by omega)
theorem m_isBoth (h : RM S v M B) {a m : Int} : mX12_isBoth [M, a, m] S v = some (if (0 ≤ a ∧ a < v (M + 4) B) ∧ (0 ≤ m ∧ m < v (M + 3) B) then 1 else 0, v) := by
  apply wM_eq
  simp only [mX12_isBoth, sX12_isBoth, wE_I, wE_V, wE_F, wE_A, wE_N, wE_1, wE_2, wE_D, wE_B, wE_If, wE_C, wE_CV, wE_SL, wE_SA, wA_0, wA_1, wC_B, wC_E, wC_And, wC_Or, wC_Not, wS_Skip, wS_Brk, wS_Cnt, wS_RetV, wS_Ret, wS_Seq, wS_Set, wS_Inc, wS_Do, wS_Put, wS_PutC, wS_Arr, wS_ArrC, wS_If, wS_Sw, wS_F0, wS_F1, wM_q, lu_ap, aL_ap, ct_0, ct_1, ct_2, ct_3, ct_4, ct_5, headD_1, List.mem_cons, List.not_mem_nil, or_false, false_or, or_true, true_or, true_and, and_true, false_and, and_false, not_true_eq_false, not_false_eq_true, if_true, if_false, nr_20, nr_24, nr_40, nr_41, nr_44, pt_lt, pt_ge, pt_eq, pt_ne, pt_gt, pt_le, pt_E, pt_N, pt_F, ite_10, ite_11, ne_eq, and_self, or_self, decide_true, decide_false, Bool.not_true, Bool.not_false, Bool.false_eq_true, Nat.reduceEqDiff, Nat.reduceAdd, Int.reduceEq, Int.reduceLT, Int.reduceLE, Int.reduceNeg, Int.reduceAdd, Int.reduceSub, Int.reduceMul, reduceCtorEq, iA, iS, iM, iD, iR, iN, lA, lS, lM, lD, lR, h.1.k, wM_of (m_isArchive h), wM_of (m_isMeasure h)]
  by_cases h0 : 0 ≤ a ∧ a < v (M + 4) B <;> simp [h0]
theorem mU_b (h : RM S v M B) {a : Int} (ha : 0 ≤ a ∧ a < v (M + 4) B) : 1 ≤ mU v M B a ∧ mU v M B a ≤ 720 := by
  obtain ⟨hC, h2, h3, h4, h5, h6, h7, h8, h9⟩ := h
  exact mul_b (h7 a ha.1 ha.2).1 h4
theorem mS_b (h : RM S v M B) : 0 ≤ v (M + 1) 1 ∧ v (M + 1) 1 ≤ v (M + 1) 0 ∧ v (M + 1) 1 * v (M + 2) B ≤ v (M + 1) 0 := by
  obtain ⟨hC, h2, h3, h4, h5, h6, h7, h8, h9⟩ := h
  rw [h9]
  exact ⟨Int.ediv_nonneg h8.1 (by omega), Int.ediv_le_self _ h8.1, Int.ediv_mul_le _ (by omega)⟩
theorem mD_b (h : RM S v M B) {a : Int} (ha : 0 ≤ a ∧ a < v (M + 4) B) : 0 ≤ mD v M B a ∧ mD v M B a ≤ 100000 ∧ mD v M B a * mU v M B a ≤ 100000 := by
  have hs := mS_b h
  obtain ⟨hC, h2, h3, h4, h5, h6, h7, h8, h9⟩ := h
  have hp := (h7 a ha.1 ha.2).1
  have q1 := Int.ediv_nonneg hs.1 (show 0 ≤ v (M + 15) (4 * B + a) by omega)
  have q2 := Int.ediv_le_self (v (M + 15) (4 * B + a)) hs.1
  have q3 := Int.ediv_mul_le (v (M + 1) 1) (show v (M + 15) (4 * B + a) ≠ 0 by omega)
  unfold mD mU
  refine ⟨q1, by omega, ?_⟩
  rw [← Int.mul_assoc]
  have q4 := Int.mul_le_mul_of_nonneg_right q3 (show 0 ≤ v (M + 2) B by omega)
  omega
theorem mK_b (h : RM S v M B) {a : Int} (ha : 0 ≤ a ∧ a < v (M + 4) B) : 0 ≤ mK v M a ∧ mK v M a ≤ 30 ∧ mK v M a ≤ mD v M B a := (h.2.2.2.2.2.2.1 a ha.1 ha.2).2
theorem m_rowsKept (h : RM S v M B) {a : Int} (ha : 0 ≤ a ∧ a < v (M + 4) B) : mX12_rowsKept [M, a] S v = some (mK v M a, v) := by
  have hk := mK_b h ha
  have hn := h.2.2.2.2.2.1
  apply wM_eq
  have e1 : w32 (51 + a) = 51 + a := w32_e (by omega)
  have e2 : w32 (v (M + 1) (51 + a)) = mK v M a := by clear e1; exact w32_e (by unfold mK at hk; omega)
  have e3 : 0 ≤ 51 + a ∧ 51 + a < 1095 := by clear e1 e2; omega
  simp only [mX12_rowsKept, sX12_rowsKept, wE_I, wE_V, wE_F, wE_A, wE_N, wE_1, wE_2, wE_D, wE_B, wE_If, wE_C, wE_CV, wE_SL, wE_SA, wA_0, wA_1, wC_B, wC_E, wC_And, wC_Or, wC_Not, wS_Skip, wS_Brk, wS_Cnt, wS_RetV, wS_Ret, wS_Seq, wS_Set, wS_Inc, wS_Do, wS_Put, wS_PutC, wS_Arr, wS_ArrC, wS_If, wS_Sw, wS_F0, wS_F1, wM_q, lu_ap, aL_ap, ct_0, ct_1, ct_2, ct_3, ct_4, ct_5, headD_1, List.mem_cons, List.not_mem_nil, or_false, false_or, or_true, true_or, true_and, and_true, false_and, and_false, not_true_eq_false, not_false_eq_true, if_true, if_false, nr_20, nr_24, nr_40, nr_41, nr_44, pt_lt, pt_ge, pt_eq, pt_ne, pt_gt, pt_le, pt_E, pt_N, pt_F, ite_10, ite_11, ne_eq, and_self, or_self, decide_true, decide_false, Bool.not_true, Bool.not_false, Bool.false_eq_true, Nat.reduceEqDiff, Nat.reduceAdd, Int.reduceEq, Int.reduceLT, Int.reduceLE, Int.reduceNeg, Int.reduceAdd, Int.reduceSub, Int.reduceMul, reduceCtorEq, iA, iS, iM, iD, iR, iN, lA, lS, lM, lD, lR, h.1.k, h.1.p0, h.1.a1, h.1.n1, e1, e2, e3]
theorem m_unitsOf (h : RM S v M B) {a : Int} (ha : 0 ≤ a ∧ a < v (M + 4) B) : mX12_unitsOf [M, a] S v = some (mU v M B a, v) := by
  have hu := mU_b h ha
  have hn := h.2.2.2.2.2.1
  have hB := h.B2
  apply wM_eq
  have e2 : w32 (v (M + 15) (4 * B + a) * v (M + 2) B) = mU v M B a := w32_e (by unfold mU at hu; omega)
  have e3 : 0 ≤ 4 * B + a ∧ 4 * B + a < 8 := by clear e2; omega
  simp only [mX12_unitsOf, sX12_unitsOf, wE_I, wE_V, wE_F, wE_A, wE_N, wE_1, wE_2, wE_D, wE_B, wE_If, wE_C, wE_CV, wE_SL, wE_SA, wA_0, wA_1, wC_B, wC_E, wC_And, wC_Or, wC_Not, wS_Skip, wS_Brk, wS_Cnt, wS_RetV, wS_Ret, wS_Seq, wS_Set, wS_Inc, wS_Do, wS_Put, wS_PutC, wS_Arr, wS_ArrC, wS_If, wS_Sw, wS_F0, wS_F1, wM_q, lu_ap, aL_ap, ct_0, ct_1, ct_2, ct_3, ct_4, ct_5, headD_1, List.mem_cons, List.not_mem_nil, or_false, false_or, or_true, true_or, true_and, and_true, false_and, and_false, not_true_eq_false, not_false_eq_true, if_true, if_false, nr_20, nr_24, nr_40, nr_41, nr_44, pt_lt, pt_ge, pt_eq, pt_ne, pt_gt, pt_le, pt_E, pt_N, pt_F, ite_10, ite_11, ne_eq, and_self, or_self, decide_true, decide_false, Bool.not_true, Bool.not_false, Bool.false_eq_true, Nat.reduceEqDiff, Nat.reduceAdd, Int.reduceEq, Int.reduceLT, Int.reduceLE, Int.reduceNeg, Int.reduceAdd, Int.reduceSub, Int.reduceMul, reduceCtorEq, iA, iS, iM, iD, iR, iN, lA, lS, lM, lD, lR, h.1.k, h.1.p1, h.1.a2, h.1.n2, h.1.p14, h.1.a15, h.1.n15, h.2.1, hB, wM_of (m_own h.2.2.1 (show 0 ≤ a ∧ a ≤ 1000 by clear e2; omega)), e2, e3]
theorem m_overAt (h : RM S v M B) {a : Int} (ha : 0 ≤ a ∧ a < v (M + 4) B) : mX12_overAt [M, a] S v = some (mD v M B a * mU v M B a, v) := by
  have hu := mU_b h ha
  have hd := mD_b h ha
  have hs := mS_b h
  have hn := h.2.2.2.2.2.1
  have hp := (h.2.2.2.2.2.2.1 a ha.1 ha.2).1
  have hB := h.B2
  have hT := h.2.2.2.2.2.2.2.1
  apply wM_eq
  have ed : (v (M + 1) 1).tdiv (v (M + 15) (4 * B + a)) = mD v M B a := tdiv_n hs.1
  have e2 : w32 (w64 (mD v M B a)) = mD v M B a := by rw [w64_e (by omega)]; exact w32_e (by omega)
  have h0 : 0 ≤ mD v M B a * mU v M B a := Int.mul_nonneg hd.1 (by clear e2; omega)
  have e4 : w32 (mD v M B a * mU v M B a) = mD v M B a * mU v M B a := by clear e2; exact w32_e (by omega)
  have e3 : 0 ≤ 4 * B + a ∧ 4 * B + a < 8 := by clear e2 e4; omega
  have e5 : ¬ v (M + 15) (4 * B + a) = 0 := by clear e2 e4; omega
  simp only [mX12_overAt, sX12_overAt, wE_I, wE_V, wE_F, wE_A, wE_N, wE_1, wE_2, wE_D, wE_B, wE_If, wE_C, wE_CV, wE_SL, wE_SA, wA_0, wA_1, wC_B, wC_E, wC_And, wC_Or, wC_Not, wS_Skip, wS_Brk, wS_Cnt, wS_RetV, wS_Ret, wS_Seq, wS_Set, wS_Inc, wS_Do, wS_Put, wS_PutC, wS_Arr, wS_ArrC, wS_If, wS_Sw, wS_F0, wS_F1, wM_q, lu_ap, aL_ap, ct_0, ct_1, ct_2, ct_3, ct_4, ct_5, headD_1, List.mem_cons, List.not_mem_nil, or_false, false_or, or_true, true_or, true_and, and_true, false_and, and_false, not_true_eq_false, not_false_eq_true, if_true, if_false, nr_20, nr_24, nr_40, nr_41, nr_44, pt_lt, pt_ge, pt_eq, pt_ne, pt_gt, pt_le, pt_E, pt_N, pt_F, ite_10, ite_11, ne_eq, and_self, or_self, decide_true, decide_false, Bool.not_true, Bool.not_false, Bool.false_eq_true, Nat.reduceEqDiff, Nat.reduceAdd, Int.reduceEq, Int.reduceLT, Int.reduceLE, Int.reduceNeg, Int.reduceAdd, Int.reduceSub, Int.reduceMul, reduceCtorEq, iA, iS, iM, iD, iR, iN, lA, lS, lM, lD, lR, h.1.k, h.1.p0, h.1.a1, h.1.n1, h.1.p14, h.1.a15, h.1.n15, h.2.1, wM_of (m_own h.2.2.1 (show 0 ≤ a ∧ a ≤ 1000 by clear e2 e4; omega)), wM_of (m_unitsOf h ha), ed, e2, e3, e4, e5]
theorem beg_eq (U D i : Int) : D * U - U * (i + 1) = (D - i) * U - U := by
  rw [Int.sub_mul, Int.mul_add, Int.mul_one, Int.mul_comm U i]
  omega
theorem m_beginOf (h : RM S v M B) {a i : Int} (ha : 0 ≤ a ∧ a < v (M + 4) B) (hi : 0 ≤ i ∧ i < mK v M a) : mX12_beginOf [M, a, i] S v = some ((mD v M B a - i) * mU v M B a - mU v M B a, v) ∧ 0 ≤ (mD v M B a - i) * mU v M B a - mU v M B a ∧ (mD v M B a - i) * mU v M B a ≤ 100000 := by
  have hu := mU_b h ha
  have hd := mD_b h ha
  have hk := mK_b h ha
  have e1 : w32 (i + 1) = i + 1 := w32_e (by omega)
  have b1 : 0 ≤ mU v M B a * (i + 1) ∧ mU v M B a * (i + 1) ≤ mD v M B a * mU v M B a := by
    clear e1
    refine ⟨Int.mul_nonneg (by omega) (by omega), ?_⟩
    rw [Int.mul_comm]
    exact Int.mul_le_mul_of_nonneg_right (by omega) (by omega)
  have b2 : 0 ≤ mU v M B a * i := Int.mul_nonneg (by clear e1; omega) hi.1
  have e2 : w32 (mU v M B a * (i + 1)) = mU v M B a * (i + 1) := by clear e1; exact w32_e (by omega)
  have e3 : w32 (mD v M B a * mU v M B a - mU v M B a * (i + 1)) = (mD v M B a - i) * mU v M B a - mU v M B a := by
    clear e1 e2
    rw [← beg_eq]
    exact w32_e (by omega)
  refine ⟨?_, ?_, ?_⟩
  · apply wM_eq
    simp only [mX12_beginOf, sX12_beginOf, wE_I, wE_V, wE_F, wE_A, wE_N, wE_1, wE_2, wE_D, wE_B, wE_If, wE_C, wE_CV, wE_SL, wE_SA, wA_0, wA_1, wC_B, wC_E, wC_And, wC_Or, wC_Not, wS_Skip, wS_Brk, wS_Cnt, wS_RetV, wS_Ret, wS_Seq, wS_Set, wS_Inc, wS_Do, wS_Put, wS_PutC, wS_Arr, wS_ArrC, wS_If, wS_Sw, wS_F0, wS_F1, wM_q, lu_ap, aL_ap, ct_0, ct_1, ct_2, ct_3, ct_4, ct_5, headD_1, List.mem_cons, List.not_mem_nil, or_false, false_or, or_true, true_or, true_and, and_true, false_and, and_false, not_true_eq_false, not_false_eq_true, if_true, if_false, nr_20, nr_24, nr_40, nr_41, nr_44, pt_lt, pt_ge, pt_eq, pt_ne, pt_gt, pt_le, pt_E, pt_N, pt_F, ite_10, ite_11, ne_eq, and_self, or_self, decide_true, decide_false, Bool.not_true, Bool.not_false, Bool.false_eq_true, Nat.reduceEqDiff, Nat.reduceAdd, Int.reduceEq, Int.reduceLT, Int.reduceLE, Int.reduceNeg, Int.reduceAdd, Int.reduceSub, Int.reduceMul, reduceCtorEq, iA, iS, iM, iD, iR, iN, lA, lS, lM, lD, lR, h.1.k, wM_of (m_overAt h ha), wM_of (m_unitsOf h ha), e1, e2, e3]
  · clear e1 e2 e3
    rw [← beg_eq]
    omega
  · clear e1 e2 e3
    rw [Int.sub_mul, Int.mul_comm i]
    omega
/-- a row's cell -/
theorem m_cell (h : RM S v M B) {a m i : Int} (ha : 0 ≤ a ∧ a < v (M + 4) B) (hm : 0 ≤ m ∧ m < v (M + 3) B) (hi : 0 ≤ i ∧ i < mK v M a) : mX12_atRow [a, m, i] S v = some (167 + 30 * (4 * a + m) + i, v) ∧ 0 ≤ 167 + 30 * (4 * a + m) + i ∧ 167 + 30 * (4 * a + m) + i < 1095 := by
  have hk := mK_b h ha
  have hn := h.2.2.2.2.2.1
  have hn' := h.2.2.2.2.1
  exact ⟨m_atRow (by omega) (by omega) (by omega), by omega, by omega⟩
theorem m_isRow (h : RM S v M B) {a m i : Int} : mX12_isRow [M, a, m, i] S v = some (if ((0 ≤ a ∧ a < v (M + 4) B) ∧ (0 ≤ m ∧ m < v (M + 3) B)) ∧ 0 ≤ i ∧ i < mK v M a then 1 else 0, v) := by
  apply wM_eq
  by_cases h0 : (0 ≤ a ∧ a < v (M + 4) B) ∧ (0 ≤ m ∧ m < v (M + 3) B)
  · obtain ⟨ha, hm⟩ := h0
    have hk := mK_b h ha
    have e1 : w32 (mK v M a - 1) = mK v M a - 1 := w32_e (by omega)
    simp only [mX12_isRow, sX12_isRow, wE_I, wE_V, wE_F, wE_A, wE_N, wE_1, wE_2, wE_D, wE_B, wE_If, wE_C, wE_CV, wE_SL, wE_SA, wA_0, wA_1, wC_B, wC_E, wC_And, wC_Or, wC_Not, wS_Skip, wS_Brk, wS_Cnt, wS_RetV, wS_Ret, wS_Seq, wS_Set, wS_Inc, wS_Do, wS_Put, wS_PutC, wS_Arr, wS_ArrC, wS_If, wS_Sw, wS_F0, wS_F1, wM_q, lu_ap, aL_ap, ct_0, ct_1, ct_2, ct_3, ct_4, ct_5, headD_1, List.mem_cons, List.not_mem_nil, or_false, false_or, or_true, true_or, true_and, and_true, false_and, and_false, not_true_eq_false, not_false_eq_true, if_true, if_false, nr_20, nr_24, nr_40, nr_41, nr_44, pt_lt, pt_ge, pt_eq, pt_ne, pt_gt, pt_le, pt_E, pt_N, pt_F, ite_10, ite_11, ne_eq, and_self, or_self, decide_true, decide_false, Bool.not_true, Bool.not_false, Bool.false_eq_true, Nat.reduceEqDiff, Nat.reduceAdd, Int.reduceEq, Int.reduceLT, Int.reduceLE, Int.reduceNeg, Int.reduceAdd, Int.reduceSub, Int.reduceMul, reduceCtorEq, iA, iS, iM, iD, iR, iN, lA, lS, lM, lD, lR, h.1.k, wM_of (m_isBoth h), ha, hm, wM_of (m_rowsKept h ha), e1, wM_of m_isIn]
    clear e1
    by_cases hi : 0 ≤ i ∧ i < mK v M a
    · have e : 0 ≤ i ∧ i ≤ mK v M a - 1 := by omega
      simp [hi, e]
    · have e : ¬ (0 ≤ i ∧ i ≤ mK v M a - 1) := by omega
      simp [hi, e]
  · simp only [mX12_isRow, sX12_isRow, wE_I, wE_V, wE_F, wE_A, wE_N, wE_1, wE_2, wE_D, wE_B, wE_If, wE_C, wE_CV, wE_SL, wE_SA, wA_0, wA_1, wC_B, wC_E, wC_And, wC_Or, wC_Not, wS_Skip, wS_Brk, wS_Cnt, wS_RetV, wS_Ret, wS_Seq, wS_Set, wS_Inc, wS_Do, wS_Put, wS_PutC, wS_Arr, wS_ArrC, wS_If, wS_Sw, wS_F0, wS_F1, wM_q, lu_ap, aL_ap, ct_0, ct_1, ct_2, ct_3, ct_4, ct_5, headD_1, List.mem_cons, List.not_mem_nil, or_false, false_or, or_true, true_or, true_and, and_true, false_and, and_false, not_true_eq_false, not_false_eq_true, if_true, if_false, nr_20, nr_24, nr_40, nr_41, nr_44, pt_lt, pt_ge, pt_eq, pt_ne, pt_gt, pt_le, pt_E, pt_N, pt_F, ite_10, ite_11, ne_eq, and_self, or_self, decide_true, decide_false, Bool.not_true, Bool.not_false, Bool.false_eq_true, Nat.reduceEqDiff, Nat.reduceAdd, Int.reduceEq, Int.reduceLT, Int.reduceLE, Int.reduceNeg, Int.reduceAdd, Int.reduceSub, Int.reduceMul, reduceCtorEq, iA, iS, iM, iD, iR, iN, lA, lS, lM, lD, lR, h.1.k, wM_of (m_isBoth h), h0]
theorem m_row (h : RM S v M B) {a m i : Int} : mX12_row [M, a, m, i] S v = some (if ((0 ≤ a ∧ a < v (M + 4) B) ∧ (0 ≤ m ∧ m < v (M + 3) B)) ∧ 0 ≤ i ∧ i < mK v M a then w32 (mR v M a m i) else -2147483648, v) := by
  apply wM_eq
  by_cases h0 : ((0 ≤ a ∧ a < v (M + 4) B) ∧ (0 ≤ m ∧ m < v (M + 3) B)) ∧ 0 ≤ i ∧ i < mK v M a
  · obtain ⟨⟨ha, hm⟩, hi⟩ := h0
    have hc := m_cell h ha hm hi
    simp only [mX12_row, sX12_row, wE_I, wE_V, wE_F, wE_A, wE_N, wE_1, wE_2, wE_D, wE_B, wE_If, wE_C, wE_CV, wE_SL, wE_SA, wA_0, wA_1, wC_B, wC_E, wC_And, wC_Or, wC_Not, wS_Skip, wS_Brk, wS_Cnt, wS_RetV, wS_Ret, wS_Seq, wS_Set, wS_Inc, wS_Do, wS_Put, wS_PutC, wS_Arr, wS_ArrC, wS_If, wS_Sw, wS_F0, wS_F1, wM_q, lu_ap, aL_ap, ct_0, ct_1, ct_2, ct_3, ct_4, ct_5, headD_1, List.mem_cons, List.not_mem_nil, or_false, false_or, or_true, true_or, true_and, and_true, false_and, and_false, not_true_eq_false, not_false_eq_true, if_true, if_false, nr_20, nr_24, nr_40, nr_41, nr_44, pt_lt, pt_ge, pt_eq, pt_ne, pt_gt, pt_le, pt_E, pt_N, pt_F, ite_10, ite_11, ne_eq, and_self, or_self, decide_true, decide_false, Bool.not_true, Bool.not_false, Bool.false_eq_true, Nat.reduceEqDiff, Nat.reduceAdd, Int.reduceEq, Int.reduceLT, Int.reduceLE, Int.reduceNeg, Int.reduceAdd, Int.reduceSub, Int.reduceMul, reduceCtorEq, iA, iS, iM, iD, iR, iN, lA, lS, lM, lD, lR, h.1.k, h.1.p0, h.1.a1, h.1.n1, wM_of (m_isRow h), ha, hm, hi, wM_of hc.1, hc.2]
    rfl
  · simp only [mX12_row, sX12_row, wE_I, wE_V, wE_F, wE_A, wE_N, wE_1, wE_2, wE_D, wE_B, wE_If, wE_C, wE_CV, wE_SL, wE_SA, wA_0, wA_1, wC_B, wC_E, wC_And, wC_Or, wC_Not, wS_Skip, wS_Brk, wS_Cnt, wS_RetV, wS_Ret, wS_Seq, wS_Set, wS_Inc, wS_Do, wS_Put, wS_PutC, wS_Arr, wS_ArrC, wS_If, wS_Sw, wS_F0, wS_F1, wM_q, lu_ap, aL_ap, ct_0, ct_1, ct_2, ct_3, ct_4, ct_5, headD_1, List.mem_cons, List.not_mem_nil, or_false, false_or, or_true, true_or, true_and, and_true, false_and, and_false, not_true_eq_false, not_false_eq_true, if_true, if_false, nr_20, nr_24, nr_40, nr_41, nr_44, pt_lt, pt_ge, pt_eq, pt_ne, pt_gt, pt_le, pt_E, pt_N, pt_F, ite_10, ite_11, ne_eq, and_self, or_self, decide_true, decide_false, Bool.not_true, Bool.not_false, Bool.false_eq_true, Nat.reduceEqDiff, Nat.reduceAdd, Int.reduceEq, Int.reduceLT, Int.reduceLE, Int.reduceNeg, Int.reduceAdd, Int.reduceSub, Int.reduceMul, reduceCtorEq, iA, iS, iM, iD, iR, iN, lA, lS, lM, lD, lR, h.1.k, wM_of (m_isRow h), h0]
theorem m_isFollowed (h : RM S v M B) {m : Int} : mX12_isFollowed [M, m] S v = some (if (0 ≤ m ∧ m < v (M + 3) B) ∧ ¬ v (M + 18) (4 * B + m) = 0 then 1 else 0, v) := by
  apply wM_eq
  by_cases hm : 0 ≤ m ∧ m < v (M + 3) B
  · have hn' := h.2.2.2.2.1
    have hB := h.B2
    have e3 : 0 ≤ 4 * B + m ∧ 4 * B + m < 8 := by omega
    simp only [mX12_isFollowed, sX12_isFollowed, wE_I, wE_V, wE_F, wE_A, wE_N, wE_1, wE_2, wE_D, wE_B, wE_If, wE_C, wE_CV, wE_SL, wE_SA, wA_0, wA_1, wC_B, wC_E, wC_And, wC_Or, wC_Not, wS_Skip, wS_Brk, wS_Cnt, wS_RetV, wS_Ret, wS_Seq, wS_Set, wS_Inc, wS_Do, wS_Put, wS_PutC, wS_Arr, wS_ArrC, wS_If, wS_Sw, wS_F0, wS_F1, wM_q, lu_ap, aL_ap, ct_0, ct_1, ct_2, ct_3, ct_4, ct_5, headD_1, List.mem_cons, List.not_mem_nil, or_false, false_or, or_true, true_or, true_and, and_true, false_and, and_false, not_true_eq_false, not_false_eq_true, if_true, if_false, nr_20, nr_24, nr_40, nr_41, nr_44, pt_lt, pt_ge, pt_eq, pt_ne, pt_gt, pt_le, pt_E, pt_N, pt_F, ite_10, ite_11, ne_eq, and_self, or_self, decide_true, decide_false, Bool.not_true, Bool.not_false, Bool.false_eq_true, Nat.reduceEqDiff, Nat.reduceAdd, Int.reduceEq, Int.reduceLT, Int.reduceLE, Int.reduceNeg, Int.reduceAdd, Int.reduceSub, Int.reduceMul, reduceCtorEq, iA, iS, iM, iD, iR, iN, lA, lS, lM, lD, lR, h.1.k, wM_of (m_isMeasure h), hm, h.1.p17, h.1.a18, h.1.n18, h.2.1, wM_of (m_own h.2.2.1 (show 0 ≤ m ∧ m ≤ 1000 by omega)), e3, decide_eq_true_eq]
  · simp only [mX12_isFollowed, sX12_isFollowed, wE_I, wE_V, wE_F, wE_A, wE_N, wE_1, wE_2, wE_D, wE_B, wE_If, wE_C, wE_CV, wE_SL, wE_SA, wA_0, wA_1, wC_B, wC_E, wC_And, wC_Or, wC_Not, wS_Skip, wS_Brk, wS_Cnt, wS_RetV, wS_Ret, wS_Seq, wS_Set, wS_Inc, wS_Do, wS_Put, wS_PutC, wS_Arr, wS_ArrC, wS_If, wS_Sw, wS_F0, wS_F1, wM_q, lu_ap, aL_ap, ct_0, ct_1, ct_2, ct_3, ct_4, ct_5, headD_1, List.mem_cons, List.not_mem_nil, or_false, false_or, or_true, true_or, true_and, and_true, false_and, and_false, not_true_eq_false, not_false_eq_true, if_true, if_false, nr_20, nr_24, nr_40, nr_41, nr_44, pt_lt, pt_ge, pt_eq, pt_ne, pt_gt, pt_le, pt_E, pt_N, pt_F, ite_10, ite_11, ne_eq, and_self, or_self, decide_true, decide_false, Bool.not_true, Bool.not_false, Bool.false_eq_true, Nat.reduceEqDiff, Nat.reduceAdd, Int.reduceEq, Int.reduceLT, Int.reduceLE, Int.reduceNeg, Int.reduceAdd, Int.reduceSub, Int.reduceMul, reduceCtorEq, iA, iS, iM, iD, iR, iN, lA, lS, lM, lD, lR, h.1.k, wM_of (m_isMeasure h), hm]
end MQ
